/-! ===== BEGIN printed: names, fields, word lists, decode rows ===== -/
def RX0 : String := "DrillVault$Copy"
def TX0 : u_T := fun k => match k with
  | 0 => ("DrillVault$Copy", "number", "I", true)
  | 1 => ("DrillVault$Copy", "madeOn", "I", true)
  | 2 => ("DrillVault$Copy", "base", "LDrillVault$Copy;", true)
  | 3 => ("DrillVault$Copy", "changesAhead", "I", true)
  | 4 => ("DrillVault$Copy", "kept", "[I", true)
  | 5 => ("DrillVault$Copy", "keptContents", "I", false)
  | 6 => ("DrillVault$Copy", "damaged", "Z", false)
  | 7 => ("DrillVault$Copy", "proved", "Z", false)
  | 8 => ("DrillVault$Copy", "promised", "Z", false)
  | 9 => ("DrillVault$Copy", "needed", "Z", false)
  | _ => ("DrillVault$Copy", "held", "Z", false)
def tyX0 : Nat → FieldType := fun k => match k with
  | 0 => .int
  | 1 => .int
  | 2 => .object "DrillVault$Copy"
  | 3 => .int
  | 4 => .array .int
  | 5 => .int
  | 6 => .boolean
  | 7 => .boolean
  | 8 => .boolean
  | 9 => .boolean
  | _ => .boolean
abbrev wsX00 : List Cond := u_ws RX0 TX0 11
theorem nmX0 : ∀ a, a < 11 → ∀ b, b < 11 → a ≠ b → (TX0 a).2.1 ≠ (TX0 b).2.1 := by decide +kernel
theorem tyX0_ok : ∀ k, k < 11 → parseFieldDescriptor (TX0 k).2.2.1 = some (tyX0 k) := by decide +kernel
abbrev cX0_init : ByteArray := prog_2_method_1_code
def yX0_init : MethodName := ⟨RX0, "<init>", "(IILDrillVault$Copy;I)V"⟩
abbrev cX0_keep : ByteArray := prog_2_method_2_code
def yX0_keep : MethodName := ⟨RX0, "keep", "(II)V"⟩
abbrev cX0_spaceTaken : ByteArray := prog_2_method_3_code
def yX0_spaceTaken : MethodName := ⟨RX0, "spaceTaken", "()I"⟩
abbrev cX0_periodOf : ByteArray := prog_2_method_4_code
def yX0_periodOf : MethodName := ⟨RX0, "periodOf", "(I)I"⟩
abbrev cX0_contentByChain : ByteArray := prog_2_method_5_code
def yX0_contentByChain : MethodName := ⟨RX0, "contentByChain", "(I)I"⟩
abbrev cX0_hasDamagedChain : ByteArray := prog_2_method_6_code
def yX0_hasDamagedChain : MethodName := ⟨RX0, "hasDamagedChain", "()Z"⟩
abbrev cX0_proveChain : ByteArray := prog_2_method_7_code
def yX0_proveChain : MethodName := ⟨RX0, "proveChain", "(Z)V"⟩
abbrev cX0_chainLength : ByteArray := prog_2_method_8_code
def yX0_chainLength : MethodName := ⟨RX0, "chainLength", "()I"⟩
abbrev cX0_markChainNeeded : ByteArray := prog_2_method_9_code
def yX0_markChainNeeded : MethodName := ⟨RX0, "markChainNeeded", "()V"⟩
def RX1 : String := "DrillVault$Files"
def TX1 : u_T := fun k => match k with
  | 0 => ("DrillVault$Files", "contents", "[I", true)
  | 1 => ("DrillVault$Files", "changedFiles", "[I", true)
  | 2 => ("DrillVault$Files", "changedTo", "[I", true)
  | _ => ("DrillVault$Files", "changes", "I", false)
def tyX1 : Nat → FieldType := fun k => match k with
  | 0 => .array .int
  | 1 => .array .int
  | 2 => .array .int
  | _ => .int
abbrev wsX10 : List Cond := u_ws RX1 TX1 4
theorem nmX1 : ∀ a, a < 4 → ∀ b, b < 4 → a ≠ b → (TX1 a).2.1 ≠ (TX1 b).2.1 := by decide +kernel
theorem tyX1_ok : ∀ k, k < 4 → parseFieldDescriptor (TX1 k).2.2.1 = some (tyX1 k) := by decide +kernel
abbrev cX1_init : ByteArray := prog_3_method_1_code
def yX1_init : MethodName := ⟨RX1, "<init>", "()V"⟩
abbrev cX1_contentNow : ByteArray := prog_3_method_2_code
def yX1_contentNow : MethodName := ⟨RX1, "contentNow", "(I)I"⟩
abbrev cX1_write : ByteArray := prog_3_method_3_code
def yX1_write : MethodName := ⟨RX1, "write", "(II)V"⟩
abbrev cX1_keepAll : ByteArray := prog_3_method_4_code
def yX1_keepAll : MethodName := ⟨RX1, "keepAll", "(LDrillVault$Copy;)V"⟩
abbrev cX1_keepChanged : ByteArray := prog_3_method_5_code
def yX1_keepChanged : MethodName := ⟨RX1, "keepChanged", "(LDrillVault$Copy;I)V"⟩
abbrev cX1_contentAfter : ByteArray := prog_3_method_6_code
def yX1_contentAfter : MethodName := ⟨RX1, "contentAfter", "(II)I"⟩
def RX2 : String := "DrillVault$Rota"
def TX2 : u_T := fun k => match k with
  | _ => ("DrillVault$Rota", "persons", "[I", true)
def tyX2 : Nat → FieldType := fun k => match k with
  | _ => .array .int
abbrev wsX20 : List Cond := u_ws RX2 TX2 1
theorem nmX2 : ∀ a, a < 1 → ∀ b, b < 1 → a ≠ b → (TX2 a).2.1 ≠ (TX2 b).2.1 := by decide +kernel
theorem tyX2_ok : ∀ k, k < 1 → parseFieldDescriptor (TX2 k).2.2.1 = some (tyX2 k) := by decide +kernel
abbrev cX2_init : ByteArray := prog_4_method_1_code
def yX2_init : MethodName := ⟨RX2, "<init>", "()V"⟩
abbrev cX2_personOn : ByteArray := prog_4_method_2_code
def yX2_personOn : MethodName := ⟨RX2, "personOn", "(I)I"⟩
abbrev cX2_exchangeIfRested : ByteArray := prog_4_method_3_code
def yX2_exchangeIfRested : MethodName := ⟨RX2, "exchangeIfRested", "(II)Z"⟩
abbrev cX2_exchange : ByteArray := prog_4_method_4_code
def yX2_exchange : MethodName := ⟨RX2, "exchange", "(II)V"⟩
abbrev cX2_isRestedAround : ByteArray := prog_4_method_5_code
def yX2_isRestedAround : MethodName := ⟨RX2, "isRestedAround", "(I)Z"⟩
abbrev cX2_firstToAnswer : ByteArray := prog_4_method_6_code
def yX2_firstToAnswer : MethodName := ⟨RX2, "firstToAnswer", "(II)I"⟩
def RX3 : String := "DrillVault$Shelf"
def TX3 : u_T := fun k => match k with
  | 0 => ("DrillVault$Shelf", "rows", "[LDrillVault$Copy;", true)
  | 1 => ("DrillVault$Shelf", "made", "I", false)
  | 2 => ("DrillVault$Shelf", "daysRule", "I", false)
  | 3 => ("DrillVault$Shelf", "weeksRule", "I", false)
  | _ => ("DrillVault$Shelf", "monthsRule", "I", false)
def tyX3 : Nat → FieldType := fun k => match k with
  | 0 => .array (.object "DrillVault$Copy")
  | 1 => .int
  | 2 => .int
  | 3 => .int
  | _ => .int
abbrev wsX30 : List Cond := u_ws RX3 TX3 5
theorem nmX3 : ∀ a, a < 5 → ∀ b, b < 5 → a ≠ b → (TX3 a).2.1 ≠ (TX3 b).2.1 := by decide +kernel
theorem tyX3_ok : ∀ k, k < 5 → parseFieldDescriptor (TX3 k).2.2.1 = some (tyX3 k) := by decide +kernel
abbrev cX3_init : ByteArray := prog_5_method_1_code
def yX3_init : MethodName := ⟨RX3, "<init>", "()V"⟩
abbrev cX3_find : ByteArray := prog_5_method_2_code
def yX3_find : MethodName := ⟨RX3, "find", "(I)LDrillVault$Copy;"⟩
abbrev cX3_latest : ByteArray := prog_5_method_3_code
def yX3_latest : MethodName := ⟨RX3, "latest", "()LDrillVault$Copy;"⟩
abbrev cX3_put : ByteArray := prog_5_method_4_code
def yX3_put : MethodName := ⟨RX3, "put", "(LDrillVault$Copy;)V"⟩
abbrev cX3_countThere : ByteArray := prog_5_method_5_code
def yX3_countThere : MethodName := ⟨RX3, "countThere", "()I"⟩
abbrev cX3_spaceTaken : ByteArray := prog_5_method_6_code
def yX3_spaceTaken : MethodName := ⟨RX3, "spaceTaken", "()I"⟩
abbrev cX3_markGenerations : ByteArray := prog_5_method_7_code
def yX3_markGenerations : MethodName := ⟨RX3, "markGenerations", "()V"⟩
abbrev cX3_promiseLatest : ByteArray := prog_5_method_8_code
def yX3_promiseLatest : MethodName := ⟨RX3, "promiseLatest", "(II)V"⟩
abbrev cX3_countPromised : ByteArray := prog_5_method_9_code
def yX3_countPromised : MethodName := ⟨RX3, "countPromised", "()I"⟩
abbrev cX3_countPromisedButDamaged : ByteArray := prog_5_method_10_code
def yX3_countPromisedButDamaged : MethodName := ⟨RX3, "countPromisedButDamaged", "()I"⟩
abbrev cX3_takeOffLoose : ByteArray := prog_5_method_11_code
def yX3_takeOffLoose : MethodName := ⟨RX3, "takeOffLoose", "()I"⟩
abbrev cX3_latestProvedDay : ByteArray := prog_5_method_12_code
def yX3_latestProvedDay : MethodName := ⟨RX3, "latestProvedDay", "()I"⟩
abbrev cX3_markHeld : ByteArray := prog_5_method_13_code
def yX3_markHeld : MethodName := ⟨RX3, "markHeld", "(I)V"⟩
def RX4 : String := "DrillVault"
def TX4 : u_T := fun k => match k with
  | 0 => ("DrillVault", "files", "LDrillVault$Files;", true)
  | 1 => ("DrillVault", "shelf", "LDrillVault$Shelf;", true)
  | 2 => ("DrillVault", "rota", "LDrillVault$Rota;", true)
  | _ => ("DrillVault", "today", "I", false)
def tyX4 : Nat → FieldType := fun k => match k with
  | 0 => .object "DrillVault$Files"
  | 1 => .object "DrillVault$Shelf"
  | 2 => .object "DrillVault$Rota"
  | _ => .int
abbrev wsX40 : List Cond := u_ws RX4 TX4 4
theorem nmX4 : ∀ a, a < 4 → ∀ b, b < 4 → a ≠ b → (TX4 a).2.1 ≠ (TX4 b).2.1 := by decide +kernel
theorem tyX4_ok : ∀ k, k < 4 → parseFieldDescriptor (TX4 k).2.2.1 = some (tyX4 k) := by decide +kernel
abbrev cX4_init : ByteArray := prog_1_method_1_code
def yX4_init : MethodName := ⟨RX4, "<init>", "()V"⟩
abbrev cX4_change : ByteArray := prog_1_method_2_code
def yX4_change : MethodName := ⟨RX4, "change", "(II)I"⟩
abbrev cX4_pass : ByteArray := prog_1_method_3_code
def yX4_pass : MethodName := ⟨RX4, "pass", "(I)I"⟩
abbrev cX4_full : ByteArray := prog_1_method_4_code
def yX4_full : MethodName := ⟨RX4, "full", "()I"⟩
abbrev cX4_increment : ByteArray := prog_1_method_5_code
def yX4_increment : MethodName := ⟨RX4, "increment", "()I"⟩
abbrev cX4_damage : ByteArray := prog_1_method_6_code
def yX4_damage : MethodName := ⟨RX4, "damage", "(I)I"⟩
abbrev cX4_drill : ByteArray := prog_1_method_7_code
def yX4_drill : MethodName := ⟨RX4, "drill", "(I)I"⟩
abbrev cX4_setRules : ByteArray := prog_1_method_8_code
def yX4_setRules : MethodName := ⟨RX4, "setRules", "(III)I"⟩
abbrev cX4_thin : ByteArray := prog_1_method_9_code
def yX4_thin : MethodName := ⟨RX4, "thin", "()I"⟩
abbrev cX4_day : ByteArray := prog_1_method_10_code
def yX4_day : MethodName := ⟨RX4, "day", "()I"⟩
abbrev cX4_copies : ByteArray := prog_1_method_11_code
def yX4_copies : MethodName := ⟨RX4, "copies", "()I"⟩
abbrev cX4_space : ByteArray := prog_1_method_12_code
def yX4_space : MethodName := ⟨RX4, "space", "()I"⟩
abbrev cX4_dayOf : ByteArray := prog_1_method_13_code
def yX4_dayOf : MethodName := ⟨RX4, "dayOf", "(I)I"⟩
abbrev cX4_baseOf : ByteArray := prog_1_method_14_code
def yX4_baseOf : MethodName := ⟨RX4, "baseOf", "(I)I"⟩
abbrev cX4_keeps : ByteArray := prog_1_method_15_code
def yX4_keeps : MethodName := ⟨RX4, "keeps", "(I)I"⟩
abbrev cX4_isPromised : ByteArray := prog_1_method_16_code
def yX4_isPromised : MethodName := ⟨RX4, "isPromised", "(I)Z"⟩
abbrev cX4_isNeeded : ByteArray := prog_1_method_17_code
def yX4_isNeeded : MethodName := ⟨RX4, "isNeeded", "(I)Z"⟩
abbrev cX4_isProved : ByteArray := prog_1_method_18_code
def yX4_isProved : MethodName := ⟨RX4, "isProved", "(I)Z"⟩
abbrev cX4_restore : ByteArray := prog_1_method_19_code
def yX4_restore : MethodName := ⟨RX4, "restore", "(II)I"⟩
abbrev cX4_restoreByChanges : ByteArray := prog_1_method_20_code
def yX4_restoreByChanges : MethodName := ⟨RX4, "restoreByChanges", "(II)I"⟩
abbrev cX4_onCall : ByteArray := prog_1_method_21_code
def yX4_onCall : MethodName := ⟨RX4, "onCall", "(I)I"⟩
abbrev cX4_swap : ByteArray := prog_1_method_22_code
def yX4_swap : MethodName := ⟨RX4, "swap", "(II)I"⟩
abbrev cX4_alarm : ByteArray := prog_1_method_23_code
def yX4_alarm : MethodName := ⟨RX4, "alarm", "(I)I"⟩
abbrev cX4_requireFile : ByteArray := prog_1_method_24_code
def yX4_requireFile : MethodName := ⟨RX4, "requireFile", "(I)V"⟩
abbrev cX4_requireCopy : ByteArray := prog_1_method_25_code
def yX4_requireCopy : MethodName := ⟨RX4, "requireCopy", "(I)LDrillVault$Copy;"⟩
abbrev cX4_isOpenForSwaps : ByteArray := prog_1_method_26_code
def yX4_isOpenForSwaps : MethodName := ⟨RX4, "isOpenForSwaps", "(I)Z"⟩
def RX5 : String := "DrillVaultModel"
def TX5 : u_T := fun k => match k with
  | 0 => ("DrillVaultModel", "contents", "[I", true)
  | 1 => ("DrillVaultModel", "changed", "[I", true)
  | 2 => ("DrillVaultModel", "changes", "I", false)
  | 3 => ("DrillVaultModel", "day", "I", false)
  | 4 => ("DrillVaultModel", "days", "[I", true)
  | 5 => ("DrillVaultModel", "bases", "[I", true)
  | 6 => ("DrillVaultModel", "sizes", "[I", true)
  | 7 => ("DrillVaultModel", "madeAt", "[I", true)
  | 8 => ("DrillVaultModel", "kept", "[I", true)
  | 9 => ("DrillVaultModel", "there", "[Z", true)
  | 10 => ("DrillVaultModel", "damaged", "[Z", true)
  | 11 => ("DrillVaultModel", "proved", "[Z", true)
  | 12 => ("DrillVaultModel", "made", "I", false)
  | 13 => ("DrillVaultModel", "dayRule", "I", false)
  | 14 => ("DrillVaultModel", "weekRule", "I", false)
  | 15 => ("DrillVaultModel", "monthRule", "I", false)
  | 16 => ("DrillVaultModel", "promised", "[Z", true)
  | 17 => ("DrillVaultModel", "needed", "[Z", true)
  | 18 => ("DrillVaultModel", "loose", "[Z", true)
  | 19 => ("DrillVaultModel", "rota", "[I", true)
  | _ => ("DrillVaultModel", "last", "I", false)
def tyX5 : Nat → FieldType := fun k => match k with
  | 0 => .array .int
  | 1 => .array .int
  | 2 => .int
  | 3 => .int
  | 4 => .array .int
  | 5 => .array .int
  | 6 => .array .int
  | 7 => .array .int
  | 8 => .array .int
  | 9 => .array .boolean
  | 10 => .array .boolean
  | 11 => .array .boolean
  | 12 => .int
  | 13 => .int
  | 14 => .int
  | 15 => .int
  | 16 => .array .boolean
  | 17 => .array .boolean
  | 18 => .array .boolean
  | 19 => .array .int
  | _ => .int
abbrev wsX50 : List Cond := u_ws RX5 TX5 21
theorem nmX5 : ∀ a, a < 21 → ∀ b, b < 21 → a ≠ b → (TX5 a).2.1 ≠ (TX5 b).2.1 := by decide +kernel
theorem tyX5_ok : ∀ k, k < 21 → parseFieldDescriptor (TX5 k).2.2.1 = some (tyX5 k) := by decide +kernel
abbrev cX5_init : ByteArray := prog_7_method_1_code
def yX5_init : MethodName := ⟨RX5, "<init>", "()V"⟩
abbrev cX5_thrown : ByteArray := prog_7_method_2_code
def yX5_thrown : MethodName := ⟨RX5, "thrown", "()I"⟩
abbrev cX5_in : ByteArray := prog_7_method_3_code
def yX5_in : MethodName := ⟨RX5, "in", "(III)Z"⟩
abbrev cX5_goes : ByteArray := prog_7_method_4_code
def yX5_goes : MethodName := ⟨RX5, "goes", "(ZZZ)Z"⟩
abbrev cX5_isCopy : ByteArray := prog_7_method_5_code
def yX5_isCopy : MethodName := ⟨RX5, "isCopy", "(I)Z"⟩
abbrev cX5_isFile : ByteArray := prog_7_method_6_code
def yX5_isFile : MethodName := ⟨RX5, "isFile", "(I)Z"⟩
abbrev cX5_change : ByteArray := prog_7_method_7_code
def yX5_change : MethodName := ⟨RX5, "change", "(II)I"⟩
abbrev cX5_pass : ByteArray := prog_7_method_8_code
def yX5_pass : MethodName := ⟨RX5, "pass", "(I)I"⟩
abbrev cX5_latest : ByteArray := prog_7_method_9_code
def yX5_latest : MethodName := ⟨RX5, "latest", "()I"⟩
abbrev cX5_makes : ByteArray := prog_7_method_10_code
def yX5_makes : MethodName := ⟨RX5, "makes", "(I)I"⟩
abbrev cX5_full : ByteArray := prog_7_method_11_code
def yX5_full : MethodName := ⟨RX5, "full", "()I"⟩
abbrev cX5_increment : ByteArray := prog_7_method_12_code
def yX5_increment : MethodName := ⟨RX5, "increment", "()I"⟩
abbrev cX5_promises : ByteArray := prog_7_method_13_code
def yX5_promises : MethodName := ⟨RX5, "promises", "(II)V"⟩
abbrev cX5_marks : ByteArray := prog_7_method_14_code
def yX5_marks : MethodName := ⟨RX5, "marks", "()I"⟩
abbrev cX5_isBroken : ByteArray := prog_7_method_15_code
def yX5_isBroken : MethodName := ⟨RX5, "isBroken", "(I)Z"⟩
abbrev cX5_damage : ByteArray := prog_7_method_16_code
def yX5_damage : MethodName := ⟨RX5, "damage", "(I)I"⟩
abbrev cX5_drill : ByteArray := prog_7_method_17_code
def yX5_drill : MethodName := ⟨RX5, "drill", "(I)I"⟩
abbrev cX5_setRules : ByteArray := prog_7_method_18_code
def yX5_setRules : MethodName := ⟨RX5, "setRules", "(III)I"⟩
abbrev cX5_thin : ByteArray := prog_7_method_19_code
def yX5_thin : MethodName := ⟨RX5, "thin", "()I"⟩
abbrev cX5_day : ByteArray := prog_7_method_20_code
def yX5_day : MethodName := ⟨RX5, "day", "()I"⟩
abbrev cX5_copies : ByteArray := prog_7_method_21_code
def yX5_copies : MethodName := ⟨RX5, "copies", "()I"⟩
abbrev cX5_space : ByteArray := prog_7_method_22_code
def yX5_space : MethodName := ⟨RX5, "space", "()I"⟩
abbrev cX5_dayOf : ByteArray := prog_7_method_23_code
def yX5_dayOf : MethodName := ⟨RX5, "dayOf", "(I)I"⟩
abbrev cX5_baseOf : ByteArray := prog_7_method_24_code
def yX5_baseOf : MethodName := ⟨RX5, "baseOf", "(I)I"⟩
abbrev cX5_keeps : ByteArray := prog_7_method_25_code
def yX5_keeps : MethodName := ⟨RX5, "keeps", "(I)I"⟩
abbrev cX5_isPromised : ByteArray := prog_7_method_26_code
def yX5_isPromised : MethodName := ⟨RX5, "isPromised", "(I)Z"⟩
abbrev cX5_isNeeded : ByteArray := prog_7_method_27_code
def yX5_isNeeded : MethodName := ⟨RX5, "isNeeded", "(I)Z"⟩
abbrev cX5_isProved : ByteArray := prog_7_method_28_code
def yX5_isProved : MethodName := ⟨RX5, "isProved", "(I)Z"⟩
abbrev cX5_restore : ByteArray := prog_7_method_29_code
def yX5_restore : MethodName := ⟨RX5, "restore", "(II)I"⟩
abbrev cX5_restoreByChanges : ByteArray := prog_7_method_30_code
def yX5_restoreByChanges : MethodName := ⟨RX5, "restoreByChanges", "(II)I"⟩
abbrev cX5_isDay : ByteArray := prog_7_method_31_code
def yX5_isDay : MethodName := ⟨RX5, "isDay", "(I)Z"⟩
abbrev cX5_onCall : ByteArray := prog_7_method_32_code
def yX5_onCall : MethodName := ⟨RX5, "onCall", "(I)I"⟩
abbrev cX5_isTwice : ByteArray := prog_7_method_33_code
def yX5_isTwice : MethodName := ⟨RX5, "isTwice", "(I)Z"⟩
abbrev cX5_exchanges : ByteArray := prog_7_method_34_code
def yX5_exchanges : MethodName := ⟨RX5, "exchanges", "(II)V"⟩
abbrev cX5_swap : ByteArray := prog_7_method_35_code
def yX5_swap : MethodName := ⟨RX5, "swap", "(II)I"⟩
abbrev cX5_alarm : ByteArray := prog_7_method_36_code
def yX5_alarm : MethodName := ⟨RX5, "alarm", "(I)I"⟩
def RJ9 : String := "java/lang/Math"
def TJ9 : u_T := fun k => match k with
  | _ => ("", "", "", false)
def tyJ9 : Nat → FieldType := fun k => match k with
  | _ => .int
abbrev wsJ90 : List Cond := u_ws RJ9 TJ9 0
theorem nmJ9 : ∀ a, a < 0 → ∀ b, b < 0 → a ≠ b → (TJ9 a).2.1 ≠ (TJ9 b).2.1 := by decide +kernel
theorem tyJ9_ok : ∀ k, k < 0 → parseFieldDescriptor (TJ9 k).2.2.1 = some (tyJ9 k) := by decide +kernel
abbrev cJ9_max_7cf53 : ByteArray := prog_12_method_65_code
def yJ9_max_7cf53 : MethodName := ⟨RJ9, "max", "(II)I"⟩
def RJ0 : String := "java/lang/String"
def TJ0 : u_T := fun k => match k with
  | _ => ("", "", "", false)
def tyJ0 : Nat → FieldType := fun k => match k with
  | _ => .int
abbrev wsJ00 : List Cond := u_ws RJ0 TJ0 0
theorem nmJ0 : ∀ a, a < 0 → ∀ b, b < 0 → a ≠ b → (TJ0 a).2.1 ≠ (TJ0 b).2.1 := by decide +kernel
theorem tyJ0_ok : ∀ k, k < 0 → parseFieldDescriptor (TJ0 k).2.2.1 = some (tyJ0 k) := by decide +kernel
def RL : String := "DrillVaultLaw"
abbrev cL_change : ByteArray := method_3_code
def yL_change : MethodName := ⟨RL, "change", "(LDrillVault;II[J)I"⟩
abbrev cL_pass : ByteArray := method_4_code
def yL_pass : MethodName := ⟨RL, "pass", "(LDrillVault;I[J)I"⟩
abbrev cL_full : ByteArray := method_5_code
def yL_full : MethodName := ⟨RL, "full", "(LDrillVault;[J)I"⟩
abbrev cL_increment : ByteArray := method_6_code
def yL_increment : MethodName := ⟨RL, "increment", "(LDrillVault;[J)I"⟩
abbrev cL_damage : ByteArray := method_7_code
def yL_damage : MethodName := ⟨RL, "damage", "(LDrillVault;I[J)I"⟩
abbrev cL_drill : ByteArray := method_8_code
def yL_drill : MethodName := ⟨RL, "drill", "(LDrillVault;I[J)I"⟩
abbrev cL_setRules : ByteArray := method_9_code
def yL_setRules : MethodName := ⟨RL, "setRules", "(LDrillVault;III[J)I"⟩
abbrev cL_dayOf : ByteArray := method_10_code
def yL_dayOf : MethodName := ⟨RL, "dayOf", "(LDrillVault;I[J)I"⟩
abbrev cL_baseOf : ByteArray := method_11_code
def yL_baseOf : MethodName := ⟨RL, "baseOf", "(LDrillVault;I[J)I"⟩
abbrev cL_keeps : ByteArray := method_12_code
def yL_keeps : MethodName := ⟨RL, "keeps", "(LDrillVault;I[J)I"⟩
abbrev cL_isPromised : ByteArray := method_13_code
def yL_isPromised : MethodName := ⟨RL, "isPromised", "(LDrillVault;I[J)I"⟩
abbrev cL_isNeeded : ByteArray := method_14_code
def yL_isNeeded : MethodName := ⟨RL, "isNeeded", "(LDrillVault;I[J)I"⟩
abbrev cL_isProved : ByteArray := method_15_code
def yL_isProved : MethodName := ⟨RL, "isProved", "(LDrillVault;I[J)I"⟩
abbrev cL_restore : ByteArray := method_16_code
def yL_restore : MethodName := ⟨RL, "restore", "(LDrillVault;II[J)I"⟩
abbrev cL_restoreByChanges : ByteArray := method_17_code
def yL_restoreByChanges : MethodName := ⟨RL, "restoreByChanges", "(LDrillVault;II[J)I"⟩
abbrev cL_onCall : ByteArray := method_18_code
def yL_onCall : MethodName := ⟨RL, "onCall", "(LDrillVault;I[J)I"⟩
abbrev cL_swap : ByteArray := method_19_code
def yL_swap : MethodName := ⟨RL, "swap", "(LDrillVault;II[J)I"⟩
abbrev cL_alarm : ByteArray := method_20_code
def yL_alarm : MethodName := ⟨RL, "alarm", "(LDrillVault;I[J)I"⟩
abbrev cL_law : ByteArray := code
def yL_law : MethodName := ⟨RL, "law", "([I)Z"⟩
def wsX0_init : List Cond := .code yX0_init cX0_init 6 none :: ([.methodLink RX0 3 objectInit, .instanceMethod objectInit, .code objectInit ⟨#[0xb1]⟩ 1 none, .arrayClass .int, .fieldLink RX0 9 "DrillVault$Copy" "kept" "[I", .fieldLink RX0 15 "DrillVault$Copy" "number" "I", .fieldLink RX0 19 "DrillVault$Copy" "madeOn" "I", .fieldLink RX0 22 "DrillVault$Copy" "base" "LDrillVault$Copy;", .fieldLink RX0 26 "DrillVault$Copy" "changesAhead" "I"] ++ wsX00)
def wsX0_keep : List Cond := .code yX0_keep cX0_keep 3 none :: ([.fieldLink RX0 9 "DrillVault$Copy" "kept" "[I", .fieldLink RX0 29 "DrillVault$Copy" "keptContents" "I"] ++ wsX00)
def wsX0_spaceTaken : List Cond := .code yX0_spaceTaken cX0_spaceTaken 1 (some .int) :: ([.fieldLink RX0 29 "DrillVault$Copy" "keptContents" "I"] ++ wsX00)
def wsX0_periodOf : List Cond := .code yX0_periodOf cX0_periodOf 2 (some .int) :: ([.fieldLink RX0 19 "DrillVault$Copy" "madeOn" "I"] ++ wsX00)
def wsX0_contentByChain : List Cond := .code yX0_contentByChain cX0_contentByChain 3 (some .int) :: ([.fieldLink RX0 9 "DrillVault$Copy" "kept" "[I", .fieldLink RX0 22 "DrillVault$Copy" "base" "LDrillVault$Copy;"] ++ wsX00)
def wsX0_hasDamagedChain : List Cond := .code yX0_hasDamagedChain cX0_hasDamagedChain 2 (some .boolean) :: ([.fieldLink RX0 32 "DrillVault$Copy" "damaged" "Z", .fieldLink RX0 22 "DrillVault$Copy" "base" "LDrillVault$Copy;"] ++ wsX00)
def wsX0_proveChain : List Cond := .code yX0_proveChain cX0_proveChain 3 none :: ([.fieldLink RX0 36 "DrillVault$Copy" "proved" "Z", .fieldLink RX0 22 "DrillVault$Copy" "base" "LDrillVault$Copy;"] ++ wsX00)
def wsX0_chainLength : List Cond := .code yX0_chainLength cX0_chainLength 3 (some .int) :: ([.fieldLink RX0 22 "DrillVault$Copy" "base" "LDrillVault$Copy;"] ++ wsX00)
def wsX0_markChainNeeded : List Cond := .code yX0_markChainNeeded cX0_markChainNeeded 2 none :: ([.fieldLink RX0 39 "DrillVault$Copy" "needed" "Z", .fieldLink RX0 22 "DrillVault$Copy" "base" "LDrillVault$Copy;"] ++ wsX00)
def wsX1_init : List Cond := .code yX1_init cX1_init 1 none :: ([.methodLink RX1 3 objectInit, .instanceMethod objectInit, .code objectInit ⟨#[0xb1]⟩ 1 none, .arrayClass .int, .fieldLink RX1 9 "DrillVault$Files" "contents" "[I", .fieldLink RX1 15 "DrillVault$Files" "changedFiles" "[I", .fieldLink RX1 18 "DrillVault$Files" "changedTo" "[I"] ++ wsX10)
def wsX1_contentNow : List Cond := .code yX1_contentNow cX1_contentNow 2 (some .int) :: ([.fieldLink RX1 9 "DrillVault$Files" "contents" "[I"] ++ wsX10)
def wsX1_write : List Cond := .code yX1_write cX1_write 3 none :: ([.fieldLink RX1 9 "DrillVault$Files" "contents" "[I", .fieldLink RX1 21 "DrillVault$Files" "changes" "I", .fieldLink RX1 15 "DrillVault$Files" "changedFiles" "[I", .fieldLink RX1 18 "DrillVault$Files" "changedTo" "[I"] ++ wsX10)
def wsX1_keepAll : List Cond := .code yX1_keepAll cX1_keepAll 3 none :: ([.fieldLink RX1 9 "DrillVault$Files" "contents" "[I", .methodLink RX1 25 yX0_keep, .instanceMethod yX0_keep, .selects RX0 yX0_keep yX0_keep, .initialized RX0, .code yX0_keep cX0_keep 3 none, .fieldLink RX0 9 "DrillVault$Copy" "kept" "[I", .fieldLink RX0 29 "DrillVault$Copy" "keptContents" "I"] ++ wsX10 ++ wsX00)
def wsX1_keepChanged : List Cond := .code yX1_keepChanged cX1_keepChanged 4 none :: ([.methodLink RX1 31 Lib.Math.max.name, .static Lib.Math.max.name, .initialized "java/lang/Math", .code Lib.Math.max.name Lib.Math.max.code 2 (some .int), .fieldLink RX1 21 "DrillVault$Files" "changes" "I", .fieldLink RX1 15 "DrillVault$Files" "changedFiles" "[I", .methodLink RX1 37 yX1_contentNow, .instanceMethod yX1_contentNow, .selects RX1 yX1_contentNow yX1_contentNow, .initialized RX1, .code yX1_contentNow cX1_contentNow 2 (some .int), .fieldLink RX1 9 "DrillVault$Files" "contents" "[I", .methodLink RX1 25 yX0_keep, .instanceMethod yX0_keep, .selects RX0 yX0_keep yX0_keep, .initialized RX0, .code yX0_keep cX0_keep 3 none, .fieldLink RX0 9 "DrillVault$Copy" "kept" "[I", .fieldLink RX0 29 "DrillVault$Copy" "keptContents" "I"] ++ wsX10 ++ wsX00)
def wsX1_contentAfter : List Cond := .code yX1_contentAfter cX1_contentAfter 5 (some .int) :: ([.fieldLink RX1 15 "DrillVault$Files" "changedFiles" "[I", .fieldLink RX1 18 "DrillVault$Files" "changedTo" "[I"] ++ wsX10)
def wsX2_init : List Cond := .code yX2_init cX2_init 2 none :: ([.methodLink RX2 3 objectInit, .instanceMethod objectInit, .code objectInit ⟨#[0xb1]⟩ 1 none, .arrayClass .int, .fieldLink RX2 9 "DrillVault$Rota" "persons" "[I"] ++ wsX20)
def wsX2_personOn : List Cond := .code yX2_personOn cX2_personOn 2 (some .int) :: ([.fieldLink RX2 9 "DrillVault$Rota" "persons" "[I"] ++ wsX20)
def wsX2_exchange : List Cond := .code yX2_exchange cX2_exchange 4 none :: ([.fieldLink RX2 9 "DrillVault$Rota" "persons" "[I"] ++ wsX20)
def wsX2_isRestedAround : List Cond := .code yX2_isRestedAround cX2_isRestedAround 3 (some .boolean) :: ([.methodLink RX2 23 yX2_personOn, .instanceMethod yX2_personOn, .selects RX2 yX2_personOn yX2_personOn, .initialized RX2, .code yX2_personOn cX2_personOn 2 (some .int), .fieldLink RX2 9 "DrillVault$Rota" "persons" "[I"] ++ wsX20)
def wsX2_exchangeIfRested : List Cond := .code yX2_exchangeIfRested cX2_exchangeIfRested 3 (some .boolean) :: ([.methodLink RX2 15 yX2_exchange, .instanceMethod yX2_exchange, .selects RX2 yX2_exchange yX2_exchange, .initialized RX2, .code yX2_exchange cX2_exchange 4 none, .fieldLink RX2 9 "DrillVault$Rota" "persons" "[I", .methodLink RX2 19 yX2_isRestedAround, .instanceMethod yX2_isRestedAround, .selects RX2 yX2_isRestedAround yX2_isRestedAround, .code yX2_isRestedAround cX2_isRestedAround 3 (some .boolean), .methodLink RX2 23 yX2_personOn, .instanceMethod yX2_personOn, .selects RX2 yX2_personOn yX2_personOn, .code yX2_personOn cX2_personOn 2 (some .int)] ++ wsX20)
def wsX2_firstToAnswer : List Cond := .code yX2_firstToAnswer cX2_firstToAnswer 5 (some .int) :: ([.methodLink RX2 23 yX2_personOn, .instanceMethod yX2_personOn, .selects RX2 yX2_personOn yX2_personOn, .initialized RX2, .code yX2_personOn cX2_personOn 2 (some .int), .fieldLink RX2 9 "DrillVault$Rota" "persons" "[I"] ++ wsX20)
def wsX3_init : List Cond := .code yX3_init cX3_init 1 none :: ([.methodLink RX3 3 objectInit, .instanceMethod objectInit, .code objectInit ⟨#[0xb1]⟩ 1 none, .classLink RX3 9 RX0, .fieldLink RX3 11 "DrillVault$Shelf" "rows" "[LDrillVault$Copy;", .fieldLink RX3 17 "DrillVault$Shelf" "daysRule" "I", .fieldLink RX3 21 "DrillVault$Shelf" "weeksRule" "I", .fieldLink RX3 24 "DrillVault$Shelf" "monthsRule" "I"] ++ wsX30)
def wsX3_find : List Cond := .code yX3_find cX3_find 2 (some (.object "DrillVault$Copy")) :: ([.fieldLink RX3 11 "DrillVault$Shelf" "rows" "[LDrillVault$Copy;"] ++ wsX30)
def wsX3_latest : List Cond := .code yX3_latest cX3_latest 2 (some (.object "DrillVault$Copy")) :: ([.fieldLink RX3 11 "DrillVault$Shelf" "rows" "[LDrillVault$Copy;"] ++ wsX30)
def wsX3_put : List Cond := .code yX3_put cX3_put 2 none :: ([.fieldLink RX3 27 "DrillVault$Shelf" "made" "I", .fieldLink RX3 11 "DrillVault$Shelf" "rows" "[LDrillVault$Copy;"] ++ wsX30)
def wsX3_countThere : List Cond := .code yX3_countThere cX3_countThere 6 (some .int) :: ([.fieldLink RX3 11 "DrillVault$Shelf" "rows" "[LDrillVault$Copy;"] ++ wsX30)
def wsX3_spaceTaken : List Cond := .code yX3_spaceTaken cX3_spaceTaken 6 (some .int) :: ([.fieldLink RX3 11 "DrillVault$Shelf" "rows" "[LDrillVault$Copy;", .methodLink RX3 30 yX0_spaceTaken, .instanceMethod yX0_spaceTaken, .selects RX0 yX0_spaceTaken yX0_spaceTaken, .initialized RX0, .code yX0_spaceTaken cX0_spaceTaken 1 (some .int), .fieldLink RX0 29 "DrillVault$Copy" "keptContents" "I"] ++ wsX30 ++ wsX00)
def wsX3_promiseLatest : List Cond := .code yX3_promiseLatest cX3_promiseLatest 7 none :: ([.fieldLink RX3 11 "DrillVault$Shelf" "rows" "[LDrillVault$Copy;", .methodLink RX3 48 yX0_periodOf, .instanceMethod yX0_periodOf, .selects RX0 yX0_periodOf yX0_periodOf, .initialized RX0, .code yX0_periodOf cX0_periodOf 2 (some .int), .fieldLink RX0 19 "DrillVault$Copy" "madeOn" "I"] ++ wsX30 ++ wsX00)
def wsX3_markGenerations : List Cond := .code yX3_markGenerations cX3_markGenerations 5 none :: ([.fieldLink RX3 11 "DrillVault$Shelf" "rows" "[LDrillVault$Copy;", .fieldLink RX3 17 "DrillVault$Shelf" "daysRule" "I", .fieldLink RX3 21 "DrillVault$Shelf" "weeksRule" "I", .fieldLink RX3 24 "DrillVault$Shelf" "monthsRule" "I", .methodLink RX3 41 yX3_promiseLatest, .instanceMethod yX3_promiseLatest, .selects RX3 yX3_promiseLatest yX3_promiseLatest, .initialized RX3, .code yX3_promiseLatest cX3_promiseLatest 7 none, .methodLink RX3 48 yX0_periodOf, .instanceMethod yX0_periodOf, .selects RX0 yX0_periodOf yX0_periodOf, .initialized RX0, .code yX0_periodOf cX0_periodOf 2 (some .int), .fieldLink RX0 19 "DrillVault$Copy" "madeOn" "I", .methodLink RX3 45 yX0_markChainNeeded, .instanceMethod yX0_markChainNeeded, .selects RX0 yX0_markChainNeeded yX0_markChainNeeded, .code yX0_markChainNeeded cX0_markChainNeeded 2 none, .fieldLink RX0 39 "DrillVault$Copy" "needed" "Z", .fieldLink RX0 22 "DrillVault$Copy" "base" "LDrillVault$Copy;"] ++ wsX30 ++ wsX00)
def wsX3_countPromised_r1 : List Cond := [Cond.fieldLink RX3 11 "DrillVault$Shelf" "rows" "[LDrillVault$Copy;", Cond.methodLink RX3 52 yX3_markGenerations, Cond.instanceMethod yX3_markGenerations, Cond.selects RX3 yX3_markGenerations yX3_markGenerations, Cond.initialized RX3, Cond.code yX3_markGenerations cX3_markGenerations 5 none, Cond.fieldLink RX3 17 "DrillVault$Shelf" "daysRule" "I", Cond.fieldLink RX3 21 "DrillVault$Shelf" "weeksRule" "I", Cond.fieldLink RX3 24 "DrillVault$Shelf" "monthsRule" "I", Cond.methodLink RX3 41 yX3_promiseLatest, Cond.instanceMethod yX3_promiseLatest, Cond.selects RX3 yX3_promiseLatest yX3_promiseLatest, Cond.code yX3_promiseLatest cX3_promiseLatest 7 none, Cond.methodLink RX3 48 yX0_periodOf, Cond.instanceMethod yX0_periodOf, Cond.selects RX0 yX0_periodOf yX0_periodOf, Cond.initialized RX0, Cond.code yX0_periodOf cX0_periodOf 2 (some .int), Cond.fieldLink RX0 19 "DrillVault$Copy" "madeOn" "I", Cond.methodLink RX3 45 yX0_markChainNeeded, Cond.instanceMethod yX0_markChainNeeded, Cond.selects RX0 yX0_markChainNeeded yX0_markChainNeeded, Cond.code yX0_markChainNeeded cX0_markChainNeeded 2 none, Cond.fieldLink RX0 39 "DrillVault$Copy" "needed" "Z"]
def wsX3_countPromised_r2 : List Cond := [Cond.fieldLink RX0 22 "DrillVault$Copy" "base" "LDrillVault$Copy;"]
def wsX3_countPromised : List Cond := .code yX3_countPromised cX3_countPromised 6 (some .int) :: ((wsX3_countPromised_r1 ++ wsX3_countPromised_r2) ++ wsX30 ++ wsX00)
def wsX3_countPromisedButDamaged_r1 : List Cond := [Cond.fieldLink RX3 11 "DrillVault$Shelf" "rows" "[LDrillVault$Copy;", Cond.methodLink RX3 52 yX3_markGenerations, Cond.instanceMethod yX3_markGenerations, Cond.selects RX3 yX3_markGenerations yX3_markGenerations, Cond.initialized RX3, Cond.code yX3_markGenerations cX3_markGenerations 5 none, Cond.fieldLink RX3 17 "DrillVault$Shelf" "daysRule" "I", Cond.fieldLink RX3 21 "DrillVault$Shelf" "weeksRule" "I", Cond.fieldLink RX3 24 "DrillVault$Shelf" "monthsRule" "I", Cond.methodLink RX3 41 yX3_promiseLatest, Cond.instanceMethod yX3_promiseLatest, Cond.selects RX3 yX3_promiseLatest yX3_promiseLatest, Cond.code yX3_promiseLatest cX3_promiseLatest 7 none, Cond.methodLink RX3 48 yX0_periodOf, Cond.instanceMethod yX0_periodOf, Cond.selects RX0 yX0_periodOf yX0_periodOf, Cond.initialized RX0, Cond.code yX0_periodOf cX0_periodOf 2 (some .int), Cond.fieldLink RX0 19 "DrillVault$Copy" "madeOn" "I", Cond.methodLink RX3 45 yX0_markChainNeeded, Cond.instanceMethod yX0_markChainNeeded, Cond.selects RX0 yX0_markChainNeeded yX0_markChainNeeded, Cond.code yX0_markChainNeeded cX0_markChainNeeded 2 none, Cond.fieldLink RX0 39 "DrillVault$Copy" "needed" "Z"]
def wsX3_countPromisedButDamaged_r2 : List Cond := [Cond.fieldLink RX0 22 "DrillVault$Copy" "base" "LDrillVault$Copy;", Cond.methodLink RX3 55 yX0_hasDamagedChain, Cond.instanceMethod yX0_hasDamagedChain, Cond.selects RX0 yX0_hasDamagedChain yX0_hasDamagedChain, Cond.code yX0_hasDamagedChain cX0_hasDamagedChain 2 (some .boolean), Cond.fieldLink RX0 32 "DrillVault$Copy" "damaged" "Z"]
def wsX3_countPromisedButDamaged : List Cond := .code yX3_countPromisedButDamaged cX3_countPromisedButDamaged 6 (some .int) :: ((wsX3_countPromisedButDamaged_r1 ++ wsX3_countPromisedButDamaged_r2) ++ wsX30 ++ wsX00)
def wsX3_latestProvedDay : List Cond := .code yX3_latestProvedDay cX3_latestProvedDay 6 (some .int) :: ([.fieldLink RX3 11 "DrillVault$Shelf" "rows" "[LDrillVault$Copy;", .methodLink RX3 75 Lib.Math.max.name, .static Lib.Math.max.name, .initialized "java/lang/Math", .code Lib.Math.max.name Lib.Math.max.code 2 (some .int)] ++ wsX30 ++ wsX00)
def wsX3_markHeld : List Cond := .code yX3_markHeld cX3_markHeld 6 none :: ([.fieldLink RX3 11 "DrillVault$Shelf" "rows" "[LDrillVault$Copy;"] ++ wsX30 ++ wsX00)
def wsX3_takeOffLoose_r1 : List Cond := [Cond.fieldLink RX3 11 "DrillVault$Shelf" "rows" "[LDrillVault$Copy;", Cond.methodLink RX3 52 yX3_markGenerations, Cond.instanceMethod yX3_markGenerations, Cond.selects RX3 yX3_markGenerations yX3_markGenerations, Cond.initialized RX3, Cond.code yX3_markGenerations cX3_markGenerations 5 none, Cond.fieldLink RX3 17 "DrillVault$Shelf" "daysRule" "I", Cond.fieldLink RX3 21 "DrillVault$Shelf" "weeksRule" "I", Cond.fieldLink RX3 24 "DrillVault$Shelf" "monthsRule" "I", Cond.methodLink RX3 41 yX3_promiseLatest, Cond.instanceMethod yX3_promiseLatest, Cond.selects RX3 yX3_promiseLatest yX3_promiseLatest, Cond.code yX3_promiseLatest cX3_promiseLatest 7 none, Cond.methodLink RX3 48 yX0_periodOf, Cond.instanceMethod yX0_periodOf, Cond.selects RX0 yX0_periodOf yX0_periodOf, Cond.initialized RX0, Cond.code yX0_periodOf cX0_periodOf 2 (some .int), Cond.fieldLink RX0 19 "DrillVault$Copy" "madeOn" "I", Cond.methodLink RX3 45 yX0_markChainNeeded, Cond.instanceMethod yX0_markChainNeeded, Cond.selects RX0 yX0_markChainNeeded yX0_markChainNeeded, Cond.code yX0_markChainNeeded cX0_markChainNeeded 2 none, Cond.fieldLink RX0 39 "DrillVault$Copy" "needed" "Z"]
def wsX3_takeOffLoose_r2 : List Cond := [Cond.fieldLink RX0 22 "DrillVault$Copy" "base" "LDrillVault$Copy;", Cond.methodLink RX3 59 yX3_latestProvedDay, Cond.instanceMethod yX3_latestProvedDay, Cond.selects RX3 yX3_latestProvedDay yX3_latestProvedDay, Cond.code yX3_latestProvedDay cX3_latestProvedDay 6 (some .int), Cond.methodLink RX3 75 Lib.Math.max.name, Cond.static Lib.Math.max.name, Cond.initialized "java/lang/Math", Cond.code Lib.Math.max.name Lib.Math.max.code 2 (some .int), Cond.methodLink RX3 62 yX3_markHeld, Cond.instanceMethod yX3_markHeld, Cond.selects RX3 yX3_markHeld yX3_markHeld, Cond.code yX3_markHeld cX3_markHeld 6 none, Cond.methodLink RX3 30 yX0_spaceTaken, Cond.instanceMethod yX0_spaceTaken, Cond.selects RX0 yX0_spaceTaken yX0_spaceTaken, Cond.code yX0_spaceTaken cX0_spaceTaken 1 (some .int), Cond.fieldLink RX0 29 "DrillVault$Copy" "keptContents" "I"]
def wsX3_takeOffLoose : List Cond := .code yX3_takeOffLoose cX3_takeOffLoose 4 (some .int) :: ((wsX3_takeOffLoose_r1 ++ wsX3_takeOffLoose_r2) ++ wsX30 ++ wsX00)
def wsX4_init_r1 : List Cond := [Cond.methodLink RX4 1 objectInit, Cond.instanceMethod objectInit, Cond.code objectInit ⟨#[0xb1]⟩ 1 none, Cond.classLink RX4 7 RX1, Cond.instantiable RX1 4, Cond.initialized RX1, Cond.fieldLink RX4 10 "DrillVault" "files" "LDrillVault$Files;", Cond.classLink RX4 16 RX3, Cond.instantiable RX3 5, Cond.initialized RX3, Cond.fieldLink RX4 19 "DrillVault" "shelf" "LDrillVault$Shelf;", Cond.classLink RX4 23 RX2, Cond.instantiable RX2 1, Cond.initialized RX2, Cond.fieldLink RX4 26 "DrillVault" "rota" "LDrillVault$Rota;", Cond.fieldLink RX4 30 "DrillVault" "today" "I", Cond.instanceMethod yX1_init, Cond.code yX1_init cX1_init 1 none, Cond.methodLink RX1 3 objectInit, Cond.arrayClass .int, Cond.fieldLink RX1 9 "DrillVault$Files" "contents" "[I", Cond.fieldLink RX1 15 "DrillVault$Files" "changedFiles" "[I", Cond.fieldLink RX1 18 "DrillVault$Files" "changedTo" "[I", Cond.instanceMethod yX3_init]
def wsX4_init_r2 : List Cond := [Cond.code yX3_init cX3_init 1 none, Cond.methodLink RX3 3 objectInit, Cond.classLink RX3 9 RX0, Cond.fieldLink RX3 11 "DrillVault$Shelf" "rows" "[LDrillVault$Copy;", Cond.fieldLink RX3 17 "DrillVault$Shelf" "daysRule" "I", Cond.fieldLink RX3 21 "DrillVault$Shelf" "weeksRule" "I", Cond.fieldLink RX3 24 "DrillVault$Shelf" "monthsRule" "I", Cond.methodLink RX4 25 yX2_init, Cond.instanceMethod yX2_init, Cond.code yX2_init cX2_init 2 none, Cond.methodLink RX2 3 objectInit, Cond.fieldLink RX2 9 "DrillVault$Rota" "persons" "[I"]
def wsX4_init : List Cond := .code yX4_init cX4_init 1 none :: ((wsX4_init_r1 ++ wsX4_init_r2) ++ wsX10 ++ wsX40 ++ wsX30 ++ wsX20)
def wsX4_requireFile : List Cond := .code yX4_requireFile cX4_requireFile 1 none :: ([.classLink RX4 197 "java/lang/IndexOutOfBoundsException", .initialized "java/lang/IndexOutOfBoundsException"] ++ (vx_atS RX4 201 "java/lang/IndexOutOfBoundsException" ["java/lang/RuntimeException", "java/lang/Exception"]).filter goodWord)
def wsX4_change : List Cond := .code yX4_change cX4_change 4 (some .int) :: ([.classLink RX4 38 "java/lang/IllegalArgumentException", .initialized "java/lang/IllegalArgumentException", .classLink RX4 48 "java/lang/IllegalStateException", .initialized "java/lang/IllegalStateException", .fieldLink RX4 10 "DrillVault" "files" "LDrillVault$Files;", .methodLink RX4 34 yX4_requireFile, .static yX4_requireFile, .initialized RX4, .code yX4_requireFile cX4_requireFile 1 none, .classLink RX4 197 "java/lang/IndexOutOfBoundsException", .initialized "java/lang/IndexOutOfBoundsException", .methodLink RX4 53 yX1_contentNow, .instanceMethod yX1_contentNow, .selects RX1 yX1_contentNow yX1_contentNow, .initialized RX1, .code yX1_contentNow cX1_contentNow 2 (some .int), .fieldLink RX1 9 "DrillVault$Files" "contents" "[I", .methodLink RX4 57 yX1_write, .instanceMethod yX1_write, .selects RX1 yX1_write yX1_write, .code yX1_write cX1_write 3 none, .fieldLink RX1 21 "DrillVault$Files" "changes" "I", .fieldLink RX1 15 "DrillVault$Files" "changedFiles" "[I", .fieldLink RX1 18 "DrillVault$Files" "changedTo" "[I"] ++ wsX40 ++ wsX10 ++ (vx_atS RX4 42 "java/lang/IllegalArgumentException" ["java/lang/RuntimeException", "java/lang/Exception"]).filter goodWord ++ (vx_atS RX4 52 "java/lang/IllegalStateException" ["java/lang/RuntimeException", "java/lang/Exception"]).filter goodWord ++ (vx_atS RX4 201 "java/lang/IndexOutOfBoundsException" ["java/lang/RuntimeException", "java/lang/Exception"]).filter goodWord)
def wsX4_pass : List Cond := .code yX4_pass cX4_pass 2 (some .int) :: ([.classLink RX4 38 "java/lang/IllegalArgumentException", .initialized "java/lang/IllegalArgumentException", .classLink RX4 48 "java/lang/IllegalStateException", .initialized "java/lang/IllegalStateException", .fieldLink RX4 30 "DrillVault" "today" "I"] ++ wsX40 ++ (vx_atS RX4 42 "java/lang/IllegalArgumentException" ["java/lang/RuntimeException", "java/lang/Exception"]).filter goodWord ++ (vx_atS RX4 52 "java/lang/IllegalStateException" ["java/lang/RuntimeException", "java/lang/Exception"]).filter goodWord)
def wsX4_full_r1 : List Cond := [Cond.classLink RX4 48 "java/lang/IllegalStateException", Cond.initialized "java/lang/IllegalStateException", Cond.fieldLink RX4 19 "DrillVault" "shelf" "LDrillVault$Shelf;", Cond.classLink RX4 70 RX0, Cond.instantiable RX0 11, Cond.initialized RX0, Cond.fieldLink RX4 30 "DrillVault" "today" "I", Cond.fieldLink RX4 10 "DrillVault" "files" "LDrillVault$Files;", Cond.methodLink RX4 72 yX0_init, Cond.instanceMethod yX0_init, Cond.code yX0_init cX0_init 6 none, Cond.methodLink RX0 3 objectInit, Cond.instanceMethod objectInit, Cond.code objectInit ⟨#[0xb1]⟩ 1 none, Cond.arrayClass .int, Cond.fieldLink RX0 9 "DrillVault$Copy" "kept" "[I", Cond.fieldLink RX0 15 "DrillVault$Copy" "number" "I", Cond.fieldLink RX0 19 "DrillVault$Copy" "madeOn" "I", Cond.fieldLink RX0 22 "DrillVault$Copy" "base" "LDrillVault$Copy;", Cond.fieldLink RX0 26 "DrillVault$Copy" "changesAhead" "I", Cond.methodLink RX4 75 yX1_keepAll, Cond.instanceMethod yX1_keepAll, Cond.selects RX1 yX1_keepAll yX1_keepAll, Cond.initialized RX1]
def wsX4_full_r2 : List Cond := [Cond.code yX1_keepAll cX1_keepAll 3 none, Cond.fieldLink RX1 9 "DrillVault$Files" "contents" "[I", Cond.methodLink RX1 25 yX0_keep, Cond.instanceMethod yX0_keep, Cond.selects RX0 yX0_keep yX0_keep, Cond.code yX0_keep cX0_keep 3 none, Cond.fieldLink RX0 29 "DrillVault$Copy" "keptContents" "I", Cond.methodLink RX4 79 yX3_put, Cond.instanceMethod yX3_put, Cond.selects RX3 yX3_put yX3_put, Cond.initialized RX3, Cond.code yX3_put cX3_put 2 none, Cond.fieldLink RX3 27 "DrillVault$Shelf" "made" "I", Cond.fieldLink RX3 11 "DrillVault$Shelf" "rows" "[LDrillVault$Copy;"]
def wsX4_full : List Cond := .code yX4_full cX4_full 2 (some .int) :: ((wsX4_full_r1 ++ wsX4_full_r2) ++ wsX40 ++ wsX30 ++ wsX00 ++ wsX10 ++ (vx_atS RX4 52 "java/lang/IllegalStateException" ["java/lang/RuntimeException", "java/lang/Exception"]).filter goodWord)
def wsX4_increment_r1 : List Cond := [Cond.classLink RX4 48 "java/lang/IllegalStateException", Cond.initialized "java/lang/IllegalStateException", Cond.fieldLink RX4 19 "DrillVault" "shelf" "LDrillVault$Shelf;", Cond.classLink RX4 70 RX0, Cond.instantiable RX0 11, Cond.initialized RX0, Cond.fieldLink RX4 30 "DrillVault" "today" "I", Cond.fieldLink RX4 10 "DrillVault" "files" "LDrillVault$Files;", Cond.methodLink RX4 85 yX3_latest, Cond.instanceMethod yX3_latest, Cond.selects RX3 yX3_latest yX3_latest, Cond.initialized RX3, Cond.code yX3_latest cX3_latest 2 (some (.object "DrillVault$Copy")), Cond.fieldLink RX3 11 "DrillVault$Shelf" "rows" "[LDrillVault$Copy;", Cond.methodLink RX4 72 yX0_init, Cond.instanceMethod yX0_init, Cond.code yX0_init cX0_init 6 none, Cond.methodLink RX0 3 objectInit, Cond.instanceMethod objectInit, Cond.code objectInit ⟨#[0xb1]⟩ 1 none, Cond.arrayClass .int, Cond.fieldLink RX0 9 "DrillVault$Copy" "kept" "[I", Cond.fieldLink RX0 15 "DrillVault$Copy" "number" "I", Cond.fieldLink RX0 19 "DrillVault$Copy" "madeOn" "I"]
def wsX4_increment_r2 : List Cond := [Cond.fieldLink RX0 22 "DrillVault$Copy" "base" "LDrillVault$Copy;", Cond.fieldLink RX0 26 "DrillVault$Copy" "changesAhead" "I", Cond.methodLink RX4 94 yX1_keepChanged, Cond.instanceMethod yX1_keepChanged, Cond.selects RX1 yX1_keepChanged yX1_keepChanged, Cond.initialized RX1, Cond.code yX1_keepChanged cX1_keepChanged 4 none, Cond.methodLink RX1 31 Lib.Math.max.name, Cond.static Lib.Math.max.name, Cond.initialized "java/lang/Math", Cond.code Lib.Math.max.name Lib.Math.max.code 2 (some .int), Cond.fieldLink RX1 21 "DrillVault$Files" "changes" "I", Cond.fieldLink RX1 15 "DrillVault$Files" "changedFiles" "[I", Cond.methodLink RX1 37 yX1_contentNow, Cond.instanceMethod yX1_contentNow, Cond.selects RX1 yX1_contentNow yX1_contentNow, Cond.code yX1_contentNow cX1_contentNow 2 (some .int), Cond.fieldLink RX1 9 "DrillVault$Files" "contents" "[I", Cond.methodLink RX1 25 yX0_keep, Cond.instanceMethod yX0_keep, Cond.selects RX0 yX0_keep yX0_keep, Cond.code yX0_keep cX0_keep 3 none, Cond.fieldLink RX0 29 "DrillVault$Copy" "keptContents" "I", Cond.methodLink RX4 79 yX3_put]
def wsX4_increment_r3 : List Cond := [Cond.instanceMethod yX3_put, Cond.selects RX3 yX3_put yX3_put, Cond.code yX3_put cX3_put 2 none, Cond.fieldLink RX3 27 "DrillVault$Shelf" "made" "I"]
def wsX4_increment : List Cond := .code yX4_increment cX4_increment 3 (some .int) :: ((wsX4_increment_r1 ++ (wsX4_increment_r2 ++ wsX4_increment_r3)) ++ wsX40 ++ wsX30 ++ wsX00 ++ wsX10 ++ (vx_atS RX4 52 "java/lang/IllegalStateException" ["java/lang/RuntimeException", "java/lang/Exception"]).filter goodWord)
def wsX4_requireCopy : List Cond := .code yX4_requireCopy cX4_requireCopy 3 (some (.object "DrillVault$Copy")) :: ([.classLink RX4 197 "java/lang/IndexOutOfBoundsException", .initialized "java/lang/IndexOutOfBoundsException", .fieldLink RX4 19 "DrillVault" "shelf" "LDrillVault$Shelf;", .methodLink RX4 202 yX3_find, .instanceMethod yX3_find, .selects RX3 yX3_find yX3_find, .initialized RX3, .code yX3_find cX3_find 2 (some (.object "DrillVault$Copy")), .fieldLink RX3 11 "DrillVault$Shelf" "rows" "[LDrillVault$Copy;"] ++ wsX40 ++ wsX30 ++ (vx_atS RX4 201 "java/lang/IndexOutOfBoundsException" ["java/lang/RuntimeException", "java/lang/Exception"]).filter goodWord)
def wsX4_damage_r1 : List Cond := [Cond.fieldLink RX4 19 "DrillVault" "shelf" "LDrillVault$Shelf;", Cond.methodLink RX4 98 yX4_requireCopy, Cond.instanceMethod yX4_requireCopy, Cond.selects RX4 yX4_requireCopy yX4_requireCopy, Cond.initialized RX4, Cond.code yX4_requireCopy cX4_requireCopy 3 (some (.object "DrillVault$Copy")), Cond.classLink RX4 197 "java/lang/IndexOutOfBoundsException", Cond.initialized "java/lang/IndexOutOfBoundsException", Cond.methodLink RX4 202 yX3_find, Cond.instanceMethod yX3_find, Cond.selects RX3 yX3_find yX3_find, Cond.initialized RX3, Cond.code yX3_find cX3_find 2 (some (.object "DrillVault$Copy")), Cond.fieldLink RX3 11 "DrillVault$Shelf" "rows" "[LDrillVault$Copy;", Cond.methodLink RX4 109 yX3_countPromisedButDamaged, Cond.instanceMethod yX3_countPromisedButDamaged, Cond.selects RX3 yX3_countPromisedButDamaged yX3_countPromisedButDamaged, Cond.code yX3_countPromisedButDamaged cX3_countPromisedButDamaged 6 (some .int), Cond.methodLink RX3 52 yX3_markGenerations, Cond.instanceMethod yX3_markGenerations, Cond.selects RX3 yX3_markGenerations yX3_markGenerations, Cond.code yX3_markGenerations cX3_markGenerations 5 none, Cond.fieldLink RX3 17 "DrillVault$Shelf" "daysRule" "I", Cond.fieldLink RX3 21 "DrillVault$Shelf" "weeksRule" "I"]
def wsX4_damage_r2 : List Cond := [Cond.fieldLink RX3 24 "DrillVault$Shelf" "monthsRule" "I", Cond.methodLink RX3 41 yX3_promiseLatest, Cond.instanceMethod yX3_promiseLatest, Cond.selects RX3 yX3_promiseLatest yX3_promiseLatest, Cond.code yX3_promiseLatest cX3_promiseLatest 7 none, Cond.methodLink RX3 48 yX0_periodOf, Cond.instanceMethod yX0_periodOf, Cond.selects RX0 yX0_periodOf yX0_periodOf, Cond.initialized RX0, Cond.code yX0_periodOf cX0_periodOf 2 (some .int), Cond.fieldLink RX0 19 "DrillVault$Copy" "madeOn" "I", Cond.methodLink RX3 45 yX0_markChainNeeded, Cond.instanceMethod yX0_markChainNeeded, Cond.selects RX0 yX0_markChainNeeded yX0_markChainNeeded, Cond.code yX0_markChainNeeded cX0_markChainNeeded 2 none, Cond.fieldLink RX0 39 "DrillVault$Copy" "needed" "Z", Cond.fieldLink RX0 22 "DrillVault$Copy" "base" "LDrillVault$Copy;", Cond.methodLink RX3 55 yX0_hasDamagedChain, Cond.instanceMethod yX0_hasDamagedChain, Cond.selects RX0 yX0_hasDamagedChain yX0_hasDamagedChain, Cond.code yX0_hasDamagedChain cX0_hasDamagedChain 2 (some .boolean), Cond.fieldLink RX0 32 "DrillVault$Copy" "damaged" "Z"]
def wsX4_damage : List Cond := .code yX4_damage cX4_damage 3 (some .int) :: ((wsX4_damage_r1 ++ wsX4_damage_r2) ++ wsX00 ++ wsX40 ++ wsX30 ++ (vx_atS RX4 201 "java/lang/IndexOutOfBoundsException" ["java/lang/RuntimeException", "java/lang/Exception"]).filter goodWord)
def wsX4_drill_r1 : List Cond := [Cond.methodLink RX4 98 yX4_requireCopy, Cond.instanceMethod yX4_requireCopy, Cond.selects RX4 yX4_requireCopy yX4_requireCopy, Cond.initialized RX4, Cond.code yX4_requireCopy cX4_requireCopy 3 (some (.object "DrillVault$Copy")), Cond.classLink RX4 197 "java/lang/IndexOutOfBoundsException", Cond.initialized "java/lang/IndexOutOfBoundsException", Cond.fieldLink RX4 19 "DrillVault" "shelf" "LDrillVault$Shelf;", Cond.methodLink RX4 202 yX3_find, Cond.instanceMethod yX3_find, Cond.selects RX3 yX3_find yX3_find, Cond.initialized RX3, Cond.code yX3_find cX3_find 2 (some (.object "DrillVault$Copy")), Cond.fieldLink RX3 11 "DrillVault$Shelf" "rows" "[LDrillVault$Copy;", Cond.methodLink RX4 113 yX0_hasDamagedChain, Cond.instanceMethod yX0_hasDamagedChain, Cond.selects RX0 yX0_hasDamagedChain yX0_hasDamagedChain, Cond.initialized RX0, Cond.code yX0_hasDamagedChain cX0_hasDamagedChain 2 (some .boolean), Cond.fieldLink RX0 32 "DrillVault$Copy" "damaged" "Z", Cond.fieldLink RX0 22 "DrillVault$Copy" "base" "LDrillVault$Copy;", Cond.methodLink RX4 117 yX0_proveChain, Cond.instanceMethod yX0_proveChain, Cond.selects RX0 yX0_proveChain yX0_proveChain]
def wsX4_drill_r2 : List Cond := [Cond.code yX0_proveChain cX0_proveChain 3 none, Cond.fieldLink RX0 36 "DrillVault$Copy" "proved" "Z", Cond.methodLink RX4 121 yX0_chainLength, Cond.instanceMethod yX0_chainLength, Cond.selects RX0 yX0_chainLength yX0_chainLength, Cond.code yX0_chainLength cX0_chainLength 3 (some .int)]
def wsX4_drill : List Cond := .code yX4_drill cX4_drill 4 (some .int) :: ((wsX4_drill_r1 ++ wsX4_drill_r2) ++ wsX40 ++ wsX30 ++ wsX00 ++ (vx_atS RX4 201 "java/lang/IndexOutOfBoundsException" ["java/lang/RuntimeException", "java/lang/Exception"]).filter goodWord)
def wsX4_setRules_r1 : List Cond := [Cond.classLink RX4 38 "java/lang/IllegalArgumentException", Cond.initialized "java/lang/IllegalArgumentException", Cond.fieldLink RX4 19 "DrillVault" "shelf" "LDrillVault$Shelf;", Cond.methodLink RX4 137 yX3_countPromised, Cond.instanceMethod yX3_countPromised, Cond.selects RX3 yX3_countPromised yX3_countPromised, Cond.initialized RX3, Cond.code yX3_countPromised cX3_countPromised 6 (some .int), Cond.fieldLink RX3 11 "DrillVault$Shelf" "rows" "[LDrillVault$Copy;", Cond.methodLink RX3 52 yX3_markGenerations, Cond.instanceMethod yX3_markGenerations, Cond.selects RX3 yX3_markGenerations yX3_markGenerations, Cond.code yX3_markGenerations cX3_markGenerations 5 none, Cond.fieldLink RX3 17 "DrillVault$Shelf" "daysRule" "I", Cond.fieldLink RX3 21 "DrillVault$Shelf" "weeksRule" "I", Cond.fieldLink RX3 24 "DrillVault$Shelf" "monthsRule" "I", Cond.methodLink RX3 41 yX3_promiseLatest, Cond.instanceMethod yX3_promiseLatest, Cond.selects RX3 yX3_promiseLatest yX3_promiseLatest, Cond.code yX3_promiseLatest cX3_promiseLatest 7 none, Cond.methodLink RX3 48 yX0_periodOf, Cond.instanceMethod yX0_periodOf, Cond.selects RX0 yX0_periodOf yX0_periodOf, Cond.initialized RX0]
def wsX4_setRules_r2 : List Cond := [Cond.code yX0_periodOf cX0_periodOf 2 (some .int), Cond.fieldLink RX0 19 "DrillVault$Copy" "madeOn" "I", Cond.methodLink RX3 45 yX0_markChainNeeded, Cond.instanceMethod yX0_markChainNeeded, Cond.selects RX0 yX0_markChainNeeded yX0_markChainNeeded, Cond.code yX0_markChainNeeded cX0_markChainNeeded 2 none, Cond.fieldLink RX0 39 "DrillVault$Copy" "needed" "Z", Cond.fieldLink RX0 22 "DrillVault$Copy" "base" "LDrillVault$Copy;"]
def wsX4_setRules : List Cond := .code yX4_setRules cX4_setRules 4 (some .int) :: ((wsX4_setRules_r1 ++ wsX4_setRules_r2) ++ wsX40 ++ wsX30 ++ wsX00 ++ (vx_atS RX4 42 "java/lang/IllegalArgumentException" ["java/lang/RuntimeException", "java/lang/Exception"]).filter goodWord)
def wsX4_thin_r1 : List Cond := [Cond.fieldLink RX4 19 "DrillVault" "shelf" "LDrillVault$Shelf;", Cond.methodLink RX4 140 yX3_takeOffLoose, Cond.instanceMethod yX3_takeOffLoose, Cond.selects RX3 yX3_takeOffLoose yX3_takeOffLoose, Cond.initialized RX3, Cond.code yX3_takeOffLoose cX3_takeOffLoose 4 (some .int), Cond.fieldLink RX3 11 "DrillVault$Shelf" "rows" "[LDrillVault$Copy;", Cond.methodLink RX3 52 yX3_markGenerations, Cond.instanceMethod yX3_markGenerations, Cond.selects RX3 yX3_markGenerations yX3_markGenerations, Cond.code yX3_markGenerations cX3_markGenerations 5 none, Cond.fieldLink RX3 17 "DrillVault$Shelf" "daysRule" "I", Cond.fieldLink RX3 21 "DrillVault$Shelf" "weeksRule" "I", Cond.fieldLink RX3 24 "DrillVault$Shelf" "monthsRule" "I", Cond.methodLink RX3 41 yX3_promiseLatest, Cond.instanceMethod yX3_promiseLatest, Cond.selects RX3 yX3_promiseLatest yX3_promiseLatest, Cond.code yX3_promiseLatest cX3_promiseLatest 7 none, Cond.methodLink RX3 48 yX0_periodOf, Cond.instanceMethod yX0_periodOf, Cond.selects RX0 yX0_periodOf yX0_periodOf, Cond.initialized RX0, Cond.code yX0_periodOf cX0_periodOf 2 (some .int), Cond.fieldLink RX0 19 "DrillVault$Copy" "madeOn" "I"]
def wsX4_thin_r2 : List Cond := [Cond.methodLink RX3 45 yX0_markChainNeeded, Cond.instanceMethod yX0_markChainNeeded, Cond.selects RX0 yX0_markChainNeeded yX0_markChainNeeded, Cond.code yX0_markChainNeeded cX0_markChainNeeded 2 none, Cond.fieldLink RX0 39 "DrillVault$Copy" "needed" "Z", Cond.fieldLink RX0 22 "DrillVault$Copy" "base" "LDrillVault$Copy;", Cond.methodLink RX3 59 yX3_latestProvedDay, Cond.instanceMethod yX3_latestProvedDay, Cond.selects RX3 yX3_latestProvedDay yX3_latestProvedDay, Cond.code yX3_latestProvedDay cX3_latestProvedDay 6 (some .int), Cond.methodLink RX3 75 Lib.Math.max.name, Cond.static Lib.Math.max.name, Cond.initialized "java/lang/Math", Cond.code Lib.Math.max.name Lib.Math.max.code 2 (some .int), Cond.methodLink RX3 62 yX3_markHeld, Cond.instanceMethod yX3_markHeld, Cond.selects RX3 yX3_markHeld yX3_markHeld, Cond.code yX3_markHeld cX3_markHeld 6 none, Cond.methodLink RX3 30 yX0_spaceTaken, Cond.instanceMethod yX0_spaceTaken, Cond.selects RX0 yX0_spaceTaken yX0_spaceTaken, Cond.code yX0_spaceTaken cX0_spaceTaken 1 (some .int), Cond.fieldLink RX0 29 "DrillVault$Copy" "keptContents" "I"]
def wsX4_thin : List Cond := .code yX4_thin cX4_thin 1 (some .int) :: ((wsX4_thin_r1 ++ wsX4_thin_r2) ++ wsX40 ++ wsX30 ++ wsX00)
def wsX4_day : List Cond := .code yX4_day cX4_day 1 (some .int) :: ([.fieldLink RX4 30 "DrillVault" "today" "I"] ++ wsX40)
def wsX4_copies : List Cond := .code yX4_copies cX4_copies 1 (some .int) :: ([.fieldLink RX4 19 "DrillVault" "shelf" "LDrillVault$Shelf;", .methodLink RX4 143 yX3_countThere, .instanceMethod yX3_countThere, .selects RX3 yX3_countThere yX3_countThere, .initialized RX3, .code yX3_countThere cX3_countThere 6 (some .int), .fieldLink RX3 11 "DrillVault$Shelf" "rows" "[LDrillVault$Copy;"] ++ wsX40 ++ wsX30)
def wsX4_space : List Cond := .code yX4_space cX4_space 1 (some .int) :: ([.fieldLink RX4 19 "DrillVault" "shelf" "LDrillVault$Shelf;", .methodLink RX4 146 yX3_spaceTaken, .instanceMethod yX3_spaceTaken, .selects RX3 yX3_spaceTaken yX3_spaceTaken, .initialized RX3, .code yX3_spaceTaken cX3_spaceTaken 6 (some .int), .fieldLink RX3 11 "DrillVault$Shelf" "rows" "[LDrillVault$Copy;", .methodLink RX3 30 yX0_spaceTaken, .instanceMethod yX0_spaceTaken, .selects RX0 yX0_spaceTaken yX0_spaceTaken, .initialized RX0, .code yX0_spaceTaken cX0_spaceTaken 1 (some .int), .fieldLink RX0 29 "DrillVault$Copy" "keptContents" "I"] ++ wsX40 ++ wsX30 ++ wsX00)
def wsX4_dayOf : List Cond := .code yX4_dayOf cX4_dayOf 2 (some .int) :: ([.methodLink RX4 98 yX4_requireCopy, .instanceMethod yX4_requireCopy, .selects RX4 yX4_requireCopy yX4_requireCopy, .initialized RX4, .code yX4_requireCopy cX4_requireCopy 3 (some (.object "DrillVault$Copy")), .classLink RX4 197 "java/lang/IndexOutOfBoundsException", .initialized "java/lang/IndexOutOfBoundsException", .fieldLink RX4 19 "DrillVault" "shelf" "LDrillVault$Shelf;", .methodLink RX4 202 yX3_find, .instanceMethod yX3_find, .selects RX3 yX3_find yX3_find, .initialized RX3, .code yX3_find cX3_find 2 (some (.object "DrillVault$Copy")), .fieldLink RX3 11 "DrillVault$Shelf" "rows" "[LDrillVault$Copy;"] ++ wsX00 ++ wsX40 ++ wsX30 ++ (vx_atS RX4 201 "java/lang/IndexOutOfBoundsException" ["java/lang/RuntimeException", "java/lang/Exception"]).filter goodWord)
def wsX4_baseOf : List Cond := .code yX4_baseOf cX4_baseOf 3 (some .int) :: ([.methodLink RX4 98 yX4_requireCopy, .instanceMethod yX4_requireCopy, .selects RX4 yX4_requireCopy yX4_requireCopy, .initialized RX4, .code yX4_requireCopy cX4_requireCopy 3 (some (.object "DrillVault$Copy")), .classLink RX4 197 "java/lang/IndexOutOfBoundsException", .initialized "java/lang/IndexOutOfBoundsException", .fieldLink RX4 19 "DrillVault" "shelf" "LDrillVault$Shelf;", .methodLink RX4 202 yX3_find, .instanceMethod yX3_find, .selects RX3 yX3_find yX3_find, .initialized RX3, .code yX3_find cX3_find 2 (some (.object "DrillVault$Copy")), .fieldLink RX3 11 "DrillVault$Shelf" "rows" "[LDrillVault$Copy;"] ++ wsX00 ++ wsX40 ++ wsX30 ++ (vx_atS RX4 201 "java/lang/IndexOutOfBoundsException" ["java/lang/RuntimeException", "java/lang/Exception"]).filter goodWord)
def wsX4_keeps : List Cond := .code yX4_keeps cX4_keeps 2 (some .int) :: ([.methodLink RX4 98 yX4_requireCopy, .instanceMethod yX4_requireCopy, .selects RX4 yX4_requireCopy yX4_requireCopy, .initialized RX4, .code yX4_requireCopy cX4_requireCopy 3 (some (.object "DrillVault$Copy")), .classLink RX4 197 "java/lang/IndexOutOfBoundsException", .initialized "java/lang/IndexOutOfBoundsException", .fieldLink RX4 19 "DrillVault" "shelf" "LDrillVault$Shelf;", .methodLink RX4 202 yX3_find, .instanceMethod yX3_find, .selects RX3 yX3_find yX3_find, .initialized RX3, .code yX3_find cX3_find 2 (some (.object "DrillVault$Copy")), .fieldLink RX3 11 "DrillVault$Shelf" "rows" "[LDrillVault$Copy;"] ++ wsX00 ++ wsX40 ++ wsX30 ++ (vx_atS RX4 201 "java/lang/IndexOutOfBoundsException" ["java/lang/RuntimeException", "java/lang/Exception"]).filter goodWord)
def wsX4_isPromised_r1 : List Cond := [Cond.fieldLink RX4 19 "DrillVault" "shelf" "LDrillVault$Shelf;", Cond.methodLink RX4 98 yX4_requireCopy, Cond.instanceMethod yX4_requireCopy, Cond.selects RX4 yX4_requireCopy yX4_requireCopy, Cond.initialized RX4, Cond.code yX4_requireCopy cX4_requireCopy 3 (some (.object "DrillVault$Copy")), Cond.classLink RX4 197 "java/lang/IndexOutOfBoundsException", Cond.initialized "java/lang/IndexOutOfBoundsException", Cond.methodLink RX4 202 yX3_find, Cond.instanceMethod yX3_find, Cond.selects RX3 yX3_find yX3_find, Cond.initialized RX3, Cond.code yX3_find cX3_find 2 (some (.object "DrillVault$Copy")), Cond.fieldLink RX3 11 "DrillVault$Shelf" "rows" "[LDrillVault$Copy;", Cond.methodLink RX4 159 yX3_markGenerations, Cond.instanceMethod yX3_markGenerations, Cond.selects RX3 yX3_markGenerations yX3_markGenerations, Cond.code yX3_markGenerations cX3_markGenerations 5 none, Cond.fieldLink RX3 17 "DrillVault$Shelf" "daysRule" "I", Cond.fieldLink RX3 21 "DrillVault$Shelf" "weeksRule" "I", Cond.fieldLink RX3 24 "DrillVault$Shelf" "monthsRule" "I", Cond.methodLink RX3 41 yX3_promiseLatest, Cond.instanceMethod yX3_promiseLatest, Cond.selects RX3 yX3_promiseLatest yX3_promiseLatest]
def wsX4_isPromised_r2 : List Cond := [Cond.code yX3_promiseLatest cX3_promiseLatest 7 none, Cond.methodLink RX3 48 yX0_periodOf, Cond.instanceMethod yX0_periodOf, Cond.selects RX0 yX0_periodOf yX0_periodOf, Cond.initialized RX0, Cond.code yX0_periodOf cX0_periodOf 2 (some .int), Cond.fieldLink RX0 19 "DrillVault$Copy" "madeOn" "I", Cond.methodLink RX3 45 yX0_markChainNeeded, Cond.instanceMethod yX0_markChainNeeded, Cond.selects RX0 yX0_markChainNeeded yX0_markChainNeeded, Cond.code yX0_markChainNeeded cX0_markChainNeeded 2 none, Cond.fieldLink RX0 39 "DrillVault$Copy" "needed" "Z", Cond.fieldLink RX0 22 "DrillVault$Copy" "base" "LDrillVault$Copy;"]
def wsX4_isPromised : List Cond := .code yX4_isPromised cX4_isPromised 3 (some .boolean) :: ((wsX4_isPromised_r1 ++ wsX4_isPromised_r2) ++ wsX40 ++ wsX00 ++ wsX30 ++ (vx_atS RX4 201 "java/lang/IndexOutOfBoundsException" ["java/lang/RuntimeException", "java/lang/Exception"]).filter goodWord)
def wsX4_isNeeded_r1 : List Cond := [Cond.fieldLink RX4 19 "DrillVault" "shelf" "LDrillVault$Shelf;", Cond.methodLink RX4 98 yX4_requireCopy, Cond.instanceMethod yX4_requireCopy, Cond.selects RX4 yX4_requireCopy yX4_requireCopy, Cond.initialized RX4, Cond.code yX4_requireCopy cX4_requireCopy 3 (some (.object "DrillVault$Copy")), Cond.classLink RX4 197 "java/lang/IndexOutOfBoundsException", Cond.initialized "java/lang/IndexOutOfBoundsException", Cond.methodLink RX4 202 yX3_find, Cond.instanceMethod yX3_find, Cond.selects RX3 yX3_find yX3_find, Cond.initialized RX3, Cond.code yX3_find cX3_find 2 (some (.object "DrillVault$Copy")), Cond.fieldLink RX3 11 "DrillVault$Shelf" "rows" "[LDrillVault$Copy;", Cond.methodLink RX4 159 yX3_markGenerations, Cond.instanceMethod yX3_markGenerations, Cond.selects RX3 yX3_markGenerations yX3_markGenerations, Cond.code yX3_markGenerations cX3_markGenerations 5 none, Cond.fieldLink RX3 17 "DrillVault$Shelf" "daysRule" "I", Cond.fieldLink RX3 21 "DrillVault$Shelf" "weeksRule" "I", Cond.fieldLink RX3 24 "DrillVault$Shelf" "monthsRule" "I", Cond.methodLink RX3 41 yX3_promiseLatest, Cond.instanceMethod yX3_promiseLatest, Cond.selects RX3 yX3_promiseLatest yX3_promiseLatest]
def wsX4_isNeeded_r2 : List Cond := [Cond.code yX3_promiseLatest cX3_promiseLatest 7 none, Cond.methodLink RX3 48 yX0_periodOf, Cond.instanceMethod yX0_periodOf, Cond.selects RX0 yX0_periodOf yX0_periodOf, Cond.initialized RX0, Cond.code yX0_periodOf cX0_periodOf 2 (some .int), Cond.fieldLink RX0 19 "DrillVault$Copy" "madeOn" "I", Cond.methodLink RX3 45 yX0_markChainNeeded, Cond.instanceMethod yX0_markChainNeeded, Cond.selects RX0 yX0_markChainNeeded yX0_markChainNeeded, Cond.code yX0_markChainNeeded cX0_markChainNeeded 2 none, Cond.fieldLink RX0 39 "DrillVault$Copy" "needed" "Z", Cond.fieldLink RX0 22 "DrillVault$Copy" "base" "LDrillVault$Copy;"]
def wsX4_isNeeded : List Cond := .code yX4_isNeeded cX4_isNeeded 3 (some .boolean) :: ((wsX4_isNeeded_r1 ++ wsX4_isNeeded_r2) ++ wsX40 ++ wsX00 ++ wsX30 ++ (vx_atS RX4 201 "java/lang/IndexOutOfBoundsException" ["java/lang/RuntimeException", "java/lang/Exception"]).filter goodWord)
def wsX4_isProved : List Cond := .code yX4_isProved cX4_isProved 2 (some .boolean) :: ([.methodLink RX4 98 yX4_requireCopy, .instanceMethod yX4_requireCopy, .selects RX4 yX4_requireCopy yX4_requireCopy, .initialized RX4, .code yX4_requireCopy cX4_requireCopy 3 (some (.object "DrillVault$Copy")), .classLink RX4 197 "java/lang/IndexOutOfBoundsException", .initialized "java/lang/IndexOutOfBoundsException", .fieldLink RX4 19 "DrillVault" "shelf" "LDrillVault$Shelf;", .methodLink RX4 202 yX3_find, .instanceMethod yX3_find, .selects RX3 yX3_find yX3_find, .initialized RX3, .code yX3_find cX3_find 2 (some (.object "DrillVault$Copy")), .fieldLink RX3 11 "DrillVault$Shelf" "rows" "[LDrillVault$Copy;"] ++ wsX00 ++ wsX40 ++ wsX30 ++ (vx_atS RX4 201 "java/lang/IndexOutOfBoundsException" ["java/lang/RuntimeException", "java/lang/Exception"]).filter goodWord)
def wsX4_restore : List Cond := .code yX4_restore cX4_restore 4 (some .int) :: ([.methodLink RX4 98 yX4_requireCopy, .instanceMethod yX4_requireCopy, .selects RX4 yX4_requireCopy yX4_requireCopy, .initialized RX4, .code yX4_requireCopy cX4_requireCopy 3 (some (.object "DrillVault$Copy")), .classLink RX4 197 "java/lang/IndexOutOfBoundsException", .initialized "java/lang/IndexOutOfBoundsException", .fieldLink RX4 19 "DrillVault" "shelf" "LDrillVault$Shelf;", .methodLink RX4 202 yX3_find, .instanceMethod yX3_find, .selects RX3 yX3_find yX3_find, .initialized RX3, .code yX3_find cX3_find 2 (some (.object "DrillVault$Copy")), .fieldLink RX3 11 "DrillVault$Shelf" "rows" "[LDrillVault$Copy;", .methodLink RX4 34 yX4_requireFile, .static yX4_requireFile, .code yX4_requireFile cX4_requireFile 1 none, .methodLink RX4 168 yX0_contentByChain, .instanceMethod yX0_contentByChain, .selects RX0 yX0_contentByChain yX0_contentByChain, .initialized RX0, .code yX0_contentByChain cX0_contentByChain 3 (some .int), .fieldLink RX0 9 "DrillVault$Copy" "kept" "[I", .fieldLink RX0 22 "DrillVault$Copy" "base" "LDrillVault$Copy;"] ++ wsX40 ++ wsX30 ++ wsX00 ++ (vx_atS RX4 201 "java/lang/IndexOutOfBoundsException" ["java/lang/RuntimeException", "java/lang/Exception"]).filter goodWord)
def wsX4_restoreByChanges_r1 : List Cond := [Cond.fieldLink RX4 10 "DrillVault" "files" "LDrillVault$Files;", Cond.methodLink RX4 98 yX4_requireCopy, Cond.instanceMethod yX4_requireCopy, Cond.selects RX4 yX4_requireCopy yX4_requireCopy, Cond.initialized RX4, Cond.code yX4_requireCopy cX4_requireCopy 3 (some (.object "DrillVault$Copy")), Cond.classLink RX4 197 "java/lang/IndexOutOfBoundsException", Cond.initialized "java/lang/IndexOutOfBoundsException", Cond.fieldLink RX4 19 "DrillVault" "shelf" "LDrillVault$Shelf;", Cond.methodLink RX4 202 yX3_find, Cond.instanceMethod yX3_find, Cond.selects RX3 yX3_find yX3_find, Cond.initialized RX3, Cond.code yX3_find cX3_find 2 (some (.object "DrillVault$Copy")), Cond.fieldLink RX3 11 "DrillVault$Shelf" "rows" "[LDrillVault$Copy;", Cond.methodLink RX4 34 yX4_requireFile, Cond.static yX4_requireFile, Cond.code yX4_requireFile cX4_requireFile 1 none, Cond.methodLink RX4 171 yX1_contentAfter, Cond.instanceMethod yX1_contentAfter, Cond.selects RX1 yX1_contentAfter yX1_contentAfter, Cond.initialized RX1, Cond.code yX1_contentAfter cX1_contentAfter 5 (some .int), Cond.fieldLink RX1 15 "DrillVault$Files" "changedFiles" "[I"]
def wsX4_restoreByChanges_r2 : List Cond := [Cond.fieldLink RX1 18 "DrillVault$Files" "changedTo" "[I"]
def wsX4_restoreByChanges : List Cond := .code yX4_restoreByChanges cX4_restoreByChanges 4 (some .int) :: ((wsX4_restoreByChanges_r1 ++ wsX4_restoreByChanges_r2) ++ wsX40 ++ wsX00 ++ wsX30 ++ wsX10 ++ (vx_atS RX4 201 "java/lang/IndexOutOfBoundsException" ["java/lang/RuntimeException", "java/lang/Exception"]).filter goodWord)
def wsX4_onCall : List Cond := .code yX4_onCall cX4_onCall 2 (some .int) :: ([.classLink RX4 38 "java/lang/IllegalArgumentException", .initialized "java/lang/IllegalArgumentException", .fieldLink RX4 26 "DrillVault" "rota" "LDrillVault$Rota;", .methodLink RX4 177 yX2_personOn, .instanceMethod yX2_personOn, .selects RX2 yX2_personOn yX2_personOn, .initialized RX2, .code yX2_personOn cX2_personOn 2 (some .int), .fieldLink RX2 9 "DrillVault$Rota" "persons" "[I"] ++ wsX40 ++ wsX20 ++ (vx_atS RX4 42 "java/lang/IllegalArgumentException" ["java/lang/RuntimeException", "java/lang/Exception"]).filter goodWord)
def wsX4_isOpenForSwaps : List Cond := .code yX4_isOpenForSwaps cX4_isOpenForSwaps 2 (some .boolean) :: ([.fieldLink RX4 30 "DrillVault" "today" "I"] ++ wsX40)
def wsX4_swap_r1 : List Cond := [Cond.classLink RX4 38 "java/lang/IllegalArgumentException", Cond.initialized "java/lang/IllegalArgumentException", Cond.classLink RX4 48 "java/lang/IllegalStateException", Cond.initialized "java/lang/IllegalStateException", Cond.fieldLink RX4 26 "DrillVault" "rota" "LDrillVault$Rota;", Cond.methodLink RX4 180 yX4_isOpenForSwaps, Cond.instanceMethod yX4_isOpenForSwaps, Cond.selects RX4 yX4_isOpenForSwaps yX4_isOpenForSwaps, Cond.initialized RX4, Cond.code yX4_isOpenForSwaps cX4_isOpenForSwaps 2 (some .boolean), Cond.fieldLink RX4 30 "DrillVault" "today" "I", Cond.methodLink RX4 186 yX2_exchangeIfRested, Cond.instanceMethod yX2_exchangeIfRested, Cond.selects RX2 yX2_exchangeIfRested yX2_exchangeIfRested, Cond.initialized RX2, Cond.code yX2_exchangeIfRested cX2_exchangeIfRested 3 (some .boolean), Cond.methodLink RX2 15 yX2_exchange, Cond.instanceMethod yX2_exchange, Cond.selects RX2 yX2_exchange yX2_exchange, Cond.code yX2_exchange cX2_exchange 4 none, Cond.fieldLink RX2 9 "DrillVault$Rota" "persons" "[I", Cond.methodLink RX2 19 yX2_isRestedAround, Cond.instanceMethod yX2_isRestedAround, Cond.selects RX2 yX2_isRestedAround yX2_isRestedAround]
def wsX4_swap_r2 : List Cond := [Cond.code yX2_isRestedAround cX2_isRestedAround 3 (some .boolean), Cond.methodLink RX2 23 yX2_personOn, Cond.instanceMethod yX2_personOn, Cond.selects RX2 yX2_personOn yX2_personOn, Cond.code yX2_personOn cX2_personOn 2 (some .int), Cond.methodLink RX4 177 yX2_personOn]
def wsX4_swap : List Cond := .code yX4_swap cX4_swap 3 (some .int) :: ((wsX4_swap_r1 ++ wsX4_swap_r2) ++ wsX40 ++ wsX20 ++ (vx_atS RX4 42 "java/lang/IllegalArgumentException" ["java/lang/RuntimeException", "java/lang/Exception"]).filter goodWord ++ (vx_atS RX4 52 "java/lang/IllegalStateException" ["java/lang/RuntimeException", "java/lang/Exception"]).filter goodWord)
def wsX4_alarm : List Cond := .code yX4_alarm cX4_alarm 2 (some .int) :: ([.classLink RX4 38 "java/lang/IllegalArgumentException", .initialized "java/lang/IllegalArgumentException", .fieldLink RX4 26 "DrillVault" "rota" "LDrillVault$Rota;", .fieldLink RX4 30 "DrillVault" "today" "I", .methodLink RX4 194 yX2_firstToAnswer, .instanceMethod yX2_firstToAnswer, .selects RX2 yX2_firstToAnswer yX2_firstToAnswer, .initialized RX2, .code yX2_firstToAnswer cX2_firstToAnswer 5 (some .int), .methodLink RX2 23 yX2_personOn, .instanceMethod yX2_personOn, .selects RX2 yX2_personOn yX2_personOn, .code yX2_personOn cX2_personOn 2 (some .int), .fieldLink RX2 9 "DrillVault$Rota" "persons" "[I"] ++ wsX40 ++ wsX20 ++ (vx_atS RX4 42 "java/lang/IllegalArgumentException" ["java/lang/RuntimeException", "java/lang/Exception"]).filter goodWord)
def wsX5_init : List Cond := .code yX5_init cX5_init 2 none :: ([.methodLink RX5 1 objectInit, .instanceMethod objectInit, .code objectInit ⟨#[0xb1]⟩ 1 none, .arrayClass .int, .fieldLink RX5 7 "DrillVaultModel" "contents" "[I", .fieldLink RX5 13 "DrillVaultModel" "changed" "[I", .fieldLink RX5 16 "DrillVaultModel" "days" "[I", .fieldLink RX5 19 "DrillVaultModel" "bases" "[I", .fieldLink RX5 22 "DrillVaultModel" "sizes" "[I", .fieldLink RX5 25 "DrillVaultModel" "madeAt" "[I", .fieldLink RX5 28 "DrillVaultModel" "kept" "[I", .arrayClass .boolean, .fieldLink RX5 31 "DrillVaultModel" "there" "[Z", .fieldLink RX5 35 "DrillVaultModel" "damaged" "[Z", .fieldLink RX5 38 "DrillVaultModel" "proved" "[Z", .fieldLink RX5 41 "DrillVaultModel" "dayRule" "I", .fieldLink RX5 45 "DrillVaultModel" "weekRule" "I", .fieldLink RX5 48 "DrillVaultModel" "monthRule" "I", .fieldLink RX5 51 "DrillVaultModel" "promised" "[Z", .fieldLink RX5 54 "DrillVaultModel" "needed" "[Z", .fieldLink RX5 57 "DrillVaultModel" "loose" "[Z", .fieldLink RX5 60 "DrillVaultModel" "rota" "[I"] ++ wsX50)
def wsX5_thrown : List Cond := .code yX5_thrown cX5_thrown 1 (some .int) :: ([.fieldLink RX5 63 "DrillVaultModel" "last" "I"] ++ wsX50)
def wsX5_in : List Cond := .code yX5_in cX5_in 3 (some .boolean) :: ([])
def wsX5_goes : List Cond := .code yX5_goes cX5_goes 4 (some .boolean) :: ([.fieldLink RX5 63 "DrillVaultModel" "last" "I"] ++ wsX50)
def wsX5_isCopy : List Cond := .code yX5_isCopy cX5_isCopy 2 (some .boolean) :: ([.fieldLink RX5 66 "DrillVaultModel" "made" "I", .fieldLink RX5 31 "DrillVaultModel" "there" "[Z", .methodLink RX5 69 yX5_in, .static yX5_in, .initialized RX5, .code yX5_in cX5_in 3 (some .boolean)] ++ wsX50)
def wsX5_isFile : List Cond := .code yX5_isFile cX5_isFile 1 (some .boolean) :: ([.methodLink RX5 69 yX5_in, .static yX5_in, .initialized RX5, .code yX5_in cX5_in 3 (some .boolean)])
def wsX5_change : List Cond := .code yX5_change cX5_change 4 (some .int) :: ([.fieldLink RX5 77 "DrillVaultModel" "changes" "I", .fieldLink RX5 7 "DrillVaultModel" "contents" "[I", .fieldLink RX5 13 "DrillVaultModel" "changed" "[I", .methodLink RX5 73 yX5_isFile, .static yX5_isFile, .initialized RX5, .code yX5_isFile cX5_isFile 1 (some .boolean), .methodLink RX5 69 yX5_in, .static yX5_in, .code yX5_in cX5_in 3 (some .boolean), .methodLink RX5 80 yX5_goes, .instanceMethod yX5_goes, .selects RX5 yX5_goes yX5_goes, .code yX5_goes cX5_goes 4 (some .boolean), .fieldLink RX5 63 "DrillVaultModel" "last" "I"] ++ wsX50)
def wsX5_pass : List Cond := .code yX5_pass cX5_pass 3 (some .int) :: ([.fieldLink RX5 84 "DrillVaultModel" "day" "I", .methodLink RX5 69 yX5_in, .static yX5_in, .initialized RX5, .code yX5_in cX5_in 3 (some .boolean), .methodLink RX5 80 yX5_goes, .instanceMethod yX5_goes, .selects RX5 yX5_goes yX5_goes, .code yX5_goes cX5_goes 4 (some .boolean), .fieldLink RX5 63 "DrillVaultModel" "last" "I"] ++ wsX50)
def wsX5_latest : List Cond := .code yX5_latest cX5_latest 3 (some .int) :: ([.fieldLink RX5 66 "DrillVaultModel" "made" "I", .fieldLink RX5 31 "DrillVaultModel" "there" "[Z"] ++ wsX50)
def wsX5_makes : List Cond := .code yX5_makes cX5_makes 4 (some .int) :: ([.fieldLink RX5 16 "DrillVaultModel" "days" "[I", .fieldLink RX5 66 "DrillVaultModel" "made" "I", .fieldLink RX5 84 "DrillVaultModel" "day" "I", .fieldLink RX5 19 "DrillVaultModel" "bases" "[I", .fieldLink RX5 25 "DrillVaultModel" "madeAt" "[I", .fieldLink RX5 77 "DrillVaultModel" "changes" "I", .fieldLink RX5 13 "DrillVaultModel" "changed" "[I", .fieldLink RX5 28 "DrillVaultModel" "kept" "[I", .fieldLink RX5 7 "DrillVaultModel" "contents" "[I", .fieldLink RX5 22 "DrillVaultModel" "sizes" "[I", .fieldLink RX5 31 "DrillVaultModel" "there" "[Z"] ++ wsX50)
def wsX5_full : List Cond := .code yX5_full cX5_full 1 (some .int) :: ([.fieldLink RX5 66 "DrillVaultModel" "made" "I", .methodLink RX5 80 yX5_goes, .instanceMethod yX5_goes, .selects RX5 yX5_goes yX5_goes, .initialized RX5, .code yX5_goes cX5_goes 4 (some .boolean), .fieldLink RX5 63 "DrillVaultModel" "last" "I", .methodLink RX5 87 yX5_makes, .instanceMethod yX5_makes, .selects RX5 yX5_makes yX5_makes, .code yX5_makes cX5_makes 4 (some .int), .fieldLink RX5 16 "DrillVaultModel" "days" "[I", .fieldLink RX5 84 "DrillVaultModel" "day" "I", .fieldLink RX5 19 "DrillVaultModel" "bases" "[I", .fieldLink RX5 25 "DrillVaultModel" "madeAt" "[I", .fieldLink RX5 77 "DrillVaultModel" "changes" "I", .fieldLink RX5 13 "DrillVaultModel" "changed" "[I", .fieldLink RX5 28 "DrillVaultModel" "kept" "[I", .fieldLink RX5 7 "DrillVaultModel" "contents" "[I", .fieldLink RX5 22 "DrillVaultModel" "sizes" "[I", .fieldLink RX5 31 "DrillVaultModel" "there" "[Z"] ++ wsX50)
def wsX5_increment_r1 : List Cond := [Cond.fieldLink RX5 66 "DrillVaultModel" "made" "I", Cond.methodLink RX5 91 yX5_latest, Cond.instanceMethod yX5_latest, Cond.selects RX5 yX5_latest yX5_latest, Cond.initialized RX5, Cond.code yX5_latest cX5_latest 3 (some .int), Cond.fieldLink RX5 31 "DrillVaultModel" "there" "[Z", Cond.methodLink RX5 80 yX5_goes, Cond.instanceMethod yX5_goes, Cond.selects RX5 yX5_goes yX5_goes, Cond.code yX5_goes cX5_goes 4 (some .boolean), Cond.fieldLink RX5 63 "DrillVaultModel" "last" "I", Cond.methodLink RX5 87 yX5_makes, Cond.instanceMethod yX5_makes, Cond.selects RX5 yX5_makes yX5_makes, Cond.code yX5_makes cX5_makes 4 (some .int), Cond.fieldLink RX5 16 "DrillVaultModel" "days" "[I", Cond.fieldLink RX5 84 "DrillVaultModel" "day" "I", Cond.fieldLink RX5 19 "DrillVaultModel" "bases" "[I", Cond.fieldLink RX5 25 "DrillVaultModel" "madeAt" "[I", Cond.fieldLink RX5 77 "DrillVaultModel" "changes" "I", Cond.fieldLink RX5 13 "DrillVaultModel" "changed" "[I", Cond.fieldLink RX5 28 "DrillVaultModel" "kept" "[I", Cond.fieldLink RX5 7 "DrillVaultModel" "contents" "[I"]
def wsX5_increment_r2 : List Cond := [Cond.fieldLink RX5 22 "DrillVaultModel" "sizes" "[I"]
def wsX5_increment : List Cond := .code yX5_increment cX5_increment 1 (some .int) :: ((wsX5_increment_r1 ++ wsX5_increment_r2) ++ wsX50)
def wsX5_promises : List Cond := .code yX5_promises cX5_promises 6 none :: ([.fieldLink RX5 66 "DrillVaultModel" "made" "I", .fieldLink RX5 31 "DrillVaultModel" "there" "[Z", .fieldLink RX5 16 "DrillVaultModel" "days" "[I", .fieldLink RX5 51 "DrillVaultModel" "promised" "[Z"] ++ wsX50)
def wsX5_marks : List Cond := .code yX5_marks cX5_marks 4 (some .int) :: ([.fieldLink RX5 66 "DrillVaultModel" "made" "I", .fieldLink RX5 51 "DrillVaultModel" "promised" "[Z", .fieldLink RX5 54 "DrillVaultModel" "needed" "[Z", .fieldLink RX5 41 "DrillVaultModel" "dayRule" "I", .fieldLink RX5 45 "DrillVaultModel" "weekRule" "I", .fieldLink RX5 48 "DrillVaultModel" "monthRule" "I", .fieldLink RX5 19 "DrillVaultModel" "bases" "[I", .methodLink RX5 95 yX5_promises, .instanceMethod yX5_promises, .selects RX5 yX5_promises yX5_promises, .initialized RX5, .code yX5_promises cX5_promises 6 none, .fieldLink RX5 31 "DrillVaultModel" "there" "[Z", .fieldLink RX5 16 "DrillVaultModel" "days" "[I"] ++ wsX50)
def wsX5_isBroken : List Cond := .code yX5_isBroken cX5_isBroken 4 (some .boolean) :: ([.fieldLink RX5 35 "DrillVaultModel" "damaged" "[Z", .fieldLink RX5 19 "DrillVaultModel" "bases" "[I"] ++ wsX50)
def wsX5_damage_r1 : List Cond := [Cond.fieldLink RX5 35 "DrillVaultModel" "damaged" "[Z", Cond.fieldLink RX5 38 "DrillVaultModel" "proved" "[Z", Cond.fieldLink RX5 66 "DrillVaultModel" "made" "I", Cond.fieldLink RX5 51 "DrillVaultModel" "promised" "[Z", Cond.methodLink RX5 99 yX5_isCopy, Cond.instanceMethod yX5_isCopy, Cond.selects RX5 yX5_isCopy yX5_isCopy, Cond.initialized RX5, Cond.code yX5_isCopy cX5_isCopy 2 (some .boolean), Cond.fieldLink RX5 31 "DrillVaultModel" "there" "[Z", Cond.methodLink RX5 69 yX5_in, Cond.static yX5_in, Cond.code yX5_in cX5_in 3 (some .boolean), Cond.methodLink RX5 80 yX5_goes, Cond.instanceMethod yX5_goes, Cond.selects RX5 yX5_goes yX5_goes, Cond.code yX5_goes cX5_goes 4 (some .boolean), Cond.fieldLink RX5 63 "DrillVaultModel" "last" "I", Cond.methodLink RX5 102 yX5_marks, Cond.instanceMethod yX5_marks, Cond.selects RX5 yX5_marks yX5_marks, Cond.code yX5_marks cX5_marks 4 (some .int), Cond.fieldLink RX5 54 "DrillVaultModel" "needed" "[Z", Cond.fieldLink RX5 41 "DrillVaultModel" "dayRule" "I"]
def wsX5_damage_r2 : List Cond := [Cond.fieldLink RX5 45 "DrillVaultModel" "weekRule" "I", Cond.fieldLink RX5 48 "DrillVaultModel" "monthRule" "I", Cond.fieldLink RX5 19 "DrillVaultModel" "bases" "[I", Cond.methodLink RX5 95 yX5_promises, Cond.instanceMethod yX5_promises, Cond.selects RX5 yX5_promises yX5_promises, Cond.code yX5_promises cX5_promises 6 none, Cond.fieldLink RX5 16 "DrillVaultModel" "days" "[I", Cond.methodLink RX5 105 yX5_isBroken, Cond.instanceMethod yX5_isBroken, Cond.selects RX5 yX5_isBroken yX5_isBroken, Cond.code yX5_isBroken cX5_isBroken 4 (some .boolean)]
def wsX5_damage : List Cond := .code yX5_damage cX5_damage 4 (some .int) :: ((wsX5_damage_r1 ++ wsX5_damage_r2) ++ wsX50)
def wsX5_drill : List Cond := .code yX5_drill cX5_drill 5 (some .int) :: ([.fieldLink RX5 38 "DrillVaultModel" "proved" "[Z", .fieldLink RX5 19 "DrillVaultModel" "bases" "[I", .methodLink RX5 99 yX5_isCopy, .instanceMethod yX5_isCopy, .selects RX5 yX5_isCopy yX5_isCopy, .initialized RX5, .code yX5_isCopy cX5_isCopy 2 (some .boolean), .fieldLink RX5 66 "DrillVaultModel" "made" "I", .fieldLink RX5 31 "DrillVaultModel" "there" "[Z", .methodLink RX5 69 yX5_in, .static yX5_in, .code yX5_in cX5_in 3 (some .boolean), .methodLink RX5 80 yX5_goes, .instanceMethod yX5_goes, .selects RX5 yX5_goes yX5_goes, .code yX5_goes cX5_goes 4 (some .boolean), .fieldLink RX5 63 "DrillVaultModel" "last" "I", .methodLink RX5 105 yX5_isBroken, .instanceMethod yX5_isBroken, .selects RX5 yX5_isBroken yX5_isBroken, .code yX5_isBroken cX5_isBroken 4 (some .boolean), .fieldLink RX5 35 "DrillVaultModel" "damaged" "[Z"] ++ wsX50)
def wsX5_setRules_r1 : List Cond := [Cond.fieldLink RX5 41 "DrillVaultModel" "dayRule" "I", Cond.fieldLink RX5 45 "DrillVaultModel" "weekRule" "I", Cond.fieldLink RX5 48 "DrillVaultModel" "monthRule" "I", Cond.methodLink RX5 69 yX5_in, Cond.static yX5_in, Cond.initialized RX5, Cond.code yX5_in cX5_in 3 (some .boolean), Cond.methodLink RX5 80 yX5_goes, Cond.instanceMethod yX5_goes, Cond.selects RX5 yX5_goes yX5_goes, Cond.code yX5_goes cX5_goes 4 (some .boolean), Cond.fieldLink RX5 63 "DrillVaultModel" "last" "I", Cond.methodLink RX5 102 yX5_marks, Cond.instanceMethod yX5_marks, Cond.selects RX5 yX5_marks yX5_marks, Cond.code yX5_marks cX5_marks 4 (some .int), Cond.fieldLink RX5 66 "DrillVaultModel" "made" "I", Cond.fieldLink RX5 51 "DrillVaultModel" "promised" "[Z", Cond.fieldLink RX5 54 "DrillVaultModel" "needed" "[Z", Cond.fieldLink RX5 19 "DrillVaultModel" "bases" "[I", Cond.methodLink RX5 95 yX5_promises, Cond.instanceMethod yX5_promises, Cond.selects RX5 yX5_promises yX5_promises, Cond.code yX5_promises cX5_promises 6 none]
def wsX5_setRules_r2 : List Cond := [Cond.fieldLink RX5 31 "DrillVaultModel" "there" "[Z", Cond.fieldLink RX5 16 "DrillVaultModel" "days" "[I"]
def wsX5_setRules : List Cond := .code yX5_setRules cX5_setRules 4 (some .int) :: ((wsX5_setRules_r1 ++ wsX5_setRules_r2) ++ wsX50)
def wsX5_thin : List Cond := .code yX5_thin cX5_thin 4 (some .int) :: ([.fieldLink RX5 63 "DrillVaultModel" "last" "I", .fieldLink RX5 66 "DrillVaultModel" "made" "I", .fieldLink RX5 31 "DrillVaultModel" "there" "[Z", .fieldLink RX5 38 "DrillVaultModel" "proved" "[Z", .fieldLink RX5 16 "DrillVaultModel" "days" "[I", .fieldLink RX5 57 "DrillVaultModel" "loose" "[Z", .fieldLink RX5 54 "DrillVaultModel" "needed" "[Z", .fieldLink RX5 19 "DrillVaultModel" "bases" "[I", .fieldLink RX5 22 "DrillVaultModel" "sizes" "[I", .methodLink RX5 102 yX5_marks, .instanceMethod yX5_marks, .selects RX5 yX5_marks yX5_marks, .initialized RX5, .code yX5_marks cX5_marks 4 (some .int), .fieldLink RX5 51 "DrillVaultModel" "promised" "[Z", .fieldLink RX5 41 "DrillVaultModel" "dayRule" "I", .fieldLink RX5 45 "DrillVaultModel" "weekRule" "I", .fieldLink RX5 48 "DrillVaultModel" "monthRule" "I", .methodLink RX5 95 yX5_promises, .instanceMethod yX5_promises, .selects RX5 yX5_promises yX5_promises, .code yX5_promises cX5_promises 6 none] ++ wsX50)
def wsX5_day : List Cond := .code yX5_day cX5_day 1 (some .int) :: ([.fieldLink RX5 63 "DrillVaultModel" "last" "I", .fieldLink RX5 84 "DrillVaultModel" "day" "I"] ++ wsX50)
def wsX5_copies : List Cond := .code yX5_copies cX5_copies 3 (some .int) :: ([.fieldLink RX5 63 "DrillVaultModel" "last" "I", .fieldLink RX5 66 "DrillVaultModel" "made" "I", .fieldLink RX5 31 "DrillVaultModel" "there" "[Z"] ++ wsX50)
def wsX5_space : List Cond := .code yX5_space cX5_space 3 (some .int) :: ([.fieldLink RX5 63 "DrillVaultModel" "last" "I", .fieldLink RX5 66 "DrillVaultModel" "made" "I", .fieldLink RX5 31 "DrillVaultModel" "there" "[Z", .fieldLink RX5 22 "DrillVaultModel" "sizes" "[I"] ++ wsX50)
def wsX5_dayOf : List Cond := .code yX5_dayOf cX5_dayOf 2 (some .int) :: ([.fieldLink RX5 16 "DrillVaultModel" "days" "[I", .methodLink RX5 99 yX5_isCopy, .instanceMethod yX5_isCopy, .selects RX5 yX5_isCopy yX5_isCopy, .initialized RX5, .code yX5_isCopy cX5_isCopy 2 (some .boolean), .fieldLink RX5 66 "DrillVaultModel" "made" "I", .fieldLink RX5 31 "DrillVaultModel" "there" "[Z", .methodLink RX5 69 yX5_in, .static yX5_in, .code yX5_in cX5_in 3 (some .boolean), .methodLink RX5 80 yX5_goes, .instanceMethod yX5_goes, .selects RX5 yX5_goes yX5_goes, .code yX5_goes cX5_goes 4 (some .boolean), .fieldLink RX5 63 "DrillVaultModel" "last" "I"] ++ wsX50)
def wsX5_baseOf : List Cond := .code yX5_baseOf cX5_baseOf 2 (some .int) :: ([.fieldLink RX5 19 "DrillVaultModel" "bases" "[I", .methodLink RX5 99 yX5_isCopy, .instanceMethod yX5_isCopy, .selects RX5 yX5_isCopy yX5_isCopy, .initialized RX5, .code yX5_isCopy cX5_isCopy 2 (some .boolean), .fieldLink RX5 66 "DrillVaultModel" "made" "I", .fieldLink RX5 31 "DrillVaultModel" "there" "[Z", .methodLink RX5 69 yX5_in, .static yX5_in, .code yX5_in cX5_in 3 (some .boolean), .methodLink RX5 80 yX5_goes, .instanceMethod yX5_goes, .selects RX5 yX5_goes yX5_goes, .code yX5_goes cX5_goes 4 (some .boolean), .fieldLink RX5 63 "DrillVaultModel" "last" "I"] ++ wsX50)
def wsX5_keeps : List Cond := .code yX5_keeps cX5_keeps 2 (some .int) :: ([.fieldLink RX5 22 "DrillVaultModel" "sizes" "[I", .methodLink RX5 99 yX5_isCopy, .instanceMethod yX5_isCopy, .selects RX5 yX5_isCopy yX5_isCopy, .initialized RX5, .code yX5_isCopy cX5_isCopy 2 (some .boolean), .fieldLink RX5 66 "DrillVaultModel" "made" "I", .fieldLink RX5 31 "DrillVaultModel" "there" "[Z", .methodLink RX5 69 yX5_in, .static yX5_in, .code yX5_in cX5_in 3 (some .boolean), .methodLink RX5 80 yX5_goes, .instanceMethod yX5_goes, .selects RX5 yX5_goes yX5_goes, .code yX5_goes cX5_goes 4 (some .boolean), .fieldLink RX5 63 "DrillVaultModel" "last" "I"] ++ wsX50)
def wsX5_isPromised_r1 : List Cond := [Cond.fieldLink RX5 51 "DrillVaultModel" "promised" "[Z", Cond.methodLink RX5 102 yX5_marks, Cond.instanceMethod yX5_marks, Cond.selects RX5 yX5_marks yX5_marks, Cond.initialized RX5, Cond.code yX5_marks cX5_marks 4 (some .int), Cond.fieldLink RX5 66 "DrillVaultModel" "made" "I", Cond.fieldLink RX5 54 "DrillVaultModel" "needed" "[Z", Cond.fieldLink RX5 41 "DrillVaultModel" "dayRule" "I", Cond.fieldLink RX5 45 "DrillVaultModel" "weekRule" "I", Cond.fieldLink RX5 48 "DrillVaultModel" "monthRule" "I", Cond.fieldLink RX5 19 "DrillVaultModel" "bases" "[I", Cond.methodLink RX5 95 yX5_promises, Cond.instanceMethod yX5_promises, Cond.selects RX5 yX5_promises yX5_promises, Cond.code yX5_promises cX5_promises 6 none, Cond.fieldLink RX5 31 "DrillVaultModel" "there" "[Z", Cond.fieldLink RX5 16 "DrillVaultModel" "days" "[I", Cond.methodLink RX5 99 yX5_isCopy, Cond.instanceMethod yX5_isCopy, Cond.selects RX5 yX5_isCopy yX5_isCopy, Cond.code yX5_isCopy cX5_isCopy 2 (some .boolean), Cond.methodLink RX5 69 yX5_in, Cond.static yX5_in]
def wsX5_isPromised_r2 : List Cond := [Cond.code yX5_in cX5_in 3 (some .boolean), Cond.methodLink RX5 80 yX5_goes, Cond.instanceMethod yX5_goes, Cond.selects RX5 yX5_goes yX5_goes, Cond.code yX5_goes cX5_goes 4 (some .boolean), Cond.fieldLink RX5 63 "DrillVaultModel" "last" "I"]
def wsX5_isPromised : List Cond := .code yX5_isPromised cX5_isPromised 2 (some .boolean) :: ((wsX5_isPromised_r1 ++ wsX5_isPromised_r2) ++ wsX50)
def wsX5_isNeeded_r1 : List Cond := [Cond.fieldLink RX5 54 "DrillVaultModel" "needed" "[Z", Cond.methodLink RX5 102 yX5_marks, Cond.instanceMethod yX5_marks, Cond.selects RX5 yX5_marks yX5_marks, Cond.initialized RX5, Cond.code yX5_marks cX5_marks 4 (some .int), Cond.fieldLink RX5 66 "DrillVaultModel" "made" "I", Cond.fieldLink RX5 51 "DrillVaultModel" "promised" "[Z", Cond.fieldLink RX5 41 "DrillVaultModel" "dayRule" "I", Cond.fieldLink RX5 45 "DrillVaultModel" "weekRule" "I", Cond.fieldLink RX5 48 "DrillVaultModel" "monthRule" "I", Cond.fieldLink RX5 19 "DrillVaultModel" "bases" "[I", Cond.methodLink RX5 95 yX5_promises, Cond.instanceMethod yX5_promises, Cond.selects RX5 yX5_promises yX5_promises, Cond.code yX5_promises cX5_promises 6 none, Cond.fieldLink RX5 31 "DrillVaultModel" "there" "[Z", Cond.fieldLink RX5 16 "DrillVaultModel" "days" "[I", Cond.methodLink RX5 99 yX5_isCopy, Cond.instanceMethod yX5_isCopy, Cond.selects RX5 yX5_isCopy yX5_isCopy, Cond.code yX5_isCopy cX5_isCopy 2 (some .boolean), Cond.methodLink RX5 69 yX5_in, Cond.static yX5_in]
def wsX5_isNeeded_r2 : List Cond := [Cond.code yX5_in cX5_in 3 (some .boolean), Cond.methodLink RX5 80 yX5_goes, Cond.instanceMethod yX5_goes, Cond.selects RX5 yX5_goes yX5_goes, Cond.code yX5_goes cX5_goes 4 (some .boolean), Cond.fieldLink RX5 63 "DrillVaultModel" "last" "I"]
def wsX5_isNeeded : List Cond := .code yX5_isNeeded cX5_isNeeded 2 (some .boolean) :: ((wsX5_isNeeded_r1 ++ wsX5_isNeeded_r2) ++ wsX50)
def wsX5_isProved : List Cond := .code yX5_isProved cX5_isProved 2 (some .boolean) :: ([.fieldLink RX5 38 "DrillVaultModel" "proved" "[Z", .methodLink RX5 99 yX5_isCopy, .instanceMethod yX5_isCopy, .selects RX5 yX5_isCopy yX5_isCopy, .initialized RX5, .code yX5_isCopy cX5_isCopy 2 (some .boolean), .fieldLink RX5 66 "DrillVaultModel" "made" "I", .fieldLink RX5 31 "DrillVaultModel" "there" "[Z", .methodLink RX5 69 yX5_in, .static yX5_in, .code yX5_in cX5_in 3 (some .boolean), .methodLink RX5 80 yX5_goes, .instanceMethod yX5_goes, .selects RX5 yX5_goes yX5_goes, .code yX5_goes cX5_goes 4 (some .boolean), .fieldLink RX5 63 "DrillVaultModel" "last" "I"] ++ wsX50)
def wsX5_restore : List Cond := .code yX5_restore cX5_restore 4 (some .int) :: ([.fieldLink RX5 28 "DrillVaultModel" "kept" "[I", .fieldLink RX5 19 "DrillVaultModel" "bases" "[I", .methodLink RX5 99 yX5_isCopy, .instanceMethod yX5_isCopy, .selects RX5 yX5_isCopy yX5_isCopy, .initialized RX5, .code yX5_isCopy cX5_isCopy 2 (some .boolean), .fieldLink RX5 66 "DrillVaultModel" "made" "I", .fieldLink RX5 31 "DrillVaultModel" "there" "[Z", .methodLink RX5 69 yX5_in, .static yX5_in, .code yX5_in cX5_in 3 (some .boolean), .methodLink RX5 73 yX5_isFile, .static yX5_isFile, .code yX5_isFile cX5_isFile 1 (some .boolean), .methodLink RX5 80 yX5_goes, .instanceMethod yX5_goes, .selects RX5 yX5_goes yX5_goes, .code yX5_goes cX5_goes 4 (some .boolean), .fieldLink RX5 63 "DrillVaultModel" "last" "I"] ++ wsX50)
def wsX5_restoreByChanges : List Cond := .code yX5_restoreByChanges cX5_restoreByChanges 3 (some .int) :: ([.methodLink RX5 108 yX5_restore, .instanceMethod yX5_restore, .selects RX5 yX5_restore yX5_restore, .initialized RX5, .code yX5_restore cX5_restore 4 (some .int), .fieldLink RX5 28 "DrillVaultModel" "kept" "[I", .fieldLink RX5 19 "DrillVaultModel" "bases" "[I", .methodLink RX5 99 yX5_isCopy, .instanceMethod yX5_isCopy, .selects RX5 yX5_isCopy yX5_isCopy, .code yX5_isCopy cX5_isCopy 2 (some .boolean), .fieldLink RX5 66 "DrillVaultModel" "made" "I", .fieldLink RX5 31 "DrillVaultModel" "there" "[Z", .methodLink RX5 69 yX5_in, .static yX5_in, .code yX5_in cX5_in 3 (some .boolean), .methodLink RX5 73 yX5_isFile, .static yX5_isFile, .code yX5_isFile cX5_isFile 1 (some .boolean), .methodLink RX5 80 yX5_goes, .instanceMethod yX5_goes, .selects RX5 yX5_goes yX5_goes, .code yX5_goes cX5_goes 4 (some .boolean), .fieldLink RX5 63 "DrillVaultModel" "last" "I"] ++ wsX50)
def wsX5_isDay : List Cond := .code yX5_isDay cX5_isDay 1 (some .boolean) :: ([.methodLink RX5 69 yX5_in, .static yX5_in, .initialized RX5, .code yX5_in cX5_in 3 (some .boolean)])
def wsX5_onCall : List Cond := .code yX5_onCall cX5_onCall 2 (some .int) :: ([.fieldLink RX5 60 "DrillVaultModel" "rota" "[I", .methodLink RX5 112 yX5_isDay, .static yX5_isDay, .initialized RX5, .code yX5_isDay cX5_isDay 1 (some .boolean), .methodLink RX5 69 yX5_in, .static yX5_in, .code yX5_in cX5_in 3 (some .boolean), .methodLink RX5 80 yX5_goes, .instanceMethod yX5_goes, .selects RX5 yX5_goes yX5_goes, .code yX5_goes cX5_goes 4 (some .boolean), .fieldLink RX5 63 "DrillVaultModel" "last" "I"] ++ wsX50)
def wsX5_isTwice : List Cond := .code yX5_isTwice cX5_isTwice 2 (some .boolean) :: ([.fieldLink RX5 60 "DrillVaultModel" "rota" "[I"] ++ wsX50)
def wsX5_exchanges : List Cond := .code yX5_exchanges cX5_exchanges 4 none :: ([.fieldLink RX5 60 "DrillVaultModel" "rota" "[I"] ++ wsX50)
def wsX5_swap : List Cond := .code yX5_swap cX5_swap 5 (some .int) :: ([.fieldLink RX5 84 "DrillVaultModel" "day" "I", .fieldLink RX5 60 "DrillVaultModel" "rota" "[I", .methodLink RX5 69 yX5_in, .static yX5_in, .initialized RX5, .code yX5_in cX5_in 3 (some .boolean), .methodLink RX5 115 yX5_exchanges, .instanceMethod yX5_exchanges, .selects RX5 yX5_exchanges yX5_exchanges, .code yX5_exchanges cX5_exchanges 4 none, .methodLink RX5 118 yX5_isTwice, .instanceMethod yX5_isTwice, .selects RX5 yX5_isTwice yX5_isTwice, .code yX5_isTwice cX5_isTwice 2 (some .boolean), .methodLink RX5 80 yX5_goes, .instanceMethod yX5_goes, .selects RX5 yX5_goes yX5_goes, .code yX5_goes cX5_goes 4 (some .boolean), .fieldLink RX5 63 "DrillVaultModel" "last" "I"] ++ wsX50)
def wsX5_alarm : List Cond := .code yX5_alarm cX5_alarm 3 (some .int) :: ([.fieldLink RX5 60 "DrillVaultModel" "rota" "[I", .fieldLink RX5 84 "DrillVaultModel" "day" "I", .methodLink RX5 69 yX5_in, .static yX5_in, .initialized RX5, .code yX5_in cX5_in 3 (some .boolean), .methodLink RX5 80 yX5_goes, .instanceMethod yX5_goes, .selects RX5 yX5_goes yX5_goes, .code yX5_goes cX5_goes 4 (some .boolean), .fieldLink RX5 63 "DrillVaultModel" "last" "I"] ++ wsX50)
def wsJ9_max_7cf53 : List Cond := .code yJ9_max_7cf53 cJ9_max_7cf53 2 (some .int) :: ([])
set_option maxRecDepth 20000 in
theorem ggX1_keepAll_X0_keep : GoodIn wsX1_keepAll wsX0_keep := goodIn_r _ [6, 7, 8, 13, 14, 15, 16, 17, 18, 19, 20, 21, 22, 23] (by decide +kernel) (by decide +kernel)
set_option maxRecDepth 20000 in
theorem gX1_keepAll_X0_keep : GoodIn wsX1_keepAll (wsV RX1 25 RX0 yX0_keep wsX0_keep) := goodIn_app (goodIn_of _ (by decide +kernel)) ggX1_keepAll_X0_keep
set_option maxRecDepth 20000 in
theorem ggX1_keepChanged_X1_contentNow : GoodIn wsX1_keepChanged wsX1_contentNow := goodIn_r _ [11, 12, 20, 21, 22, 23] (by decide +kernel) (by decide +kernel)
set_option maxRecDepth 20000 in
theorem gX1_keepChanged_X1_contentNow : GoodIn wsX1_keepChanged (wsV RX1 37 RX1 yX1_contentNow wsX1_contentNow) := goodIn_app (goodIn_of _ (by decide +kernel)) ggX1_keepChanged_X1_contentNow
set_option maxRecDepth 20000 in
theorem ggX1_keepChanged_X0_keep : GoodIn wsX1_keepChanged wsX0_keep := goodIn_r _ [17, 18, 19, 24, 25, 26, 27, 28, 29, 30, 31, 32, 33, 34] (by decide +kernel) (by decide +kernel)
set_option maxRecDepth 20000 in
theorem gX1_keepChanged_X0_keep : GoodIn wsX1_keepChanged (wsV RX1 25 RX0 yX0_keep wsX0_keep) := goodIn_app (goodIn_of _ (by decide +kernel)) ggX1_keepChanged_X0_keep
set_option maxRecDepth 20000 in
theorem ggX2_exchangeIfRested_X2_exchange : GoodIn wsX2_exchangeIfRested wsX2_exchange := goodIn_r _ [5, 6, 15] (by decide +kernel) (by decide +kernel)
set_option maxRecDepth 20000 in
theorem gX2_exchangeIfRested_X2_exchange : GoodIn wsX2_exchangeIfRested (wsV RX2 15 RX2 yX2_exchange wsX2_exchange) := goodIn_app (goodIn_of _ (by decide +kernel)) ggX2_exchangeIfRested_X2_exchange
set_option maxRecDepth 20000 in
theorem ggX2_exchangeIfRested_X2_isRestedAround : GoodIn wsX2_exchangeIfRested wsX2_isRestedAround := goodIn_r _ [10, 11, 12, 13, 4, 14, 6, 15] (by decide +kernel) (by decide +kernel)
set_option maxRecDepth 20000 in
theorem gX2_exchangeIfRested_X2_isRestedAround : GoodIn wsX2_exchangeIfRested (wsV RX2 19 RX2 yX2_isRestedAround wsX2_isRestedAround) := goodIn_app (goodIn_of _ (by decide +kernel)) ggX2_exchangeIfRested_X2_isRestedAround
set_option maxRecDepth 20000 in
theorem ggX2_isRestedAround_X2_personOn : GoodIn wsX2_isRestedAround wsX2_personOn := goodIn_r _ [5, 6, 7] (by decide +kernel) (by decide +kernel)
set_option maxRecDepth 20000 in
theorem gX2_isRestedAround_X2_personOn : GoodIn wsX2_isRestedAround (wsV RX2 23 RX2 yX2_personOn wsX2_personOn) := goodIn_app (goodIn_of _ (by decide +kernel)) ggX2_isRestedAround_X2_personOn
set_option maxRecDepth 20000 in
theorem ggX2_firstToAnswer_X2_personOn : GoodIn wsX2_firstToAnswer wsX2_personOn := goodIn_r _ [5, 6, 7] (by decide +kernel) (by decide +kernel)
set_option maxRecDepth 20000 in
theorem gX2_firstToAnswer_X2_personOn : GoodIn wsX2_firstToAnswer (wsV RX2 23 RX2 yX2_personOn wsX2_personOn) := goodIn_app (goodIn_of _ (by decide +kernel)) ggX2_firstToAnswer_X2_personOn
set_option maxRecDepth 20000 in
theorem ggX3_spaceTaken_X0_spaceTaken : GoodIn wsX3_spaceTaken wsX0_spaceTaken := goodIn_r _ [6, 7, 13, 14, 15, 16, 17, 18, 19, 20, 21, 22, 23] (by decide +kernel) (by decide +kernel)
set_option maxRecDepth 20000 in
theorem gX3_spaceTaken_X0_spaceTaken : GoodIn wsX3_spaceTaken (wsV RX3 30 RX0 yX0_spaceTaken wsX0_spaceTaken) := goodIn_app (goodIn_of _ (by decide +kernel)) ggX3_spaceTaken_X0_spaceTaken
set_option maxRecDepth 20000 in
theorem ggX3_markGenerations_X3_promiseLatest : GoodIn wsX3_markGenerations wsX3_promiseLatest := goodIn_r _ [9, 1, 10, 11, 12, 13, 14, 15, 22, 23, 24, 25, 26, 27, 28, 29, 30, 31, 32, 33, 34, 35, 36, 37] (by decide +kernel) (by decide +kernel)
set_option maxRecDepth 20000 in
theorem gX3_markGenerations_X3_promiseLatest : GoodIn wsX3_markGenerations (wsV RX3 41 RX3 yX3_promiseLatest wsX3_promiseLatest) := goodIn_app (goodIn_of _ (by decide +kernel)) ggX3_markGenerations_X3_promiseLatest
set_option maxRecDepth 20000 in
theorem ggX3_markGenerations_X0_markChainNeeded : GoodIn wsX3_markGenerations wsX0_markChainNeeded := goodIn_r _ [19, 20, 21, 27, 28, 29, 30, 31, 32, 33, 34, 35, 36, 37] (by decide +kernel) (by decide +kernel)
set_option maxRecDepth 20000 in
theorem gX3_markGenerations_X0_markChainNeeded : GoodIn wsX3_markGenerations (wsV RX3 45 RX0 yX0_markChainNeeded wsX0_markChainNeeded) := goodIn_app (goodIn_of _ (by decide +kernel)) ggX3_markGenerations_X0_markChainNeeded
set_option maxRecDepth 20000 in
theorem ggX3_promiseLatest_X0_periodOf : GoodIn wsX3_promiseLatest wsX0_periodOf := goodIn_r _ [6, 7, 13, 14, 15, 16, 17, 18, 19, 20, 21, 22, 23] (by decide +kernel) (by decide +kernel)
set_option maxRecDepth 20000 in
theorem gX3_promiseLatest_X0_periodOf : GoodIn wsX3_promiseLatest (wsV RX3 48 RX0 yX0_periodOf wsX0_periodOf) := goodIn_app (goodIn_of _ (by decide +kernel)) ggX3_promiseLatest_X0_periodOf
set_option maxRecDepth 20000 in
theorem ggX3_countPromised_X3_markGenerations : GoodIn wsX3_countPromised wsX3_markGenerations := goodIn_r _ [6, 1, 7, 8, 9, 10, 11, 12, 5, 13, 14, 15, 16, 17, 18, 19, 20, 21, 22, 23, 24, 25, 26, 27, 28, 29, 30, 31, 32, 33, 34, 35, 36, 37, 38, 39, 40, 41] (by decide +kernel) (by decide +kernel)
set_option maxRecDepth 20000 in
theorem gX3_countPromised_X3_markGenerations : GoodIn wsX3_countPromised (wsV RX3 52 RX3 yX3_markGenerations wsX3_markGenerations) := goodIn_app (goodIn_of _ (by decide +kernel)) ggX3_countPromised_X3_markGenerations
set_option maxRecDepth 20000 in
theorem ggX3_countPromisedButDamaged_X3_markGenerations : GoodIn wsX3_countPromisedButDamaged wsX3_markGenerations := goodIn_r _ [6, 1, 7, 8, 9, 10, 11, 12, 5, 13, 14, 15, 16, 17, 18, 19, 20, 21, 22, 23, 24, 25, 31, 32, 33, 34, 35, 36, 37, 38, 39, 40, 41, 42, 43, 44, 45, 46] (by decide +kernel) (by decide +kernel)
set_option maxRecDepth 20000 in
theorem gX3_countPromisedButDamaged_X3_markGenerations : GoodIn wsX3_countPromisedButDamaged (wsV RX3 52 RX3 yX3_markGenerations wsX3_markGenerations) := goodIn_app (goodIn_of _ (by decide +kernel)) ggX3_countPromisedButDamaged_X3_markGenerations
set_option maxRecDepth 20000 in
theorem ggX3_countPromisedButDamaged_X0_hasDamagedChain : GoodIn wsX3_countPromisedButDamaged wsX0_hasDamagedChain := goodIn_r _ [29, 30, 25, 36, 37, 38, 39, 40, 41, 42, 43, 44, 45, 46] (by decide +kernel) (by decide +kernel)
set_option maxRecDepth 20000 in
theorem gX3_countPromisedButDamaged_X0_hasDamagedChain : GoodIn wsX3_countPromisedButDamaged (wsV RX3 55 RX0 yX0_hasDamagedChain wsX0_hasDamagedChain) := goodIn_app (goodIn_of _ (by decide +kernel)) ggX3_countPromisedButDamaged_X0_hasDamagedChain
set_option maxRecDepth 20000 in
theorem ggX3_takeOffLoose_X3_markGenerations : GoodIn wsX3_takeOffLoose wsX3_markGenerations := goodIn_r _ [6, 1, 7, 8, 9, 10, 11, 12, 5, 13, 14, 15, 16, 17, 18, 19, 20, 21, 22, 23, 24, 25, 43, 44, 45, 46, 47, 48, 49, 50, 51, 52, 53, 54, 55, 56, 57, 58] (by decide +kernel) (by decide +kernel)
set_option maxRecDepth 20000 in
theorem gX3_takeOffLoose_X3_markGenerations : GoodIn wsX3_takeOffLoose (wsV RX3 52 RX3 yX3_markGenerations wsX3_markGenerations) := goodIn_app (goodIn_of _ (by decide +kernel)) ggX3_takeOffLoose_X3_markGenerations
set_option maxRecDepth 20000 in
theorem ggX3_takeOffLoose_X3_latestProvedDay : GoodIn wsX3_takeOffLoose wsX3_latestProvedDay := goodIn_r _ [29, 1, 30, 31, 32, 33, 43, 44, 45, 46, 47, 48, 49, 50, 51, 52, 53, 54, 55, 56, 57, 58] (by decide +kernel) (by decide +kernel)
set_option maxRecDepth 20000 in
theorem gX3_takeOffLoose_X3_latestProvedDay : GoodIn wsX3_takeOffLoose (wsV RX3 59 RX3 yX3_latestProvedDay wsX3_latestProvedDay) := goodIn_app (goodIn_of _ (by decide +kernel)) ggX3_takeOffLoose_X3_latestProvedDay
set_option maxRecDepth 20000 in
theorem ggX3_takeOffLoose_X3_markHeld : GoodIn wsX3_takeOffLoose wsX3_markHeld := goodIn_r _ [37, 1, 43, 44, 45, 46, 47, 48, 49, 50, 51, 52, 53, 54, 55, 56, 57, 58] (by decide +kernel) (by decide +kernel)
set_option maxRecDepth 20000 in
theorem gX3_takeOffLoose_X3_markHeld : GoodIn wsX3_takeOffLoose (wsV RX3 62 RX3 yX3_markHeld wsX3_markHeld) := goodIn_app (goodIn_of _ (by decide +kernel)) ggX3_takeOffLoose_X3_markHeld
set_option maxRecDepth 20000 in
theorem ggX3_takeOffLoose_X0_spaceTaken : GoodIn wsX3_takeOffLoose wsX0_spaceTaken := goodIn_r _ [41, 42, 48, 49, 50, 51, 52, 53, 54, 55, 56, 57, 58] (by decide +kernel) (by decide +kernel)
set_option maxRecDepth 20000 in
theorem gX3_takeOffLoose_X0_spaceTaken : GoodIn wsX3_takeOffLoose (wsV RX3 30 RX0 yX0_spaceTaken wsX0_spaceTaken) := goodIn_app (goodIn_of _ (by decide +kernel)) ggX3_takeOffLoose_X0_spaceTaken
set_option maxRecDepth 20000 in
theorem ggX4_init_X1_init : GoodIn wsX4_init wsX1_init := goodIn_r _ [18, 19, 2, 3, 20, 21, 22, 23, 37, 38, 39, 40] (by decide +kernel) (by decide +kernel)
set_option maxRecDepth 20000 in
theorem gX4_init_X1_init_n9 : GoodIn wsX4_init (wsX1_init) := ggX4_init_X1_init
set_option maxRecDepth 20000 in
theorem ggX4_init_X3_init : GoodIn wsX4_init wsX3_init := goodIn_r _ [25, 26, 2, 3, 27, 28, 29, 30, 31, 45, 46, 47, 48, 49] (by decide +kernel) (by decide +kernel)
set_option maxRecDepth 20000 in
theorem gX4_init_X3_init_n18 : GoodIn wsX4_init (wsX3_init) := ggX4_init_X3_init
set_option maxRecDepth 20000 in
theorem ggX4_init_X2_init : GoodIn wsX4_init wsX2_init := goodIn_r _ [34, 35, 2, 3, 20, 36, 50] (by decide +kernel) (by decide +kernel)
set_option maxRecDepth 20000 in
theorem gX4_init_X2_init : GoodIn wsX4_init (wsX2_init) := ggX4_init_X2_init
set_option maxRecDepth 20000 in
theorem ggX4_change_X4_requireFile : GoodIn wsX4_change wsX4_requireFile := goodIn_ca (goodIn_r _ [9, 10, 11] (by decide +kernel) (by decide +kernel)) (goodIn_sub (fun _ h => List.mem_cons_of_mem _ (List.mem_append_right _ h)) (by decide +kernel))
set_option maxRecDepth 20000 in
theorem gX4_change_X4_requireFile : GoodIn wsX4_change (va_wsS RX4 34 yX4_requireFile wsX4_requireFile) := goodIn_app (goodIn_of _ (by decide +kernel)) ggX4_change_X4_requireFile
set_option maxRecDepth 20000 in
theorem ggX4_change_X1_contentNow : GoodIn wsX4_change wsX1_contentNow := goodIn_r _ [16, 17, 29, 30, 31, 32] (by decide +kernel) (by decide +kernel)
set_option maxRecDepth 20000 in
theorem gX4_change_X1_contentNow : GoodIn wsX4_change (wsV RX4 53 RX1 yX1_contentNow wsX1_contentNow) := goodIn_app (goodIn_of _ (by decide +kernel)) ggX4_change_X1_contentNow
set_option maxRecDepth 20000 in
theorem ggX4_change_X1_write : GoodIn wsX4_change wsX1_write := goodIn_r _ [21, 17, 22, 23, 24, 29, 30, 31, 32] (by decide +kernel) (by decide +kernel)
set_option maxRecDepth 20000 in
theorem gX4_change_X1_write : GoodIn wsX4_change (wsV RX4 57 RX1 yX1_write wsX1_write) := goodIn_app (goodIn_of _ (by decide +kernel)) ggX4_change_X1_write
set_option maxRecDepth 20000 in
theorem ggX4_full_X0_init : GoodIn wsX4_full wsX0_init := goodIn_r _ [11, 12, 13, 14, 15, 16, 17, 18, 19, 20, 48, 49, 50, 51, 52, 53, 54, 55, 56, 57, 58] (by decide +kernel) (by decide +kernel)
set_option maxRecDepth 20000 in
theorem gX4_full_X0_init : GoodIn wsX4_full (wsX0_init) := ggX4_full_X0_init
set_option maxRecDepth 20000 in
theorem ggX4_full_X1_keepAll : GoodIn wsX4_full wsX1_keepAll := goodIn_r _ [25, 26, 27, 28, 29, 6, 30, 16, 31, 59, 60, 61, 62, 48, 49, 50, 51, 52, 53, 54, 55, 56, 57, 58] (by decide +kernel) (by decide +kernel)
set_option maxRecDepth 20000 in
theorem gX4_full_X1_keepAll : GoodIn wsX4_full (wsV RX4 75 RX1 yX1_keepAll wsX1_keepAll) := goodIn_app (goodIn_of _ (by decide +kernel)) ggX4_full_X1_keepAll
set_option maxRecDepth 20000 in
theorem ggX4_full_X3_put : GoodIn wsX4_full wsX3_put := goodIn_r _ [36, 37, 38, 43, 44, 45, 46, 47] (by decide +kernel) (by decide +kernel)
set_option maxRecDepth 20000 in
theorem gX4_full_X3_put : GoodIn wsX4_full (wsV RX4 79 RX3 yX3_put wsX3_put) := goodIn_app (goodIn_of _ (by decide +kernel)) ggX4_full_X3_put
set_option maxRecDepth 20000 in
theorem ggX4_increment_X3_latest : GoodIn wsX4_increment wsX3_latest := goodIn_r _ [13, 14, 57, 58, 59, 60, 61] (by decide +kernel) (by decide +kernel)
set_option maxRecDepth 20000 in
theorem gX4_increment_X3_latest : GoodIn wsX4_increment (wsV RX4 85 RX3 yX3_latest wsX3_latest) := goodIn_app (goodIn_of _ (by decide +kernel)) ggX4_increment_X3_latest
set_option maxRecDepth 20000 in
theorem ggX4_increment_X0_init : GoodIn wsX4_increment wsX0_init := goodIn_r _ [17, 18, 19, 20, 21, 22, 23, 24, 25, 26, 62, 63, 64, 65, 66, 67, 68, 69, 70, 71, 72] (by decide +kernel) (by decide +kernel)
set_option maxRecDepth 20000 in
theorem gX4_increment_X0_init : GoodIn wsX4_increment (wsX0_init) := ggX4_increment_X0_init
set_option maxRecDepth 20000 in
theorem ggX4_increment_X1_keepChanged : GoodIn wsX4_increment wsX1_keepChanged := goodIn_r _ [31, 32, 33, 34, 35, 36, 37, 38, 39, 40, 30, 41, 42, 43, 44, 45, 6, 46, 22, 47, 73, 74, 75, 76, 62, 63, 64, 65, 66, 67, 68, 69, 70, 71, 72] (by decide +kernel) (by decide +kernel)
set_option maxRecDepth 20000 in
theorem gX4_increment_X1_keepChanged : GoodIn wsX4_increment (wsV RX4 94 RX1 yX1_keepChanged wsX1_keepChanged) := goodIn_app (goodIn_of _ (by decide +kernel)) ggX4_increment_X1_keepChanged
set_option maxRecDepth 20000 in
theorem ggX4_increment_X3_put : GoodIn wsX4_increment wsX3_put := goodIn_r _ [51, 52, 14, 57, 58, 59, 60, 61] (by decide +kernel) (by decide +kernel)
set_option maxRecDepth 20000 in
theorem gX4_increment_X3_put : GoodIn wsX4_increment (wsV RX4 79 RX3 yX3_put wsX3_put) := goodIn_app (goodIn_of _ (by decide +kernel)) ggX4_increment_X3_put
set_option maxRecDepth 20000 in
theorem ggX4_damage_X4_requireCopy : GoodIn wsX4_damage wsX4_requireCopy := goodIn_ca (goodIn_r _ [6, 7, 8, 1, 9, 10, 11, 12, 13, 14, 58, 59, 60, 61, 62, 63, 64, 65, 66] (by decide +kernel) (by decide +kernel)) (goodIn_sub (fun _ h => List.mem_cons_of_mem _ (List.mem_append_right _ h)) (by decide +kernel))
set_option maxRecDepth 20000 in
theorem gX4_damage_X4_requireCopy : GoodIn wsX4_damage (wsV RX4 98 RX4 yX4_requireCopy wsX4_requireCopy) := goodIn_app (goodIn_of _ (by decide +kernel)) ggX4_damage_X4_requireCopy
set_option maxRecDepth 20000 in
theorem ggX4_damage_X3_countPromisedButDamaged : GoodIn wsX4_damage wsX3_countPromisedButDamaged := goodIn_r _ [18, 14, 19, 20, 21, 12, 22, 23, 24, 25, 26, 27, 28, 29, 30, 31, 32, 33, 34, 35, 36, 37, 38, 39, 40, 41, 42, 43, 44, 45, 46, 62, 63, 64, 65, 66, 47, 48, 49, 50, 51, 52, 53, 54, 55, 56, 57] (by decide +kernel) (by decide +kernel)
set_option maxRecDepth 20000 in
theorem gX4_damage_X3_countPromisedButDamaged : GoodIn wsX4_damage (wsV RX4 109 RX3 yX3_countPromisedButDamaged wsX3_countPromisedButDamaged) := goodIn_app (goodIn_of _ (by decide +kernel)) ggX4_damage_X3_countPromisedButDamaged
set_option maxRecDepth 20000 in
theorem ggX4_drill_X4_requireCopy : GoodIn wsX4_drill wsX4_requireCopy := goodIn_ca (goodIn_r _ [5, 6, 7, 8, 9, 10, 11, 12, 13, 14, 31, 32, 33, 34, 35, 36, 37, 38, 39] (by decide +kernel) (by decide +kernel)) (goodIn_sub (fun _ h => List.mem_cons_of_mem _ (List.mem_append_right _ h)) (by decide +kernel))
set_option maxRecDepth 20000 in
theorem gX4_drill_X4_requireCopy : GoodIn wsX4_drill (wsV RX4 98 RX4 yX4_requireCopy wsX4_requireCopy) := goodIn_app (goodIn_of _ (by decide +kernel)) ggX4_drill_X4_requireCopy
set_option maxRecDepth 20000 in
theorem ggX4_drill_X0_hasDamagedChain : GoodIn wsX4_drill wsX0_hasDamagedChain := goodIn_r _ [19, 20, 21, 40, 41, 42, 43, 44, 45, 46, 47, 48, 49, 50] (by decide +kernel) (by decide +kernel)
set_option maxRecDepth 20000 in
theorem gX4_drill_X0_hasDamagedChain : GoodIn wsX4_drill (wsV RX4 113 RX0 yX0_hasDamagedChain wsX0_hasDamagedChain) := goodIn_app (goodIn_of _ (by decide +kernel)) ggX4_drill_X0_hasDamagedChain
set_option maxRecDepth 20000 in
theorem ggX4_drill_X0_proveChain : GoodIn wsX4_drill wsX0_proveChain := goodIn_r _ [25, 26, 21, 40, 41, 42, 43, 44, 45, 46, 47, 48, 49, 50] (by decide +kernel) (by decide +kernel)
set_option maxRecDepth 20000 in
theorem gX4_drill_X0_proveChain : GoodIn wsX4_drill (wsV RX4 117 RX0 yX0_proveChain wsX0_proveChain) := goodIn_app (goodIn_of _ (by decide +kernel)) ggX4_drill_X0_proveChain
set_option maxRecDepth 20000 in
theorem ggX4_drill_X0_chainLength : GoodIn wsX4_drill wsX0_chainLength := goodIn_r _ [30, 21, 40, 41, 42, 43, 44, 45, 46, 47, 48, 49, 50] (by decide +kernel) (by decide +kernel)
set_option maxRecDepth 20000 in
theorem gX4_drill_X0_chainLength : GoodIn wsX4_drill (wsV RX4 121 RX0 yX0_chainLength wsX0_chainLength) := goodIn_app (goodIn_of _ (by decide +kernel)) ggX4_drill_X0_chainLength
set_option maxRecDepth 20000 in
theorem ggX4_setRules_X3_countPromised : GoodIn wsX4_setRules wsX3_countPromised := goodIn_r _ [8, 9, 10, 11, 12, 7, 13, 14, 15, 16, 17, 18, 19, 20, 21, 22, 23, 24, 25, 26, 27, 28, 29, 30, 31, 32, 37, 38, 39, 40, 41, 42, 43, 44, 45, 46, 47, 48, 49, 50, 51, 52] (by decide +kernel) (by decide +kernel)
set_option maxRecDepth 20000 in
theorem gX4_setRules_X3_countPromised : GoodIn wsX4_setRules (wsV RX4 137 RX3 yX3_countPromised wsX3_countPromised) := goodIn_app (goodIn_of _ (by decide +kernel)) ggX4_setRules_X3_countPromised
set_option maxRecDepth 20000 in
theorem ggX4_thin_X3_takeOffLoose : GoodIn wsX4_thin wsX3_takeOffLoose := goodIn_r _ [6, 7, 8, 9, 10, 5, 11, 12, 13, 14, 15, 16, 17, 18, 19, 20, 21, 22, 23, 24, 25, 26, 27, 28, 29, 30, 31, 32, 33, 34, 35, 36, 37, 38, 39, 40, 41, 42, 43, 44, 45, 46, 47, 52, 53, 54, 55, 56, 57, 58, 59, 60, 61, 62, 63, 64, 65, 66, 67] (by decide +kernel) (by decide +kernel)
set_option maxRecDepth 20000 in
theorem gX4_thin_X3_takeOffLoose : GoodIn wsX4_thin (wsV RX4 140 RX3 yX3_takeOffLoose wsX3_takeOffLoose) := goodIn_app (goodIn_of _ (by decide +kernel)) ggX4_thin_X3_takeOffLoose
set_option maxRecDepth 20000 in
theorem ggX4_copies_X3_countThere : GoodIn wsX4_copies wsX3_countThere := goodIn_r _ [6, 7, 12, 13, 14, 15, 16] (by decide +kernel) (by decide +kernel)
set_option maxRecDepth 20000 in
theorem gX4_copies_X3_countThere : GoodIn wsX4_copies (wsV RX4 143 RX3 yX3_countThere wsX3_countThere) := goodIn_app (goodIn_of _ (by decide +kernel)) ggX4_copies_X3_countThere
set_option maxRecDepth 20000 in
theorem ggX4_space_X3_spaceTaken : GoodIn wsX4_space wsX3_spaceTaken := goodIn_r _ [6, 7, 8, 9, 10, 11, 12, 13, 18, 19, 20, 21, 22, 23, 24, 25, 26, 27, 28, 29, 30, 31, 32, 33] (by decide +kernel) (by decide +kernel)
set_option maxRecDepth 20000 in
theorem gX4_space_X3_spaceTaken : GoodIn wsX4_space (wsV RX4 146 RX3 yX3_spaceTaken wsX3_spaceTaken) := goodIn_app (goodIn_of _ (by decide +kernel)) ggX4_space_X3_spaceTaken
set_option maxRecDepth 20000 in
theorem ggX4_dayOf_X4_requireCopy : GoodIn wsX4_dayOf wsX4_requireCopy := goodIn_ca (goodIn_r _ [5, 6, 7, 8, 9, 10, 11, 12, 13, 14, 26, 27, 28, 29, 30, 31, 32, 33, 34] (by decide +kernel) (by decide +kernel)) (goodIn_sub (fun _ h => List.mem_cons_of_mem _ (List.mem_append_right _ h)) (by decide +kernel))
set_option maxRecDepth 20000 in
theorem gX4_dayOf_X4_requireCopy : GoodIn wsX4_dayOf (wsV RX4 98 RX4 yX4_requireCopy wsX4_requireCopy) := goodIn_app (goodIn_of _ (by decide +kernel)) ggX4_dayOf_X4_requireCopy
set_option maxRecDepth 20000 in
theorem ggX4_baseOf_X4_requireCopy : GoodIn wsX4_baseOf wsX4_requireCopy := goodIn_ca (goodIn_r _ [5, 6, 7, 8, 9, 10, 11, 12, 13, 14, 26, 27, 28, 29, 30, 31, 32, 33, 34] (by decide +kernel) (by decide +kernel)) (goodIn_sub (fun _ h => List.mem_cons_of_mem _ (List.mem_append_right _ h)) (by decide +kernel))
set_option maxRecDepth 20000 in
theorem gX4_baseOf_X4_requireCopy : GoodIn wsX4_baseOf (wsV RX4 98 RX4 yX4_requireCopy wsX4_requireCopy) := goodIn_app (goodIn_of _ (by decide +kernel)) ggX4_baseOf_X4_requireCopy
set_option maxRecDepth 20000 in
theorem ggX4_keeps_X4_requireCopy : GoodIn wsX4_keeps wsX4_requireCopy := goodIn_ca (goodIn_r _ [5, 6, 7, 8, 9, 10, 11, 12, 13, 14, 26, 27, 28, 29, 30, 31, 32, 33, 34] (by decide +kernel) (by decide +kernel)) (goodIn_sub (fun _ h => List.mem_cons_of_mem _ (List.mem_append_right _ h)) (by decide +kernel))
set_option maxRecDepth 20000 in
theorem gX4_keeps_X4_requireCopy : GoodIn wsX4_keeps (wsV RX4 98 RX4 yX4_requireCopy wsX4_requireCopy) := goodIn_app (goodIn_of _ (by decide +kernel)) ggX4_keeps_X4_requireCopy
set_option maxRecDepth 20000 in
theorem ggX4_isPromised_X4_requireCopy : GoodIn wsX4_isPromised wsX4_requireCopy := goodIn_ca (goodIn_r _ [6, 7, 8, 1, 9, 10, 11, 12, 13, 14, 38, 39, 40, 41, 53, 54, 55, 56, 57] (by decide +kernel) (by decide +kernel)) (goodIn_sub (fun _ h => List.mem_cons_of_mem _ (List.mem_append_right _ h)) (by decide +kernel))
set_option maxRecDepth 20000 in
theorem gX4_isPromised_X4_requireCopy : GoodIn wsX4_isPromised (wsV RX4 98 RX4 yX4_requireCopy wsX4_requireCopy) := goodIn_app (goodIn_of _ (by decide +kernel)) ggX4_isPromised_X4_requireCopy
set_option maxRecDepth 20000 in
theorem ggX4_isPromised_X3_markGenerations : GoodIn wsX4_isPromised wsX3_markGenerations := goodIn_r _ [18, 14, 19, 20, 21, 22, 23, 24, 12, 25, 26, 27, 28, 29, 30, 31, 32, 33, 34, 35, 36, 37, 53, 54, 55, 56, 57, 42, 43, 44, 45, 46, 47, 48, 49, 50, 51, 52] (by decide +kernel) (by decide +kernel)
set_option maxRecDepth 20000 in
theorem gX4_isPromised_X3_markGenerations : GoodIn wsX4_isPromised (wsV RX4 159 RX3 yX3_markGenerations wsX3_markGenerations) := goodIn_app (goodIn_of _ (by decide +kernel)) ggX4_isPromised_X3_markGenerations
set_option maxRecDepth 20000 in
theorem ggX4_isNeeded_X4_requireCopy : GoodIn wsX4_isNeeded wsX4_requireCopy := goodIn_ca (goodIn_r _ [6, 7, 8, 1, 9, 10, 11, 12, 13, 14, 38, 39, 40, 41, 53, 54, 55, 56, 57] (by decide +kernel) (by decide +kernel)) (goodIn_sub (fun _ h => List.mem_cons_of_mem _ (List.mem_append_right _ h)) (by decide +kernel))
set_option maxRecDepth 20000 in
theorem gX4_isNeeded_X4_requireCopy : GoodIn wsX4_isNeeded (wsV RX4 98 RX4 yX4_requireCopy wsX4_requireCopy) := goodIn_app (goodIn_of _ (by decide +kernel)) ggX4_isNeeded_X4_requireCopy
set_option maxRecDepth 20000 in
theorem ggX4_isNeeded_X3_markGenerations : GoodIn wsX4_isNeeded wsX3_markGenerations := goodIn_r _ [18, 14, 19, 20, 21, 22, 23, 24, 12, 25, 26, 27, 28, 29, 30, 31, 32, 33, 34, 35, 36, 37, 53, 54, 55, 56, 57, 42, 43, 44, 45, 46, 47, 48, 49, 50, 51, 52] (by decide +kernel) (by decide +kernel)
set_option maxRecDepth 20000 in
theorem gX4_isNeeded_X3_markGenerations : GoodIn wsX4_isNeeded (wsV RX4 159 RX3 yX3_markGenerations wsX3_markGenerations) := goodIn_app (goodIn_of _ (by decide +kernel)) ggX4_isNeeded_X3_markGenerations
set_option maxRecDepth 20000 in
theorem ggX4_isProved_X4_requireCopy : GoodIn wsX4_isProved wsX4_requireCopy := goodIn_ca (goodIn_r _ [5, 6, 7, 8, 9, 10, 11, 12, 13, 14, 26, 27, 28, 29, 30, 31, 32, 33, 34] (by decide +kernel) (by decide +kernel)) (goodIn_sub (fun _ h => List.mem_cons_of_mem _ (List.mem_append_right _ h)) (by decide +kernel))
set_option maxRecDepth 20000 in
theorem gX4_isProved_X4_requireCopy : GoodIn wsX4_isProved (wsV RX4 98 RX4 yX4_requireCopy wsX4_requireCopy) := goodIn_app (goodIn_of _ (by decide +kernel)) ggX4_isProved_X4_requireCopy
set_option maxRecDepth 20000 in
theorem ggX4_restore_X4_requireCopy : GoodIn wsX4_restore wsX4_requireCopy := goodIn_ca (goodIn_r _ [5, 6, 7, 8, 9, 10, 11, 12, 13, 14, 25, 26, 27, 28, 29, 30, 31, 32, 33] (by decide +kernel) (by decide +kernel)) (goodIn_sub (fun _ h => List.mem_cons_of_mem _ (List.mem_append_right _ h)) (by decide +kernel))
set_option maxRecDepth 20000 in
theorem gX4_restore_X4_requireCopy : GoodIn wsX4_restore (wsV RX4 98 RX4 yX4_requireCopy wsX4_requireCopy) := goodIn_app (goodIn_of _ (by decide +kernel)) ggX4_restore_X4_requireCopy
set_option maxRecDepth 20000 in
theorem ggX4_restore_X4_requireFile : GoodIn wsX4_restore wsX4_requireFile := goodIn_ca (goodIn_r _ [17, 6, 7] (by decide +kernel) (by decide +kernel)) (goodIn_sub (fun _ h => List.mem_cons_of_mem _ (List.mem_append_right _ h)) (by decide +kernel))
set_option maxRecDepth 20000 in
theorem gX4_restore_X4_requireFile : GoodIn wsX4_restore (va_wsS RX4 34 yX4_requireFile wsX4_requireFile) := goodIn_app (goodIn_of _ (by decide +kernel)) ggX4_restore_X4_requireFile
set_option maxRecDepth 20000 in
theorem ggX4_restore_X0_contentByChain : GoodIn wsX4_restore wsX0_contentByChain := goodIn_r _ [22, 23, 24, 34, 35, 36, 37, 38, 39, 40, 41, 42, 43, 44] (by decide +kernel) (by decide +kernel)
set_option maxRecDepth 20000 in
theorem gX4_restore_X0_contentByChain : GoodIn wsX4_restore (wsV RX4 168 RX0 yX0_contentByChain wsX0_contentByChain) := goodIn_app (goodIn_of _ (by decide +kernel)) ggX4_restore_X0_contentByChain
set_option maxRecDepth 20000 in
theorem ggX4_restoreByChanges_X4_requireCopy : GoodIn wsX4_restoreByChanges wsX4_requireCopy := goodIn_ca (goodIn_r _ [6, 7, 8, 9, 10, 11, 12, 13, 14, 15, 26, 27, 28, 29, 41, 42, 43, 44, 45] (by decide +kernel) (by decide +kernel)) (goodIn_sub (fun _ h => List.mem_cons_of_mem _ (List.mem_append_right _ h)) (by decide +kernel))
set_option maxRecDepth 20000 in
theorem gX4_restoreByChanges_X4_requireCopy : GoodIn wsX4_restoreByChanges (wsV RX4 98 RX4 yX4_requireCopy wsX4_requireCopy) := goodIn_app (goodIn_of _ (by decide +kernel)) ggX4_restoreByChanges_X4_requireCopy
set_option maxRecDepth 20000 in
theorem ggX4_restoreByChanges_X4_requireFile : GoodIn wsX4_restoreByChanges wsX4_requireFile := goodIn_ca (goodIn_r _ [18, 7, 8] (by decide +kernel) (by decide +kernel)) (goodIn_sub (fun _ h => List.mem_cons_of_mem _ (List.mem_append_right _ h)) (by decide +kernel))
set_option maxRecDepth 20000 in
theorem gX4_restoreByChanges_X4_requireFile : GoodIn wsX4_restoreByChanges (va_wsS RX4 34 yX4_requireFile wsX4_requireFile) := goodIn_app (goodIn_of _ (by decide +kernel)) ggX4_restoreByChanges_X4_requireFile
set_option maxRecDepth 20000 in
theorem ggX4_restoreByChanges_X1_contentAfter : GoodIn wsX4_restoreByChanges wsX1_contentAfter := goodIn_r _ [23, 24, 25, 46, 47, 48, 49] (by decide +kernel) (by decide +kernel)
set_option maxRecDepth 20000 in
theorem gX4_restoreByChanges_X1_contentAfter : GoodIn wsX4_restoreByChanges (wsV RX4 171 RX1 yX1_contentAfter wsX1_contentAfter) := goodIn_app (goodIn_of _ (by decide +kernel)) ggX4_restoreByChanges_X1_contentAfter
set_option maxRecDepth 20000 in
theorem ggX4_onCall_X2_personOn : GoodIn wsX4_onCall wsX2_personOn := goodIn_r _ [8, 9, 14] (by decide +kernel) (by decide +kernel)
set_option maxRecDepth 20000 in
theorem gX4_onCall_X2_personOn : GoodIn wsX4_onCall (wsV RX4 177 RX2 yX2_personOn wsX2_personOn) := goodIn_app (goodIn_of _ (by decide +kernel)) ggX4_onCall_X2_personOn
set_option maxRecDepth 20000 in
theorem ggX4_swap_X4_isOpenForSwaps : GoodIn wsX4_swap wsX4_isOpenForSwaps := goodIn_r _ [10, 11, 31, 32, 33, 34] (by decide +kernel) (by decide +kernel)
set_option maxRecDepth 20000 in
theorem gX4_swap_X4_isOpenForSwaps : GoodIn wsX4_swap (wsV RX4 180 RX4 yX4_isOpenForSwaps wsX4_isOpenForSwaps) := goodIn_app (goodIn_of _ (by decide +kernel)) ggX4_swap_X4_isOpenForSwaps
set_option maxRecDepth 20000 in
theorem ggX4_swap_X2_exchangeIfRested : GoodIn wsX4_swap wsX2_exchangeIfRested := goodIn_r _ [16, 17, 18, 19, 15, 20, 21, 22, 23, 24, 25, 26, 27, 28, 29, 35] (by decide +kernel) (by decide +kernel)
set_option maxRecDepth 20000 in
theorem gX4_swap_X2_exchangeIfRested : GoodIn wsX4_swap (wsV RX4 186 RX2 yX2_exchangeIfRested wsX2_exchangeIfRested) := goodIn_app (goodIn_of _ (by decide +kernel)) ggX4_swap_X2_exchangeIfRested
set_option maxRecDepth 20000 in
theorem ggX4_swap_X2_personOn : GoodIn wsX4_swap wsX2_personOn := goodIn_r _ [29, 21, 35] (by decide +kernel) (by decide +kernel)
set_option maxRecDepth 20000 in
theorem gX4_swap_X2_personOn : GoodIn wsX4_swap (wsV RX4 177 RX2 yX2_personOn wsX2_personOn) := goodIn_app (goodIn_of _ (by decide +kernel)) ggX4_swap_X2_personOn
set_option maxRecDepth 20000 in
theorem ggX4_alarm_X2_firstToAnswer : GoodIn wsX4_alarm wsX2_firstToAnswer := goodIn_r _ [9, 10, 11, 12, 8, 13, 14, 19] (by decide +kernel) (by decide +kernel)
set_option maxRecDepth 20000 in
theorem gX4_alarm_X2_firstToAnswer : GoodIn wsX4_alarm (wsV RX4 194 RX2 yX2_firstToAnswer wsX2_firstToAnswer) := goodIn_app (goodIn_of _ (by decide +kernel)) ggX4_alarm_X2_firstToAnswer
set_option maxRecDepth 20000 in
theorem ggX4_requireCopy_X3_find : GoodIn wsX4_requireCopy wsX3_find := goodIn_r _ [8, 9, 14, 15, 16, 17, 18] (by decide +kernel) (by decide +kernel)
set_option maxRecDepth 20000 in
theorem gX4_requireCopy_X3_find : GoodIn wsX4_requireCopy (wsV RX4 202 RX3 yX3_find wsX3_find) := goodIn_app (goodIn_of _ (by decide +kernel)) ggX4_requireCopy_X3_find
set_option maxRecDepth 20000 in
theorem ggX5_isCopy_X5_in : GoodIn wsX5_isCopy wsX5_in := goodIn_r _ [6] (by decide +kernel) (by decide +kernel)
set_option maxRecDepth 20000 in
theorem gX5_isCopy_X5_in : GoodIn wsX5_isCopy (va_wsS RX5 69 yX5_in wsX5_in) := goodIn_app (goodIn_of _ (by decide +kernel)) ggX5_isCopy_X5_in
set_option maxRecDepth 20000 in
theorem ggX5_isFile_X5_in : GoodIn wsX5_isFile wsX5_in := goodIn_r _ [4] (by decide +kernel) (by decide +kernel)
set_option maxRecDepth 20000 in
theorem gX5_isFile_X5_in : GoodIn wsX5_isFile (va_wsS RX5 69 yX5_in wsX5_in) := goodIn_app (goodIn_of _ (by decide +kernel)) ggX5_isFile_X5_in
set_option maxRecDepth 20000 in
theorem ggX5_change_X5_isFile : GoodIn wsX5_change wsX5_isFile := goodIn_r _ [7, 8, 9, 6, 10] (by decide +kernel) (by decide +kernel)
set_option maxRecDepth 20000 in
theorem gX5_change_X5_isFile : GoodIn wsX5_change (va_wsS RX5 73 yX5_isFile wsX5_isFile) := goodIn_app (goodIn_of _ (by decide +kernel)) ggX5_change_X5_isFile
set_option maxRecDepth 20000 in
theorem ggX5_change_X5_in : GoodIn wsX5_change wsX5_in := goodIn_r _ [10] (by decide +kernel) (by decide +kernel)
set_option maxRecDepth 20000 in
theorem gX5_change_X5_in : GoodIn wsX5_change (va_wsS RX5 69 yX5_in wsX5_in) := goodIn_app (goodIn_of _ (by decide +kernel)) ggX5_change_X5_in
set_option maxRecDepth 20000 in
theorem ggX5_change_X5_goes : GoodIn wsX5_change wsX5_goes := goodIn_r _ [14, 15, 16, 17, 18, 19, 20, 21, 22, 23, 24, 25, 26, 27, 28, 29, 30, 31, 32, 33, 34, 35, 36] (by decide +kernel) (by decide +kernel)
set_option maxRecDepth 20000 in
theorem gX5_change_X5_goes : GoodIn wsX5_change (wsV RX5 80 RX5 yX5_goes wsX5_goes) := goodIn_app (goodIn_of _ (by decide +kernel)) ggX5_change_X5_goes
set_option maxRecDepth 20000 in
theorem ggX5_pass_X5_in : GoodIn wsX5_pass wsX5_in := goodIn_r _ [5] (by decide +kernel) (by decide +kernel)
set_option maxRecDepth 20000 in
theorem gX5_pass_X5_in : GoodIn wsX5_pass (va_wsS RX5 69 yX5_in wsX5_in) := goodIn_app (goodIn_of _ (by decide +kernel)) ggX5_pass_X5_in
set_option maxRecDepth 20000 in
theorem ggX5_pass_X5_goes : GoodIn wsX5_pass wsX5_goes := goodIn_r _ [9, 10, 11, 12, 13, 14, 15, 16, 17, 18, 19, 20, 21, 22, 23, 24, 25, 26, 27, 28, 29, 30, 31] (by decide +kernel) (by decide +kernel)
set_option maxRecDepth 20000 in
theorem gX5_pass_X5_goes : GoodIn wsX5_pass (wsV RX5 80 RX5 yX5_goes wsX5_goes) := goodIn_app (goodIn_of _ (by decide +kernel)) ggX5_pass_X5_goes
set_option maxRecDepth 20000 in
theorem ggX5_full_X5_goes : GoodIn wsX5_full wsX5_goes := goodIn_r _ [6, 7, 22, 23, 24, 25, 26, 27, 28, 29, 30, 31, 32, 33, 34, 35, 36, 37, 38, 39, 40, 41, 42] (by decide +kernel) (by decide +kernel)
set_option maxRecDepth 20000 in
theorem gX5_full_X5_goes : GoodIn wsX5_full (wsV RX5 80 RX5 yX5_goes wsX5_goes) := goodIn_app (goodIn_of _ (by decide +kernel)) ggX5_full_X5_goes
set_option maxRecDepth 20000 in
theorem ggX5_full_X5_makes : GoodIn wsX5_full wsX5_makes := goodIn_r _ [11, 12, 1, 13, 14, 15, 16, 17, 18, 19, 20, 21, 22, 23, 24, 25, 26, 27, 28, 29, 30, 31, 32, 33, 34, 35, 36, 37, 38, 39, 40, 41, 42] (by decide +kernel) (by decide +kernel)
set_option maxRecDepth 20000 in
theorem gX5_full_X5_makes : GoodIn wsX5_full (wsV RX5 87 RX5 yX5_makes wsX5_makes) := goodIn_app (goodIn_of _ (by decide +kernel)) ggX5_full_X5_makes
set_option maxRecDepth 20000 in
theorem ggX5_increment_X5_latest : GoodIn wsX5_increment wsX5_latest := goodIn_r _ [6, 1, 7, 26, 27, 28, 29, 30, 31, 32, 33, 34, 35, 36, 37, 38, 39, 40, 41, 42, 43, 44, 45, 46] (by decide +kernel) (by decide +kernel)
set_option maxRecDepth 20000 in
theorem gX5_increment_X5_latest : GoodIn wsX5_increment (wsV RX5 91 RX5 yX5_latest wsX5_latest) := goodIn_app (goodIn_of _ (by decide +kernel)) ggX5_increment_X5_latest
set_option maxRecDepth 20000 in
theorem ggX5_increment_X5_goes : GoodIn wsX5_increment wsX5_goes := goodIn_r _ [11, 12, 26, 27, 28, 29, 30, 31, 32, 33, 34, 35, 36, 37, 38, 39, 40, 41, 42, 43, 44, 45, 46] (by decide +kernel) (by decide +kernel)
set_option maxRecDepth 20000 in
theorem gX5_increment_X5_goes : GoodIn wsX5_increment (wsV RX5 80 RX5 yX5_goes wsX5_goes) := goodIn_app (goodIn_of _ (by decide +kernel)) ggX5_increment_X5_goes
set_option maxRecDepth 20000 in
theorem ggX5_increment_X5_makes : GoodIn wsX5_increment wsX5_makes := goodIn_r _ [16, 17, 1, 18, 19, 20, 21, 22, 23, 24, 25, 7, 26, 27, 28, 29, 30, 31, 32, 33, 34, 35, 36, 37, 38, 39, 40, 41, 42, 43, 44, 45, 46] (by decide +kernel) (by decide +kernel)
set_option maxRecDepth 20000 in
theorem gX5_increment_X5_makes : GoodIn wsX5_increment (wsV RX5 87 RX5 yX5_makes wsX5_makes) := goodIn_app (goodIn_of _ (by decide +kernel)) ggX5_increment_X5_makes
set_option maxRecDepth 20000 in
theorem ggX5_marks_X5_promises : GoodIn wsX5_marks wsX5_promises := goodIn_r _ [12, 1, 13, 14, 2, 15, 16, 17, 18, 19, 20, 21, 22, 23, 24, 25, 26, 27, 28, 29, 30, 31, 32, 33, 34, 35] (by decide +kernel) (by decide +kernel)
set_option maxRecDepth 20000 in
theorem gX5_marks_X5_promises : GoodIn wsX5_marks (wsV RX5 95 RX5 yX5_promises wsX5_promises) := goodIn_app (goodIn_of _ (by decide +kernel)) ggX5_marks_X5_promises
set_option maxRecDepth 20000 in
theorem ggX5_damage_X5_isCopy : GoodIn wsX5_damage wsX5_isCopy := goodIn_r _ [9, 3, 10, 11, 12, 8, 13, 37, 38, 39, 40, 41, 42, 43, 44, 45, 46, 47, 48, 49, 50, 51, 52, 53, 54, 55, 56, 57] (by decide +kernel) (by decide +kernel)
set_option maxRecDepth 20000 in
theorem gX5_damage_X5_isCopy : GoodIn wsX5_damage (wsV RX5 99 RX5 yX5_isCopy wsX5_isCopy) := goodIn_app (goodIn_of _ (by decide +kernel)) ggX5_damage_X5_isCopy
set_option maxRecDepth 20000 in
theorem ggX5_damage_X5_goes : GoodIn wsX5_damage wsX5_goes := goodIn_r _ [17, 18, 37, 38, 39, 40, 41, 42, 43, 44, 45, 46, 47, 48, 49, 50, 51, 52, 53, 54, 55, 56, 57] (by decide +kernel) (by decide +kernel)
set_option maxRecDepth 20000 in
theorem gX5_damage_X5_goes : GoodIn wsX5_damage (wsV RX5 80 RX5 yX5_goes wsX5_goes) := goodIn_app (goodIn_of _ (by decide +kernel)) ggX5_damage_X5_goes
set_option maxRecDepth 20000 in
theorem ggX5_damage_X5_marks : GoodIn wsX5_damage wsX5_marks := goodIn_r _ [22, 3, 4, 23, 24, 25, 26, 27, 28, 29, 30, 8, 31, 10, 32, 37, 38, 39, 40, 41, 42, 43, 44, 45, 46, 47, 48, 49, 50, 51, 52, 53, 54, 55, 56, 57] (by decide +kernel) (by decide +kernel)
set_option maxRecDepth 20000 in
theorem gX5_damage_X5_marks : GoodIn wsX5_damage (wsV RX5 102 RX5 yX5_marks wsX5_marks) := goodIn_app (goodIn_of _ (by decide +kernel)) ggX5_damage_X5_marks
set_option maxRecDepth 20000 in
theorem ggX5_damage_X5_isBroken : GoodIn wsX5_damage wsX5_isBroken := goodIn_r _ [36, 1, 27, 37, 38, 39, 40, 41, 42, 43, 44, 45, 46, 47, 48, 49, 50, 51, 52, 53, 54, 55, 56, 57] (by decide +kernel) (by decide +kernel)
set_option maxRecDepth 20000 in
theorem gX5_damage_X5_isBroken : GoodIn wsX5_damage (wsV RX5 105 RX5 yX5_isBroken wsX5_isBroken) := goodIn_app (goodIn_of _ (by decide +kernel)) ggX5_damage_X5_isBroken
set_option maxRecDepth 20000 in
theorem ggX5_drill_X5_isCopy : GoodIn wsX5_drill wsX5_isCopy := goodIn_r _ [7, 8, 9, 10, 11, 6, 12, 23, 24, 25, 26, 27, 28, 29, 30, 31, 32, 33, 34, 35, 36, 37, 38, 39, 40, 41, 42, 43] (by decide +kernel) (by decide +kernel)
set_option maxRecDepth 20000 in
theorem gX5_drill_X5_isCopy : GoodIn wsX5_drill (wsV RX5 99 RX5 yX5_isCopy wsX5_isCopy) := goodIn_app (goodIn_of _ (by decide +kernel)) ggX5_drill_X5_isCopy
set_option maxRecDepth 20000 in
theorem ggX5_drill_X5_goes : GoodIn wsX5_drill wsX5_goes := goodIn_r _ [16, 17, 23, 24, 25, 26, 27, 28, 29, 30, 31, 32, 33, 34, 35, 36, 37, 38, 39, 40, 41, 42, 43] (by decide +kernel) (by decide +kernel)
set_option maxRecDepth 20000 in
theorem gX5_drill_X5_goes : GoodIn wsX5_drill (wsV RX5 80 RX5 yX5_goes wsX5_goes) := goodIn_app (goodIn_of _ (by decide +kernel)) ggX5_drill_X5_goes
set_option maxRecDepth 20000 in
theorem ggX5_drill_X5_isBroken : GoodIn wsX5_drill wsX5_isBroken := goodIn_r _ [21, 22, 2, 23, 24, 25, 26, 27, 28, 29, 30, 31, 32, 33, 34, 35, 36, 37, 38, 39, 40, 41, 42, 43] (by decide +kernel) (by decide +kernel)
set_option maxRecDepth 20000 in
theorem gX5_drill_X5_isBroken : GoodIn wsX5_drill (wsV RX5 105 RX5 yX5_isBroken wsX5_isBroken) := goodIn_app (goodIn_of _ (by decide +kernel)) ggX5_drill_X5_isBroken
set_option maxRecDepth 20000 in
theorem ggX5_setRules_X5_in : GoodIn wsX5_setRules wsX5_in := goodIn_r _ [7] (by decide +kernel) (by decide +kernel)
set_option maxRecDepth 20000 in
theorem gX5_setRules_X5_in : GoodIn wsX5_setRules (va_wsS RX5 69 yX5_in wsX5_in) := goodIn_app (goodIn_of _ (by decide +kernel)) ggX5_setRules_X5_in
set_option maxRecDepth 20000 in
theorem ggX5_setRules_X5_goes : GoodIn wsX5_setRules wsX5_goes := goodIn_r _ [11, 12, 27, 28, 29, 30, 31, 32, 33, 34, 35, 36, 37, 38, 39, 40, 41, 42, 43, 44, 45, 46, 47] (by decide +kernel) (by decide +kernel)
set_option maxRecDepth 20000 in
theorem gX5_setRules_X5_goes : GoodIn wsX5_setRules (wsV RX5 80 RX5 yX5_goes wsX5_goes) := goodIn_app (goodIn_of _ (by decide +kernel)) ggX5_setRules_X5_goes
set_option maxRecDepth 20000 in
theorem ggX5_setRules_X5_marks : GoodIn wsX5_setRules wsX5_marks := goodIn_r _ [16, 17, 18, 19, 1, 2, 3, 20, 21, 22, 23, 6, 24, 25, 26, 27, 28, 29, 30, 31, 32, 33, 34, 35, 36, 37, 38, 39, 40, 41, 42, 43, 44, 45, 46, 47] (by decide +kernel) (by decide +kernel)
set_option maxRecDepth 20000 in
theorem gX5_setRules_X5_marks : GoodIn wsX5_setRules (wsV RX5 102 RX5 yX5_marks wsX5_marks) := goodIn_app (goodIn_of _ (by decide +kernel)) ggX5_setRules_X5_marks
set_option maxRecDepth 20000 in
theorem ggX5_thin_X5_marks : GoodIn wsX5_thin wsX5_marks := goodIn_r _ [14, 2, 15, 7, 16, 17, 18, 8, 19, 20, 21, 13, 22, 3, 5, 23, 24, 25, 26, 27, 28, 29, 30, 31, 32, 33, 34, 35, 36, 37, 38, 39, 40, 41, 42, 43] (by decide +kernel) (by decide +kernel)
set_option maxRecDepth 20000 in
theorem gX5_thin_X5_marks : GoodIn wsX5_thin (wsV RX5 102 RX5 yX5_marks wsX5_marks) := goodIn_app (goodIn_of _ (by decide +kernel)) ggX5_thin_X5_marks
set_option maxRecDepth 20000 in
theorem ggX5_dayOf_X5_isCopy : GoodIn wsX5_dayOf wsX5_isCopy := goodIn_r _ [6, 7, 8, 9, 10, 5, 11, 17, 18, 19, 20, 21, 22, 23, 24, 25, 26, 27, 28, 29, 30, 31, 32, 33, 34, 35, 36, 37] (by decide +kernel) (by decide +kernel)
set_option maxRecDepth 20000 in
theorem gX5_dayOf_X5_isCopy : GoodIn wsX5_dayOf (wsV RX5 99 RX5 yX5_isCopy wsX5_isCopy) := goodIn_app (goodIn_of _ (by decide +kernel)) ggX5_dayOf_X5_isCopy
set_option maxRecDepth 20000 in
theorem ggX5_dayOf_X5_goes : GoodIn wsX5_dayOf wsX5_goes := goodIn_r _ [15, 16, 17, 18, 19, 20, 21, 22, 23, 24, 25, 26, 27, 28, 29, 30, 31, 32, 33, 34, 35, 36, 37] (by decide +kernel) (by decide +kernel)
set_option maxRecDepth 20000 in
theorem gX5_dayOf_X5_goes : GoodIn wsX5_dayOf (wsV RX5 80 RX5 yX5_goes wsX5_goes) := goodIn_app (goodIn_of _ (by decide +kernel)) ggX5_dayOf_X5_goes
set_option maxRecDepth 20000 in
theorem ggX5_baseOf_X5_isCopy : GoodIn wsX5_baseOf wsX5_isCopy := goodIn_r _ [6, 7, 8, 9, 10, 5, 11, 17, 18, 19, 20, 21, 22, 23, 24, 25, 26, 27, 28, 29, 30, 31, 32, 33, 34, 35, 36, 37] (by decide +kernel) (by decide +kernel)
set_option maxRecDepth 20000 in
theorem gX5_baseOf_X5_isCopy : GoodIn wsX5_baseOf (wsV RX5 99 RX5 yX5_isCopy wsX5_isCopy) := goodIn_app (goodIn_of _ (by decide +kernel)) ggX5_baseOf_X5_isCopy
set_option maxRecDepth 20000 in
theorem ggX5_baseOf_X5_goes : GoodIn wsX5_baseOf wsX5_goes := goodIn_r _ [15, 16, 17, 18, 19, 20, 21, 22, 23, 24, 25, 26, 27, 28, 29, 30, 31, 32, 33, 34, 35, 36, 37] (by decide +kernel) (by decide +kernel)
set_option maxRecDepth 20000 in
theorem gX5_baseOf_X5_goes : GoodIn wsX5_baseOf (wsV RX5 80 RX5 yX5_goes wsX5_goes) := goodIn_app (goodIn_of _ (by decide +kernel)) ggX5_baseOf_X5_goes
set_option maxRecDepth 20000 in
theorem ggX5_keeps_X5_isCopy : GoodIn wsX5_keeps wsX5_isCopy := goodIn_r _ [6, 7, 8, 9, 10, 5, 11, 17, 18, 19, 20, 21, 22, 23, 24, 25, 26, 27, 28, 29, 30, 31, 32, 33, 34, 35, 36, 37] (by decide +kernel) (by decide +kernel)
set_option maxRecDepth 20000 in
theorem gX5_keeps_X5_isCopy : GoodIn wsX5_keeps (wsV RX5 99 RX5 yX5_isCopy wsX5_isCopy) := goodIn_app (goodIn_of _ (by decide +kernel)) ggX5_keeps_X5_isCopy
set_option maxRecDepth 20000 in
theorem ggX5_keeps_X5_goes : GoodIn wsX5_keeps wsX5_goes := goodIn_r _ [15, 16, 17, 18, 19, 20, 21, 22, 23, 24, 25, 26, 27, 28, 29, 30, 31, 32, 33, 34, 35, 36, 37] (by decide +kernel) (by decide +kernel)
set_option maxRecDepth 20000 in
theorem gX5_keeps_X5_goes : GoodIn wsX5_keeps (wsV RX5 80 RX5 yX5_goes wsX5_goes) := goodIn_app (goodIn_of _ (by decide +kernel)) ggX5_keeps_X5_goes
set_option maxRecDepth 20000 in
theorem ggX5_isPromised_X5_marks : GoodIn wsX5_isPromised wsX5_marks := goodIn_r _ [6, 7, 1, 8, 9, 10, 11, 12, 13, 14, 15, 5, 16, 17, 18, 31, 32, 33, 34, 35, 36, 37, 38, 39, 40, 41, 42, 43, 44, 45, 46, 47, 48, 49, 50, 51] (by decide +kernel) (by decide +kernel)
set_option maxRecDepth 20000 in
theorem gX5_isPromised_X5_marks : GoodIn wsX5_isPromised (wsV RX5 102 RX5 yX5_marks wsX5_marks) := goodIn_app (goodIn_of _ (by decide +kernel)) ggX5_isPromised_X5_marks
set_option maxRecDepth 20000 in
theorem ggX5_isPromised_X5_isCopy : GoodIn wsX5_isPromised wsX5_isCopy := goodIn_r _ [22, 7, 17, 23, 24, 5, 25, 31, 32, 33, 34, 35, 36, 37, 38, 39, 40, 41, 42, 43, 44, 45, 46, 47, 48, 49, 50, 51] (by decide +kernel) (by decide +kernel)
set_option maxRecDepth 20000 in
theorem gX5_isPromised_X5_isCopy : GoodIn wsX5_isPromised (wsV RX5 99 RX5 yX5_isCopy wsX5_isCopy) := goodIn_app (goodIn_of _ (by decide +kernel)) ggX5_isPromised_X5_isCopy
set_option maxRecDepth 20000 in
theorem ggX5_isPromised_X5_goes : GoodIn wsX5_isPromised wsX5_goes := goodIn_r _ [29, 30, 31, 32, 33, 34, 35, 36, 37, 38, 39, 40, 41, 42, 43, 44, 45, 46, 47, 48, 49, 50, 51] (by decide +kernel) (by decide +kernel)
set_option maxRecDepth 20000 in
theorem gX5_isPromised_X5_goes : GoodIn wsX5_isPromised (wsV RX5 80 RX5 yX5_goes wsX5_goes) := goodIn_app (goodIn_of _ (by decide +kernel)) ggX5_isPromised_X5_goes
set_option maxRecDepth 20000 in
theorem ggX5_isNeeded_X5_marks : GoodIn wsX5_isNeeded wsX5_marks := goodIn_r _ [6, 7, 8, 1, 9, 10, 11, 12, 13, 14, 15, 5, 16, 17, 18, 31, 32, 33, 34, 35, 36, 37, 38, 39, 40, 41, 42, 43, 44, 45, 46, 47, 48, 49, 50, 51] (by decide +kernel) (by decide +kernel)
set_option maxRecDepth 20000 in
theorem gX5_isNeeded_X5_marks : GoodIn wsX5_isNeeded (wsV RX5 102 RX5 yX5_marks wsX5_marks) := goodIn_app (goodIn_of _ (by decide +kernel)) ggX5_isNeeded_X5_marks
set_option maxRecDepth 20000 in
theorem ggX5_isNeeded_X5_isCopy : GoodIn wsX5_isNeeded wsX5_isCopy := goodIn_r _ [22, 7, 17, 23, 24, 5, 25, 31, 32, 33, 34, 35, 36, 37, 38, 39, 40, 41, 42, 43, 44, 45, 46, 47, 48, 49, 50, 51] (by decide +kernel) (by decide +kernel)
set_option maxRecDepth 20000 in
theorem gX5_isNeeded_X5_isCopy : GoodIn wsX5_isNeeded (wsV RX5 99 RX5 yX5_isCopy wsX5_isCopy) := goodIn_app (goodIn_of _ (by decide +kernel)) ggX5_isNeeded_X5_isCopy
set_option maxRecDepth 20000 in
theorem ggX5_isNeeded_X5_goes : GoodIn wsX5_isNeeded wsX5_goes := goodIn_r _ [29, 30, 31, 32, 33, 34, 35, 36, 37, 38, 39, 40, 41, 42, 43, 44, 45, 46, 47, 48, 49, 50, 51] (by decide +kernel) (by decide +kernel)
set_option maxRecDepth 20000 in
theorem gX5_isNeeded_X5_goes : GoodIn wsX5_isNeeded (wsV RX5 80 RX5 yX5_goes wsX5_goes) := goodIn_app (goodIn_of _ (by decide +kernel)) ggX5_isNeeded_X5_goes
set_option maxRecDepth 20000 in
theorem ggX5_isProved_X5_isCopy : GoodIn wsX5_isProved wsX5_isCopy := goodIn_r _ [6, 7, 8, 9, 10, 5, 11, 17, 18, 19, 20, 21, 22, 23, 24, 25, 26, 27, 28, 29, 30, 31, 32, 33, 34, 35, 36, 37] (by decide +kernel) (by decide +kernel)
set_option maxRecDepth 20000 in
theorem gX5_isProved_X5_isCopy : GoodIn wsX5_isProved (wsV RX5 99 RX5 yX5_isCopy wsX5_isCopy) := goodIn_app (goodIn_of _ (by decide +kernel)) ggX5_isProved_X5_isCopy
set_option maxRecDepth 20000 in
theorem ggX5_isProved_X5_goes : GoodIn wsX5_isProved wsX5_goes := goodIn_r _ [15, 16, 17, 18, 19, 20, 21, 22, 23, 24, 25, 26, 27, 28, 29, 30, 31, 32, 33, 34, 35, 36, 37] (by decide +kernel) (by decide +kernel)
set_option maxRecDepth 20000 in
theorem gX5_isProved_X5_goes : GoodIn wsX5_isProved (wsV RX5 80 RX5 yX5_goes wsX5_goes) := goodIn_app (goodIn_of _ (by decide +kernel)) ggX5_isProved_X5_goes
set_option maxRecDepth 20000 in
theorem ggX5_restore_X5_isCopy : GoodIn wsX5_restore wsX5_isCopy := goodIn_r _ [7, 8, 9, 10, 11, 6, 12, 21, 22, 23, 24, 25, 26, 27, 28, 29, 30, 31, 32, 33, 34, 35, 36, 37, 38, 39, 40, 41] (by decide +kernel) (by decide +kernel)
set_option maxRecDepth 20000 in
theorem gX5_restore_X5_isCopy : GoodIn wsX5_restore (wsV RX5 99 RX5 yX5_isCopy wsX5_isCopy) := goodIn_app (goodIn_of _ (by decide +kernel)) ggX5_restore_X5_isCopy
set_option maxRecDepth 20000 in
theorem ggX5_restore_X5_isFile : GoodIn wsX5_restore wsX5_isFile := goodIn_r _ [15, 10, 11, 6, 12] (by decide +kernel) (by decide +kernel)
set_option maxRecDepth 20000 in
theorem gX5_restore_X5_isFile : GoodIn wsX5_restore (va_wsS RX5 73 yX5_isFile wsX5_isFile) := goodIn_app (goodIn_of _ (by decide +kernel)) ggX5_restore_X5_isFile
set_option maxRecDepth 20000 in
theorem ggX5_restore_X5_goes : GoodIn wsX5_restore wsX5_goes := goodIn_r _ [19, 20, 21, 22, 23, 24, 25, 26, 27, 28, 29, 30, 31, 32, 33, 34, 35, 36, 37, 38, 39, 40, 41] (by decide +kernel) (by decide +kernel)
set_option maxRecDepth 20000 in
theorem gX5_restore_X5_goes : GoodIn wsX5_restore (wsV RX5 80 RX5 yX5_goes wsX5_goes) := goodIn_app (goodIn_of _ (by decide +kernel)) ggX5_restore_X5_goes
set_option maxRecDepth 20000 in
theorem ggX5_restoreByChanges_X5_restore : GoodIn wsX5_restoreByChanges wsX5_restore := goodIn_r _ [5, 6, 7, 8, 9, 10, 4, 11, 12, 13, 14, 15, 16, 17, 18, 19, 20, 21, 22, 23, 24, 25, 26, 27, 28, 29, 30, 31, 32, 33, 34, 35, 36, 37, 38, 39, 40, 41, 42, 43, 44, 45] (by decide +kernel) (by decide +kernel)
set_option maxRecDepth 20000 in
theorem gX5_restoreByChanges_X5_restore : GoodIn wsX5_restoreByChanges (wsV RX5 108 RX5 yX5_restore wsX5_restore) := goodIn_app (goodIn_of _ (by decide +kernel)) ggX5_restoreByChanges_X5_restore
set_option maxRecDepth 20000 in
theorem ggX5_isDay_X5_in : GoodIn wsX5_isDay wsX5_in := goodIn_r _ [4] (by decide +kernel) (by decide +kernel)
set_option maxRecDepth 20000 in
theorem gX5_isDay_X5_in : GoodIn wsX5_isDay (va_wsS RX5 69 yX5_in wsX5_in) := goodIn_app (goodIn_of _ (by decide +kernel)) ggX5_isDay_X5_in
set_option maxRecDepth 20000 in
theorem ggX5_onCall_X5_isDay : GoodIn wsX5_onCall wsX5_isDay := goodIn_r _ [5, 6, 7, 4, 8] (by decide +kernel) (by decide +kernel)
set_option maxRecDepth 20000 in
theorem gX5_onCall_X5_isDay : GoodIn wsX5_onCall (va_wsS RX5 112 yX5_isDay wsX5_isDay) := goodIn_app (goodIn_of _ (by decide +kernel)) ggX5_onCall_X5_isDay
set_option maxRecDepth 20000 in
theorem ggX5_onCall_X5_goes : GoodIn wsX5_onCall wsX5_goes := goodIn_r _ [12, 13, 14, 15, 16, 17, 18, 19, 20, 21, 22, 23, 24, 25, 26, 27, 28, 29, 30, 31, 32, 33, 34] (by decide +kernel) (by decide +kernel)
set_option maxRecDepth 20000 in
theorem gX5_onCall_X5_goes : GoodIn wsX5_onCall (wsV RX5 80 RX5 yX5_goes wsX5_goes) := goodIn_app (goodIn_of _ (by decide +kernel)) ggX5_onCall_X5_goes
set_option maxRecDepth 20000 in
theorem ggX5_swap_X5_in : GoodIn wsX5_swap wsX5_in := goodIn_r _ [6] (by decide +kernel) (by decide +kernel)
set_option maxRecDepth 20000 in
theorem gX5_swap_X5_in : GoodIn wsX5_swap (va_wsS RX5 69 yX5_in wsX5_in) := goodIn_app (goodIn_of _ (by decide +kernel)) ggX5_swap_X5_in
set_option maxRecDepth 20000 in
theorem ggX5_swap_X5_exchanges : GoodIn wsX5_swap wsX5_exchanges := goodIn_r _ [10, 2, 20, 21, 22, 23, 24, 25, 26, 27, 28, 29, 30, 31, 32, 33, 34, 35, 36, 37, 38, 39, 40] (by decide +kernel) (by decide +kernel)
set_option maxRecDepth 20000 in
theorem gX5_swap_X5_exchanges : GoodIn wsX5_swap (wsV RX5 115 RX5 yX5_exchanges wsX5_exchanges) := goodIn_app (goodIn_of _ (by decide +kernel)) ggX5_swap_X5_exchanges
set_option maxRecDepth 20000 in
theorem ggX5_swap_X5_isTwice : GoodIn wsX5_swap wsX5_isTwice := goodIn_r _ [14, 2, 20, 21, 22, 23, 24, 25, 26, 27, 28, 29, 30, 31, 32, 33, 34, 35, 36, 37, 38, 39, 40] (by decide +kernel) (by decide +kernel)
set_option maxRecDepth 20000 in
theorem gX5_swap_X5_isTwice : GoodIn wsX5_swap (wsV RX5 118 RX5 yX5_isTwice wsX5_isTwice) := goodIn_app (goodIn_of _ (by decide +kernel)) ggX5_swap_X5_isTwice
set_option maxRecDepth 20000 in
theorem ggX5_swap_X5_goes : GoodIn wsX5_swap wsX5_goes := goodIn_r _ [18, 19, 20, 21, 22, 23, 24, 25, 26, 27, 28, 29, 30, 31, 32, 33, 34, 35, 36, 37, 38, 39, 40] (by decide +kernel) (by decide +kernel)
set_option maxRecDepth 20000 in
theorem gX5_swap_X5_goes : GoodIn wsX5_swap (wsV RX5 80 RX5 yX5_goes wsX5_goes) := goodIn_app (goodIn_of _ (by decide +kernel)) ggX5_swap_X5_goes
set_option maxRecDepth 20000 in
theorem ggX5_alarm_X5_in : GoodIn wsX5_alarm wsX5_in := goodIn_r _ [6] (by decide +kernel) (by decide +kernel)
set_option maxRecDepth 20000 in
theorem gX5_alarm_X5_in : GoodIn wsX5_alarm (va_wsS RX5 69 yX5_in wsX5_in) := goodIn_app (goodIn_of _ (by decide +kernel)) ggX5_alarm_X5_in
set_option maxRecDepth 20000 in
theorem ggX5_alarm_X5_goes : GoodIn wsX5_alarm wsX5_goes := goodIn_r _ [10, 11, 12, 13, 14, 15, 16, 17, 18, 19, 20, 21, 22, 23, 24, 25, 26, 27, 28, 29, 30, 31, 32] (by decide +kernel) (by decide +kernel)
set_option maxRecDepth 20000 in
theorem gX5_alarm_X5_goes : GoodIn wsX5_alarm (wsV RX5 80 RX5 yX5_goes wsX5_goes) := goodIn_app (goodIn_of _ (by decide +kernel)) ggX5_alarm_X5_goes
theorem dJ9_max_7cf53_0 : decode cJ9_max_7cf53 0 = .ok (.iload_n 0, 1) := by decide +kernel
theorem dJ9_max_7cf53_1 : decode cJ9_max_7cf53 1 = .ok (.iload_n 1, 1) := by decide +kernel
theorem dJ9_max_7cf53_2 : decode cJ9_max_7cf53 2 = .ok (.if_icmp .lt 7, 3) := by decide +kernel
theorem dJ9_max_7cf53_5 : decode cJ9_max_7cf53 5 = .ok (.iload_n 0, 1) := by decide +kernel
theorem dJ9_max_7cf53_6 : decode cJ9_max_7cf53 6 = .ok (.goto 4, 3) := by decide +kernel
theorem dJ9_max_7cf53_9 : decode cJ9_max_7cf53 9 = .ok (.iload_n 1, 1) := by decide +kernel
theorem dJ9_max_7cf53_10 : decode cJ9_max_7cf53 10 = .ok (.ireturn, 1) := by decide +kernel
abbrev vwCl : List vw_C := [(RX0, TX0, 11), (RX1, TX1, 4), (RX2, TX2, 1), (RX3, TX3, 5), (RX4, TX4, 4), (RX5, TX5, 21)]

