def wsL_change_r1 : List Cond := [Cond.classLink RL 13 "java/lang/IndexOutOfBoundsException", Cond.classLink RL 15 "java/lang/IllegalArgumentException", Cond.classLink RL 17 "java/lang/IllegalStateException", Cond.methodLink RL 7 yX4_change, Cond.instanceMethod yX4_change, Cond.selects RX4 yX4_change yX4_change, Cond.initialized RX4, Cond.code yX4_change cX4_change 4 (some .int), Cond.classLink RX4 38 "java/lang/IllegalArgumentException", Cond.initialized "java/lang/IllegalArgumentException", Cond.classLink RX4 48 "java/lang/IllegalStateException", Cond.initialized "java/lang/IllegalStateException", Cond.fieldLink RX4 10 "DrillVault" "files" "LDrillVault$Files;", Cond.methodLink RX4 34 yX4_requireFile, Cond.static yX4_requireFile, Cond.code yX4_requireFile cX4_requireFile 1 none, Cond.classLink RX4 197 "java/lang/IndexOutOfBoundsException", Cond.initialized "java/lang/IndexOutOfBoundsException", Cond.methodLink RX4 53 yX1_contentNow, Cond.instanceMethod yX1_contentNow, Cond.selects RX1 yX1_contentNow yX1_contentNow, Cond.initialized RX1, Cond.code yX1_contentNow cX1_contentNow 2 (some .int), Cond.fieldLink RX1 9 "DrillVault$Files" "contents" "[I"]
def wsL_change_r2 : List Cond := [Cond.methodLink RX4 57 yX1_write, Cond.instanceMethod yX1_write, Cond.selects RX1 yX1_write yX1_write, Cond.code yX1_write cX1_write 3 none, Cond.fieldLink RX1 21 "DrillVault$Files" "changes" "I", Cond.fieldLink RX1 15 "DrillVault$Files" "changedFiles" "[I", Cond.fieldLink RX1 18 "DrillVault$Files" "changedTo" "[I"]
def wsL_change : List Cond := .codeWith yL_change cL_change 5 (some .int) [(0, 10, 13, 13), (0, 10, 17, 15), (0, 10, 21, 17)] :: ((wsL_change_r1 ++ wsL_change_r2) ++ wsX40 ++ wsX10 ++ (vx_atS RX4 42 "java/lang/IllegalArgumentException" ["java/lang/RuntimeException", "java/lang/Exception"]).filter goodWord ++ (vx_atS RX4 52 "java/lang/IllegalStateException" ["java/lang/RuntimeException", "java/lang/Exception"]).filter goodWord ++ (vx_atS RX4 201 "java/lang/IndexOutOfBoundsException" ["java/lang/RuntimeException", "java/lang/Exception"]).filter goodWord)
def wsL_pass : List Cond := .codeWith yL_pass cL_pass 4 (some .int) [(0, 9, 12, 15), (0, 9, 15, 17)] :: ([.classLink RL 15 "java/lang/IllegalArgumentException", .classLink RL 17 "java/lang/IllegalStateException", .methodLink RL 19 yX4_pass, .instanceMethod yX4_pass, .selects RX4 yX4_pass yX4_pass, .initialized RX4, .code yX4_pass cX4_pass 2 (some .int), .classLink RX4 38 "java/lang/IllegalArgumentException", .initialized "java/lang/IllegalArgumentException", .classLink RX4 48 "java/lang/IllegalStateException", .initialized "java/lang/IllegalStateException", .fieldLink RX4 30 "DrillVault" "today" "I"] ++ wsX40 ++ (vx_atS RX4 42 "java/lang/IllegalArgumentException" ["java/lang/RuntimeException", "java/lang/Exception"]).filter goodWord ++ (vx_atS RX4 52 "java/lang/IllegalStateException" ["java/lang/RuntimeException", "java/lang/Exception"]).filter goodWord)
def wsL_full_r1 : List Cond := [Cond.classLink RL 17 "java/lang/IllegalStateException", Cond.methodLink RL 23 yX4_full, Cond.instanceMethod yX4_full, Cond.selects RX4 yX4_full yX4_full, Cond.initialized RX4, Cond.code yX4_full cX4_full 2 (some .int), Cond.classLink RX4 48 "java/lang/IllegalStateException", Cond.initialized "java/lang/IllegalStateException", Cond.fieldLink RX4 19 "DrillVault" "shelf" "LDrillVault$Shelf;", Cond.classLink RX4 70 RX0, Cond.instantiable RX0 11, Cond.initialized RX0, Cond.fieldLink RX4 30 "DrillVault" "today" "I", Cond.fieldLink RX4 10 "DrillVault" "files" "LDrillVault$Files;", Cond.methodLink RX4 72 yX0_init, Cond.instanceMethod yX0_init, Cond.code yX0_init cX0_init 6 none, Cond.methodLink RX0 3 objectInit, Cond.instanceMethod objectInit, Cond.code objectInit ⟨#[0xb1]⟩ 1 none, Cond.arrayClass .int, Cond.fieldLink RX0 9 "DrillVault$Copy" "kept" "[I", Cond.fieldLink RX0 15 "DrillVault$Copy" "number" "I", Cond.fieldLink RX0 19 "DrillVault$Copy" "madeOn" "I"]
def wsL_full_r2 : List Cond := [Cond.fieldLink RX0 22 "DrillVault$Copy" "base" "LDrillVault$Copy;", Cond.fieldLink RX0 26 "DrillVault$Copy" "changesAhead" "I", Cond.methodLink RX4 75 yX1_keepAll, Cond.instanceMethod yX1_keepAll, Cond.selects RX1 yX1_keepAll yX1_keepAll, Cond.initialized RX1, Cond.code yX1_keepAll cX1_keepAll 3 none, Cond.fieldLink RX1 9 "DrillVault$Files" "contents" "[I", Cond.methodLink RX1 25 yX0_keep, Cond.instanceMethod yX0_keep, Cond.selects RX0 yX0_keep yX0_keep, Cond.code yX0_keep cX0_keep 3 none, Cond.fieldLink RX0 29 "DrillVault$Copy" "keptContents" "I", Cond.methodLink RX4 79 yX3_put, Cond.instanceMethod yX3_put, Cond.selects RX3 yX3_put yX3_put, Cond.initialized RX3, Cond.code yX3_put cX3_put 2 none, Cond.fieldLink RX3 27 "DrillVault$Shelf" "made" "I", Cond.fieldLink RX3 11 "DrillVault$Shelf" "rows" "[LDrillVault$Copy;"]
def wsL_full : List Cond := .codeWith yL_full cL_full 3 (some .int) [(0, 8, 11, 17)] :: ((wsL_full_r1 ++ wsL_full_r2) ++ wsX40 ++ wsX30 ++ wsX00 ++ wsX10 ++ (vx_atS RX4 52 "java/lang/IllegalStateException" ["java/lang/RuntimeException", "java/lang/Exception"]).filter goodWord)
def wsL_increment_r1 : List Cond := [Cond.classLink RL 17 "java/lang/IllegalStateException", Cond.methodLink RL 27 yX4_increment, Cond.instanceMethod yX4_increment, Cond.selects RX4 yX4_increment yX4_increment, Cond.initialized RX4, Cond.code yX4_increment cX4_increment 3 (some .int), Cond.classLink RX4 48 "java/lang/IllegalStateException", Cond.initialized "java/lang/IllegalStateException", Cond.fieldLink RX4 19 "DrillVault" "shelf" "LDrillVault$Shelf;", Cond.classLink RX4 70 RX0, Cond.instantiable RX0 11, Cond.initialized RX0, Cond.fieldLink RX4 30 "DrillVault" "today" "I", Cond.fieldLink RX4 10 "DrillVault" "files" "LDrillVault$Files;", Cond.methodLink RX4 85 yX3_latest, Cond.instanceMethod yX3_latest, Cond.selects RX3 yX3_latest yX3_latest, Cond.initialized RX3, Cond.code yX3_latest cX3_latest 2 (some (.object "DrillVault$Copy")), Cond.fieldLink RX3 11 "DrillVault$Shelf" "rows" "[LDrillVault$Copy;", Cond.methodLink RX4 72 yX0_init, Cond.instanceMethod yX0_init, Cond.code yX0_init cX0_init 6 none, Cond.methodLink RX0 3 objectInit]
def wsL_increment_r2 : List Cond := [Cond.instanceMethod objectInit, Cond.code objectInit ⟨#[0xb1]⟩ 1 none, Cond.arrayClass .int, Cond.fieldLink RX0 9 "DrillVault$Copy" "kept" "[I", Cond.fieldLink RX0 15 "DrillVault$Copy" "number" "I", Cond.fieldLink RX0 19 "DrillVault$Copy" "madeOn" "I", Cond.fieldLink RX0 22 "DrillVault$Copy" "base" "LDrillVault$Copy;", Cond.fieldLink RX0 26 "DrillVault$Copy" "changesAhead" "I", Cond.methodLink RX4 94 yX1_keepChanged, Cond.instanceMethod yX1_keepChanged, Cond.selects RX1 yX1_keepChanged yX1_keepChanged, Cond.initialized RX1, Cond.code yX1_keepChanged cX1_keepChanged 4 none, Cond.methodLink RX1 31 Lib.Math.max.name, Cond.static Lib.Math.max.name, Cond.initialized "java/lang/Math", Cond.code Lib.Math.max.name Lib.Math.max.code 2 (some .int), Cond.fieldLink RX1 21 "DrillVault$Files" "changes" "I", Cond.fieldLink RX1 15 "DrillVault$Files" "changedFiles" "[I", Cond.methodLink RX1 37 yX1_contentNow, Cond.instanceMethod yX1_contentNow, Cond.selects RX1 yX1_contentNow yX1_contentNow, Cond.code yX1_contentNow cX1_contentNow 2 (some .int), Cond.fieldLink RX1 9 "DrillVault$Files" "contents" "[I"]
def wsL_increment_r3 : List Cond := [Cond.methodLink RX1 25 yX0_keep, Cond.instanceMethod yX0_keep, Cond.selects RX0 yX0_keep yX0_keep, Cond.code yX0_keep cX0_keep 3 none, Cond.fieldLink RX0 29 "DrillVault$Copy" "keptContents" "I", Cond.methodLink RX4 79 yX3_put, Cond.instanceMethod yX3_put, Cond.selects RX3 yX3_put yX3_put, Cond.code yX3_put cX3_put 2 none, Cond.fieldLink RX3 27 "DrillVault$Shelf" "made" "I"]
def wsL_increment : List Cond := .codeWith yL_increment cL_increment 3 (some .int) [(0, 8, 11, 17)] :: ((wsL_increment_r1 ++ (wsL_increment_r2 ++ wsL_increment_r3)) ++ wsX40 ++ wsX30 ++ wsX00 ++ wsX10 ++ (vx_atS RX4 52 "java/lang/IllegalStateException" ["java/lang/RuntimeException", "java/lang/Exception"]).filter goodWord)
def wsL_damage_r1 : List Cond := [Cond.classLink RL 13 "java/lang/IndexOutOfBoundsException", Cond.methodLink RL 30 yX4_damage, Cond.instanceMethod yX4_damage, Cond.selects RX4 yX4_damage yX4_damage, Cond.initialized RX4, Cond.code yX4_damage cX4_damage 3 (some .int), Cond.fieldLink RX4 19 "DrillVault" "shelf" "LDrillVault$Shelf;", Cond.methodLink RX4 98 yX4_requireCopy, Cond.instanceMethod yX4_requireCopy, Cond.selects RX4 yX4_requireCopy yX4_requireCopy, Cond.code yX4_requireCopy cX4_requireCopy 3 (some (.object "DrillVault$Copy")), Cond.classLink RX4 197 "java/lang/IndexOutOfBoundsException", Cond.initialized "java/lang/IndexOutOfBoundsException", Cond.methodLink RX4 202 yX3_find, Cond.instanceMethod yX3_find, Cond.selects RX3 yX3_find yX3_find, Cond.initialized RX3, Cond.code yX3_find cX3_find 2 (some (.object "DrillVault$Copy")), Cond.fieldLink RX3 11 "DrillVault$Shelf" "rows" "[LDrillVault$Copy;", Cond.methodLink RX4 109 yX3_countPromisedButDamaged, Cond.instanceMethod yX3_countPromisedButDamaged, Cond.selects RX3 yX3_countPromisedButDamaged yX3_countPromisedButDamaged, Cond.code yX3_countPromisedButDamaged cX3_countPromisedButDamaged 6 (some .int), Cond.methodLink RX3 52 yX3_markGenerations]
def wsL_damage_r2 : List Cond := [Cond.instanceMethod yX3_markGenerations, Cond.selects RX3 yX3_markGenerations yX3_markGenerations, Cond.code yX3_markGenerations cX3_markGenerations 5 none, Cond.fieldLink RX3 17 "DrillVault$Shelf" "daysRule" "I", Cond.fieldLink RX3 21 "DrillVault$Shelf" "weeksRule" "I", Cond.fieldLink RX3 24 "DrillVault$Shelf" "monthsRule" "I", Cond.methodLink RX3 41 yX3_promiseLatest, Cond.instanceMethod yX3_promiseLatest, Cond.selects RX3 yX3_promiseLatest yX3_promiseLatest, Cond.code yX3_promiseLatest cX3_promiseLatest 7 none, Cond.methodLink RX3 48 yX0_periodOf, Cond.instanceMethod yX0_periodOf, Cond.selects RX0 yX0_periodOf yX0_periodOf, Cond.initialized RX0, Cond.code yX0_periodOf cX0_periodOf 2 (some .int), Cond.fieldLink RX0 19 "DrillVault$Copy" "madeOn" "I", Cond.methodLink RX3 45 yX0_markChainNeeded, Cond.instanceMethod yX0_markChainNeeded, Cond.selects RX0 yX0_markChainNeeded yX0_markChainNeeded, Cond.code yX0_markChainNeeded cX0_markChainNeeded 2 none, Cond.fieldLink RX0 39 "DrillVault$Copy" "needed" "Z", Cond.fieldLink RX0 22 "DrillVault$Copy" "base" "LDrillVault$Copy;", Cond.methodLink RX3 55 yX0_hasDamagedChain, Cond.instanceMethod yX0_hasDamagedChain]
def wsL_damage_r3 : List Cond := [Cond.selects RX0 yX0_hasDamagedChain yX0_hasDamagedChain, Cond.code yX0_hasDamagedChain cX0_hasDamagedChain 2 (some .boolean), Cond.fieldLink RX0 32 "DrillVault$Copy" "damaged" "Z"]
def wsL_damage : List Cond := .codeWith yL_damage cL_damage 4 (some .int) [(0, 9, 12, 13)] :: ((wsL_damage_r1 ++ (wsL_damage_r2 ++ wsL_damage_r3)) ++ wsX00 ++ wsX40 ++ wsX30 ++ (vx_atS RX4 201 "java/lang/IndexOutOfBoundsException" ["java/lang/RuntimeException", "java/lang/Exception"]).filter goodWord)
def wsL_drill_r1 : List Cond := [Cond.classLink RL 13 "java/lang/IndexOutOfBoundsException", Cond.methodLink RL 33 yX4_drill, Cond.instanceMethod yX4_drill, Cond.selects RX4 yX4_drill yX4_drill, Cond.initialized RX4, Cond.code yX4_drill cX4_drill 4 (some .int), Cond.methodLink RX4 98 yX4_requireCopy, Cond.instanceMethod yX4_requireCopy, Cond.selects RX4 yX4_requireCopy yX4_requireCopy, Cond.code yX4_requireCopy cX4_requireCopy 3 (some (.object "DrillVault$Copy")), Cond.classLink RX4 197 "java/lang/IndexOutOfBoundsException", Cond.initialized "java/lang/IndexOutOfBoundsException", Cond.fieldLink RX4 19 "DrillVault" "shelf" "LDrillVault$Shelf;", Cond.methodLink RX4 202 yX3_find, Cond.instanceMethod yX3_find, Cond.selects RX3 yX3_find yX3_find, Cond.initialized RX3, Cond.code yX3_find cX3_find 2 (some (.object "DrillVault$Copy")), Cond.fieldLink RX3 11 "DrillVault$Shelf" "rows" "[LDrillVault$Copy;", Cond.methodLink RX4 113 yX0_hasDamagedChain, Cond.instanceMethod yX0_hasDamagedChain, Cond.selects RX0 yX0_hasDamagedChain yX0_hasDamagedChain, Cond.initialized RX0, Cond.code yX0_hasDamagedChain cX0_hasDamagedChain 2 (some .boolean)]
def wsL_drill_r2 : List Cond := [Cond.fieldLink RX0 32 "DrillVault$Copy" "damaged" "Z", Cond.fieldLink RX0 22 "DrillVault$Copy" "base" "LDrillVault$Copy;", Cond.methodLink RX4 117 yX0_proveChain, Cond.instanceMethod yX0_proveChain, Cond.selects RX0 yX0_proveChain yX0_proveChain, Cond.code yX0_proveChain cX0_proveChain 3 none, Cond.fieldLink RX0 36 "DrillVault$Copy" "proved" "Z", Cond.methodLink RX4 121 yX0_chainLength, Cond.instanceMethod yX0_chainLength, Cond.selects RX0 yX0_chainLength yX0_chainLength, Cond.code yX0_chainLength cX0_chainLength 3 (some .int)]
def wsL_drill : List Cond := .codeWith yL_drill cL_drill 4 (some .int) [(0, 9, 12, 13)] :: ((wsL_drill_r1 ++ wsL_drill_r2) ++ wsX40 ++ wsX30 ++ wsX00 ++ (vx_atS RX4 201 "java/lang/IndexOutOfBoundsException" ["java/lang/RuntimeException", "java/lang/Exception"]).filter goodWord)
def wsL_setRules_r1 : List Cond := [Cond.classLink RL 15 "java/lang/IllegalArgumentException", Cond.methodLink RL 36 yX4_setRules, Cond.instanceMethod yX4_setRules, Cond.selects RX4 yX4_setRules yX4_setRules, Cond.initialized RX4, Cond.code yX4_setRules cX4_setRules 4 (some .int), Cond.classLink RX4 38 "java/lang/IllegalArgumentException", Cond.initialized "java/lang/IllegalArgumentException", Cond.fieldLink RX4 19 "DrillVault" "shelf" "LDrillVault$Shelf;", Cond.methodLink RX4 137 yX3_countPromised, Cond.instanceMethod yX3_countPromised, Cond.selects RX3 yX3_countPromised yX3_countPromised, Cond.initialized RX3, Cond.code yX3_countPromised cX3_countPromised 6 (some .int), Cond.fieldLink RX3 11 "DrillVault$Shelf" "rows" "[LDrillVault$Copy;", Cond.methodLink RX3 52 yX3_markGenerations, Cond.instanceMethod yX3_markGenerations, Cond.selects RX3 yX3_markGenerations yX3_markGenerations, Cond.code yX3_markGenerations cX3_markGenerations 5 none, Cond.fieldLink RX3 17 "DrillVault$Shelf" "daysRule" "I", Cond.fieldLink RX3 21 "DrillVault$Shelf" "weeksRule" "I", Cond.fieldLink RX3 24 "DrillVault$Shelf" "monthsRule" "I", Cond.methodLink RX3 41 yX3_promiseLatest, Cond.instanceMethod yX3_promiseLatest]
def wsL_setRules_r2 : List Cond := [Cond.selects RX3 yX3_promiseLatest yX3_promiseLatest, Cond.code yX3_promiseLatest cX3_promiseLatest 7 none, Cond.methodLink RX3 48 yX0_periodOf, Cond.instanceMethod yX0_periodOf, Cond.selects RX0 yX0_periodOf yX0_periodOf, Cond.initialized RX0, Cond.code yX0_periodOf cX0_periodOf 2 (some .int), Cond.fieldLink RX0 19 "DrillVault$Copy" "madeOn" "I", Cond.methodLink RX3 45 yX0_markChainNeeded, Cond.instanceMethod yX0_markChainNeeded, Cond.selects RX0 yX0_markChainNeeded yX0_markChainNeeded, Cond.code yX0_markChainNeeded cX0_markChainNeeded 2 none, Cond.fieldLink RX0 39 "DrillVault$Copy" "needed" "Z", Cond.fieldLink RX0 22 "DrillVault$Copy" "base" "LDrillVault$Copy;"]
def wsL_setRules : List Cond := .codeWith yL_setRules cL_setRules 6 (some .int) [(0, 12, 15, 15)] :: ((wsL_setRules_r1 ++ wsL_setRules_r2) ++ wsX40 ++ wsX30 ++ wsX00 ++ (vx_atS RX4 42 "java/lang/IllegalArgumentException" ["java/lang/RuntimeException", "java/lang/Exception"]).filter goodWord)
def wsL_dayOf : List Cond := .codeWith yL_dayOf cL_dayOf 4 (some .int) [(0, 9, 12, 13)] :: ([.classLink RL 13 "java/lang/IndexOutOfBoundsException", .methodLink RL 40 yX4_dayOf, .instanceMethod yX4_dayOf, .selects RX4 yX4_dayOf yX4_dayOf, .initialized RX4, .code yX4_dayOf cX4_dayOf 2 (some .int), .methodLink RX4 98 yX4_requireCopy, .instanceMethod yX4_requireCopy, .selects RX4 yX4_requireCopy yX4_requireCopy, .code yX4_requireCopy cX4_requireCopy 3 (some (.object "DrillVault$Copy")), .classLink RX4 197 "java/lang/IndexOutOfBoundsException", .initialized "java/lang/IndexOutOfBoundsException", .fieldLink RX4 19 "DrillVault" "shelf" "LDrillVault$Shelf;", .methodLink RX4 202 yX3_find, .instanceMethod yX3_find, .selects RX3 yX3_find yX3_find, .initialized RX3, .code yX3_find cX3_find 2 (some (.object "DrillVault$Copy")), .fieldLink RX3 11 "DrillVault$Shelf" "rows" "[LDrillVault$Copy;"] ++ wsX00 ++ wsX40 ++ wsX30 ++ (vx_atS RX4 201 "java/lang/IndexOutOfBoundsException" ["java/lang/RuntimeException", "java/lang/Exception"]).filter goodWord)
def wsL_baseOf : List Cond := .codeWith yL_baseOf cL_baseOf 4 (some .int) [(0, 9, 12, 13)] :: ([.classLink RL 13 "java/lang/IndexOutOfBoundsException", .methodLink RL 43 yX4_baseOf, .instanceMethod yX4_baseOf, .selects RX4 yX4_baseOf yX4_baseOf, .initialized RX4, .code yX4_baseOf cX4_baseOf 3 (some .int), .methodLink RX4 98 yX4_requireCopy, .instanceMethod yX4_requireCopy, .selects RX4 yX4_requireCopy yX4_requireCopy, .code yX4_requireCopy cX4_requireCopy 3 (some (.object "DrillVault$Copy")), .classLink RX4 197 "java/lang/IndexOutOfBoundsException", .initialized "java/lang/IndexOutOfBoundsException", .fieldLink RX4 19 "DrillVault" "shelf" "LDrillVault$Shelf;", .methodLink RX4 202 yX3_find, .instanceMethod yX3_find, .selects RX3 yX3_find yX3_find, .initialized RX3, .code yX3_find cX3_find 2 (some (.object "DrillVault$Copy")), .fieldLink RX3 11 "DrillVault$Shelf" "rows" "[LDrillVault$Copy;"] ++ wsX00 ++ wsX40 ++ wsX30 ++ (vx_atS RX4 201 "java/lang/IndexOutOfBoundsException" ["java/lang/RuntimeException", "java/lang/Exception"]).filter goodWord)
def wsL_keeps : List Cond := .codeWith yL_keeps cL_keeps 4 (some .int) [(0, 9, 12, 13)] :: ([.classLink RL 13 "java/lang/IndexOutOfBoundsException", .methodLink RL 46 yX4_keeps, .instanceMethod yX4_keeps, .selects RX4 yX4_keeps yX4_keeps, .initialized RX4, .code yX4_keeps cX4_keeps 2 (some .int), .methodLink RX4 98 yX4_requireCopy, .instanceMethod yX4_requireCopy, .selects RX4 yX4_requireCopy yX4_requireCopy, .code yX4_requireCopy cX4_requireCopy 3 (some (.object "DrillVault$Copy")), .classLink RX4 197 "java/lang/IndexOutOfBoundsException", .initialized "java/lang/IndexOutOfBoundsException", .fieldLink RX4 19 "DrillVault" "shelf" "LDrillVault$Shelf;", .methodLink RX4 202 yX3_find, .instanceMethod yX3_find, .selects RX3 yX3_find yX3_find, .initialized RX3, .code yX3_find cX3_find 2 (some (.object "DrillVault$Copy")), .fieldLink RX3 11 "DrillVault$Shelf" "rows" "[LDrillVault$Copy;"] ++ wsX00 ++ wsX40 ++ wsX30 ++ (vx_atS RX4 201 "java/lang/IndexOutOfBoundsException" ["java/lang/RuntimeException", "java/lang/Exception"]).filter goodWord)
def wsL_isPromised_r1 : List Cond := [Cond.classLink RL 13 "java/lang/IndexOutOfBoundsException", Cond.methodLink RL 49 yX4_isPromised, Cond.instanceMethod yX4_isPromised, Cond.selects RX4 yX4_isPromised yX4_isPromised, Cond.initialized RX4, Cond.code yX4_isPromised cX4_isPromised 3 (some .boolean), Cond.fieldLink RX4 19 "DrillVault" "shelf" "LDrillVault$Shelf;", Cond.methodLink RX4 98 yX4_requireCopy, Cond.instanceMethod yX4_requireCopy, Cond.selects RX4 yX4_requireCopy yX4_requireCopy, Cond.code yX4_requireCopy cX4_requireCopy 3 (some (.object "DrillVault$Copy")), Cond.classLink RX4 197 "java/lang/IndexOutOfBoundsException", Cond.initialized "java/lang/IndexOutOfBoundsException", Cond.methodLink RX4 202 yX3_find, Cond.instanceMethod yX3_find, Cond.selects RX3 yX3_find yX3_find, Cond.initialized RX3, Cond.code yX3_find cX3_find 2 (some (.object "DrillVault$Copy")), Cond.fieldLink RX3 11 "DrillVault$Shelf" "rows" "[LDrillVault$Copy;", Cond.methodLink RX4 159 yX3_markGenerations, Cond.instanceMethod yX3_markGenerations, Cond.selects RX3 yX3_markGenerations yX3_markGenerations, Cond.code yX3_markGenerations cX3_markGenerations 5 none, Cond.fieldLink RX3 17 "DrillVault$Shelf" "daysRule" "I"]
def wsL_isPromised_r2 : List Cond := [Cond.fieldLink RX3 21 "DrillVault$Shelf" "weeksRule" "I", Cond.fieldLink RX3 24 "DrillVault$Shelf" "monthsRule" "I", Cond.methodLink RX3 41 yX3_promiseLatest, Cond.instanceMethod yX3_promiseLatest, Cond.selects RX3 yX3_promiseLatest yX3_promiseLatest, Cond.code yX3_promiseLatest cX3_promiseLatest 7 none, Cond.methodLink RX3 48 yX0_periodOf, Cond.instanceMethod yX0_periodOf, Cond.selects RX0 yX0_periodOf yX0_periodOf, Cond.initialized RX0, Cond.code yX0_periodOf cX0_periodOf 2 (some .int), Cond.fieldLink RX0 19 "DrillVault$Copy" "madeOn" "I", Cond.methodLink RX3 45 yX0_markChainNeeded, Cond.instanceMethod yX0_markChainNeeded, Cond.selects RX0 yX0_markChainNeeded yX0_markChainNeeded, Cond.code yX0_markChainNeeded cX0_markChainNeeded 2 none, Cond.fieldLink RX0 39 "DrillVault$Copy" "needed" "Z", Cond.fieldLink RX0 22 "DrillVault$Copy" "base" "LDrillVault$Copy;"]
def wsL_isPromised : List Cond := .codeWith yL_isPromised cL_isPromised 4 (some .int) [(0, 16, 19, 13)] :: ((wsL_isPromised_r1 ++ wsL_isPromised_r2) ++ wsX40 ++ wsX00 ++ wsX30 ++ (vx_atS RX4 201 "java/lang/IndexOutOfBoundsException" ["java/lang/RuntimeException", "java/lang/Exception"]).filter goodWord)
def wsL_isNeeded_r1 : List Cond := [Cond.classLink RL 13 "java/lang/IndexOutOfBoundsException", Cond.methodLink RL 53 yX4_isNeeded, Cond.instanceMethod yX4_isNeeded, Cond.selects RX4 yX4_isNeeded yX4_isNeeded, Cond.initialized RX4, Cond.code yX4_isNeeded cX4_isNeeded 3 (some .boolean), Cond.fieldLink RX4 19 "DrillVault" "shelf" "LDrillVault$Shelf;", Cond.methodLink RX4 98 yX4_requireCopy, Cond.instanceMethod yX4_requireCopy, Cond.selects RX4 yX4_requireCopy yX4_requireCopy, Cond.code yX4_requireCopy cX4_requireCopy 3 (some (.object "DrillVault$Copy")), Cond.classLink RX4 197 "java/lang/IndexOutOfBoundsException", Cond.initialized "java/lang/IndexOutOfBoundsException", Cond.methodLink RX4 202 yX3_find, Cond.instanceMethod yX3_find, Cond.selects RX3 yX3_find yX3_find, Cond.initialized RX3, Cond.code yX3_find cX3_find 2 (some (.object "DrillVault$Copy")), Cond.fieldLink RX3 11 "DrillVault$Shelf" "rows" "[LDrillVault$Copy;", Cond.methodLink RX4 159 yX3_markGenerations, Cond.instanceMethod yX3_markGenerations, Cond.selects RX3 yX3_markGenerations yX3_markGenerations, Cond.code yX3_markGenerations cX3_markGenerations 5 none, Cond.fieldLink RX3 17 "DrillVault$Shelf" "daysRule" "I"]
def wsL_isNeeded_r2 : List Cond := [Cond.fieldLink RX3 21 "DrillVault$Shelf" "weeksRule" "I", Cond.fieldLink RX3 24 "DrillVault$Shelf" "monthsRule" "I", Cond.methodLink RX3 41 yX3_promiseLatest, Cond.instanceMethod yX3_promiseLatest, Cond.selects RX3 yX3_promiseLatest yX3_promiseLatest, Cond.code yX3_promiseLatest cX3_promiseLatest 7 none, Cond.methodLink RX3 48 yX0_periodOf, Cond.instanceMethod yX0_periodOf, Cond.selects RX0 yX0_periodOf yX0_periodOf, Cond.initialized RX0, Cond.code yX0_periodOf cX0_periodOf 2 (some .int), Cond.fieldLink RX0 19 "DrillVault$Copy" "madeOn" "I", Cond.methodLink RX3 45 yX0_markChainNeeded, Cond.instanceMethod yX0_markChainNeeded, Cond.selects RX0 yX0_markChainNeeded yX0_markChainNeeded, Cond.code yX0_markChainNeeded cX0_markChainNeeded 2 none, Cond.fieldLink RX0 39 "DrillVault$Copy" "needed" "Z", Cond.fieldLink RX0 22 "DrillVault$Copy" "base" "LDrillVault$Copy;"]
def wsL_isNeeded : List Cond := .codeWith yL_isNeeded cL_isNeeded 4 (some .int) [(0, 16, 19, 13)] :: ((wsL_isNeeded_r1 ++ wsL_isNeeded_r2) ++ wsX40 ++ wsX00 ++ wsX30 ++ (vx_atS RX4 201 "java/lang/IndexOutOfBoundsException" ["java/lang/RuntimeException", "java/lang/Exception"]).filter goodWord)
def wsL_isProved : List Cond := .codeWith yL_isProved cL_isProved 4 (some .int) [(0, 16, 19, 13)] :: ([.classLink RL 13 "java/lang/IndexOutOfBoundsException", .methodLink RL 56 yX4_isProved, .instanceMethod yX4_isProved, .selects RX4 yX4_isProved yX4_isProved, .initialized RX4, .code yX4_isProved cX4_isProved 2 (some .boolean), .methodLink RX4 98 yX4_requireCopy, .instanceMethod yX4_requireCopy, .selects RX4 yX4_requireCopy yX4_requireCopy, .code yX4_requireCopy cX4_requireCopy 3 (some (.object "DrillVault$Copy")), .classLink RX4 197 "java/lang/IndexOutOfBoundsException", .initialized "java/lang/IndexOutOfBoundsException", .fieldLink RX4 19 "DrillVault" "shelf" "LDrillVault$Shelf;", .methodLink RX4 202 yX3_find, .instanceMethod yX3_find, .selects RX3 yX3_find yX3_find, .initialized RX3, .code yX3_find cX3_find 2 (some (.object "DrillVault$Copy")), .fieldLink RX3 11 "DrillVault$Shelf" "rows" "[LDrillVault$Copy;"] ++ wsX00 ++ wsX40 ++ wsX30 ++ (vx_atS RX4 201 "java/lang/IndexOutOfBoundsException" ["java/lang/RuntimeException", "java/lang/Exception"]).filter goodWord)
def wsL_restore_r1 : List Cond := [Cond.classLink RL 13 "java/lang/IndexOutOfBoundsException", Cond.methodLink RL 59 yX4_restore, Cond.instanceMethod yX4_restore, Cond.selects RX4 yX4_restore yX4_restore, Cond.initialized RX4, Cond.code yX4_restore cX4_restore 4 (some .int), Cond.methodLink RX4 98 yX4_requireCopy, Cond.instanceMethod yX4_requireCopy, Cond.selects RX4 yX4_requireCopy yX4_requireCopy, Cond.code yX4_requireCopy cX4_requireCopy 3 (some (.object "DrillVault$Copy")), Cond.classLink RX4 197 "java/lang/IndexOutOfBoundsException", Cond.initialized "java/lang/IndexOutOfBoundsException", Cond.fieldLink RX4 19 "DrillVault" "shelf" "LDrillVault$Shelf;", Cond.methodLink RX4 202 yX3_find, Cond.instanceMethod yX3_find, Cond.selects RX3 yX3_find yX3_find, Cond.initialized RX3, Cond.code yX3_find cX3_find 2 (some (.object "DrillVault$Copy")), Cond.fieldLink RX3 11 "DrillVault$Shelf" "rows" "[LDrillVault$Copy;", Cond.methodLink RX4 34 yX4_requireFile, Cond.static yX4_requireFile, Cond.code yX4_requireFile cX4_requireFile 1 none, Cond.methodLink RX4 168 yX0_contentByChain, Cond.instanceMethod yX0_contentByChain]
def wsL_restore_r2 : List Cond := [Cond.selects RX0 yX0_contentByChain yX0_contentByChain, Cond.initialized RX0, Cond.code yX0_contentByChain cX0_contentByChain 3 (some .int), Cond.fieldLink RX0 9 "DrillVault$Copy" "kept" "[I", Cond.fieldLink RX0 22 "DrillVault$Copy" "base" "LDrillVault$Copy;"]
def wsL_restore : List Cond := .codeWith yL_restore cL_restore 5 (some .int) [(0, 10, 13, 13)] :: ((wsL_restore_r1 ++ wsL_restore_r2) ++ wsX40 ++ wsX30 ++ wsX00 ++ (vx_atS RX4 201 "java/lang/IndexOutOfBoundsException" ["java/lang/RuntimeException", "java/lang/Exception"]).filter goodWord)
def wsL_restoreByChanges_r1 : List Cond := [Cond.classLink RL 13 "java/lang/IndexOutOfBoundsException", Cond.methodLink RL 62 yX4_restoreByChanges, Cond.instanceMethod yX4_restoreByChanges, Cond.selects RX4 yX4_restoreByChanges yX4_restoreByChanges, Cond.initialized RX4, Cond.code yX4_restoreByChanges cX4_restoreByChanges 4 (some .int), Cond.fieldLink RX4 10 "DrillVault" "files" "LDrillVault$Files;", Cond.methodLink RX4 98 yX4_requireCopy, Cond.instanceMethod yX4_requireCopy, Cond.selects RX4 yX4_requireCopy yX4_requireCopy, Cond.code yX4_requireCopy cX4_requireCopy 3 (some (.object "DrillVault$Copy")), Cond.classLink RX4 197 "java/lang/IndexOutOfBoundsException", Cond.initialized "java/lang/IndexOutOfBoundsException", Cond.fieldLink RX4 19 "DrillVault" "shelf" "LDrillVault$Shelf;", Cond.methodLink RX4 202 yX3_find, Cond.instanceMethod yX3_find, Cond.selects RX3 yX3_find yX3_find, Cond.initialized RX3, Cond.code yX3_find cX3_find 2 (some (.object "DrillVault$Copy")), Cond.fieldLink RX3 11 "DrillVault$Shelf" "rows" "[LDrillVault$Copy;", Cond.methodLink RX4 34 yX4_requireFile, Cond.static yX4_requireFile, Cond.code yX4_requireFile cX4_requireFile 1 none, Cond.methodLink RX4 171 yX1_contentAfter]
def wsL_restoreByChanges_r2 : List Cond := [Cond.instanceMethod yX1_contentAfter, Cond.selects RX1 yX1_contentAfter yX1_contentAfter, Cond.initialized RX1, Cond.code yX1_contentAfter cX1_contentAfter 5 (some .int), Cond.fieldLink RX1 15 "DrillVault$Files" "changedFiles" "[I", Cond.fieldLink RX1 18 "DrillVault$Files" "changedTo" "[I"]
def wsL_restoreByChanges : List Cond := .codeWith yL_restoreByChanges cL_restoreByChanges 5 (some .int) [(0, 10, 13, 13)] :: ((wsL_restoreByChanges_r1 ++ wsL_restoreByChanges_r2) ++ wsX40 ++ wsX00 ++ wsX30 ++ wsX10 ++ (vx_atS RX4 201 "java/lang/IndexOutOfBoundsException" ["java/lang/RuntimeException", "java/lang/Exception"]).filter goodWord)
def wsL_onCall : List Cond := .codeWith yL_onCall cL_onCall 4 (some .int) [(0, 9, 12, 15)] :: ([.classLink RL 15 "java/lang/IllegalArgumentException", .methodLink RL 65 yX4_onCall, .instanceMethod yX4_onCall, .selects RX4 yX4_onCall yX4_onCall, .initialized RX4, .code yX4_onCall cX4_onCall 2 (some .int), .classLink RX4 38 "java/lang/IllegalArgumentException", .initialized "java/lang/IllegalArgumentException", .fieldLink RX4 26 "DrillVault" "rota" "LDrillVault$Rota;", .methodLink RX4 177 yX2_personOn, .instanceMethod yX2_personOn, .selects RX2 yX2_personOn yX2_personOn, .initialized RX2, .code yX2_personOn cX2_personOn 2 (some .int), .fieldLink RX2 9 "DrillVault$Rota" "persons" "[I"] ++ wsX40 ++ wsX20 ++ (vx_atS RX4 42 "java/lang/IllegalArgumentException" ["java/lang/RuntimeException", "java/lang/Exception"]).filter goodWord)
def wsL_swap_r1 : List Cond := [Cond.classLink RL 15 "java/lang/IllegalArgumentException", Cond.classLink RL 17 "java/lang/IllegalStateException", Cond.methodLink RL 68 yX4_swap, Cond.instanceMethod yX4_swap, Cond.selects RX4 yX4_swap yX4_swap, Cond.initialized RX4, Cond.code yX4_swap cX4_swap 3 (some .int), Cond.classLink RX4 38 "java/lang/IllegalArgumentException", Cond.initialized "java/lang/IllegalArgumentException", Cond.classLink RX4 48 "java/lang/IllegalStateException", Cond.initialized "java/lang/IllegalStateException", Cond.fieldLink RX4 26 "DrillVault" "rota" "LDrillVault$Rota;", Cond.methodLink RX4 180 yX4_isOpenForSwaps, Cond.instanceMethod yX4_isOpenForSwaps, Cond.selects RX4 yX4_isOpenForSwaps yX4_isOpenForSwaps, Cond.code yX4_isOpenForSwaps cX4_isOpenForSwaps 2 (some .boolean), Cond.fieldLink RX4 30 "DrillVault" "today" "I", Cond.methodLink RX4 186 yX2_exchangeIfRested, Cond.instanceMethod yX2_exchangeIfRested, Cond.selects RX2 yX2_exchangeIfRested yX2_exchangeIfRested, Cond.initialized RX2, Cond.code yX2_exchangeIfRested cX2_exchangeIfRested 3 (some .boolean), Cond.methodLink RX2 15 yX2_exchange, Cond.instanceMethod yX2_exchange]
def wsL_swap_r2 : List Cond := [Cond.selects RX2 yX2_exchange yX2_exchange, Cond.code yX2_exchange cX2_exchange 4 none, Cond.fieldLink RX2 9 "DrillVault$Rota" "persons" "[I", Cond.methodLink RX2 19 yX2_isRestedAround, Cond.instanceMethod yX2_isRestedAround, Cond.selects RX2 yX2_isRestedAround yX2_isRestedAround, Cond.code yX2_isRestedAround cX2_isRestedAround 3 (some .boolean), Cond.methodLink RX2 23 yX2_personOn, Cond.instanceMethod yX2_personOn, Cond.selects RX2 yX2_personOn yX2_personOn, Cond.code yX2_personOn cX2_personOn 2 (some .int), Cond.methodLink RX4 177 yX2_personOn]
def wsL_swap : List Cond := .codeWith yL_swap cL_swap 5 (some .int) [(0, 10, 13, 15), (0, 10, 17, 17)] :: ((wsL_swap_r1 ++ wsL_swap_r2) ++ wsX40 ++ wsX20 ++ (vx_atS RX4 42 "java/lang/IllegalArgumentException" ["java/lang/RuntimeException", "java/lang/Exception"]).filter goodWord ++ (vx_atS RX4 52 "java/lang/IllegalStateException" ["java/lang/RuntimeException", "java/lang/Exception"]).filter goodWord)
def wsL_alarm : List Cond := .codeWith yL_alarm cL_alarm 4 (some .int) [(0, 9, 12, 15)] :: ([.classLink RL 15 "java/lang/IllegalArgumentException", .methodLink RL 71 yX4_alarm, .instanceMethod yX4_alarm, .selects RX4 yX4_alarm yX4_alarm, .initialized RX4, .code yX4_alarm cX4_alarm 2 (some .int), .classLink RX4 38 "java/lang/IllegalArgumentException", .initialized "java/lang/IllegalArgumentException", .fieldLink RX4 26 "DrillVault" "rota" "LDrillVault$Rota;", .fieldLink RX4 30 "DrillVault" "today" "I", .methodLink RX4 194 yX2_firstToAnswer, .instanceMethod yX2_firstToAnswer, .selects RX2 yX2_firstToAnswer yX2_firstToAnswer, .initialized RX2, .code yX2_firstToAnswer cX2_firstToAnswer 5 (some .int), .methodLink RX2 23 yX2_personOn, .instanceMethod yX2_personOn, .selects RX2 yX2_personOn yX2_personOn, .code yX2_personOn cX2_personOn 2 (some .int), .fieldLink RX2 9 "DrillVault$Rota" "persons" "[I"] ++ wsX40 ++ wsX20 ++ (vx_atS RX4 42 "java/lang/IllegalArgumentException" ["java/lang/RuntimeException", "java/lang/Exception"]).filter goodWord)
theorem inJ9 : ∀ w ∈ wsJ90, w ∈ lw_tbl := by decide +kernel
theorem inJ0 : ∀ w ∈ wsJ00, w ∈ lw_tbl := by decide +kernel
set_option maxRecDepth 20000 in
theorem ggL_change_X4_change : GoodIn wsL_change wsX4_change := goodIn_ca (goodIn_ca (goodIn_ca (goodIn_r _ [8, 9, 10, 11, 12, 13, 14, 15, 7, 16, 17, 18, 19, 20, 21, 22, 23, 24, 25, 26, 27, 28, 29, 30, 31, 32, 33, 34, 35, 36, 37, 38, 39] (by decide +kernel) (by decide +kernel)) (goodIn_sub (fun _ h => List.mem_cons_of_mem _ (List.mem_append_left _ (List.mem_append_left _ (List.mem_append_right _ h)))) (by decide +kernel))) (goodIn_sub (fun _ h => List.mem_cons_of_mem _ (List.mem_append_left _ (List.mem_append_right _ h))) (by decide +kernel))) (goodIn_sub (fun _ h => List.mem_cons_of_mem _ (List.mem_append_right _ h)) (by decide +kernel))
set_option maxRecDepth 20000 in
theorem gL_change_X4_change : GoodIn wsL_change (wsV RL 7 RX4 yX4_change wsX4_change) := goodIn_app (goodIn_of _ (by decide +kernel)) ggL_change_X4_change
theorem dL_change_0 : decode cL_change 0 = .ok (.aload_n 3, 1) := by decide +kernel
theorem dL_change_1 : decode cL_change 1 = .ok (.iconst 0, 1) := by decide +kernel
theorem dL_change_2 : decode cL_change 2 = .ok (.aload_n 0, 1) := by decide +kernel
theorem dL_change_3 : decode cL_change 3 = .ok (.iload_n 1, 1) := by decide +kernel
theorem dL_change_4 : decode cL_change 4 = .ok (.iload_n 2, 1) := by decide +kernel
theorem dL_change_5 : decode cL_change 5 = .ok (.invokevirtual 7, 3) := by decide +kernel
theorem dL_change_8 : decode cL_change 8 = .ok (.i2l, 1) := by decide +kernel
theorem dL_change_9 : decode cL_change 9 = .ok (.lastore, 1) := by decide +kernel
theorem dL_change_10 : decode cL_change 10 = .ok (.goto 15, 3) := by decide +kernel
theorem dL_change_13 : decode cL_change 13 = .ok (.astore 4, 2) := by decide +kernel
theorem dL_change_15 : decode cL_change 15 = .ok (.iconst 1, 1) := by decide +kernel
theorem dL_change_16 : decode cL_change 16 = .ok (.ireturn, 1) := by decide +kernel
theorem dL_change_17 : decode cL_change 17 = .ok (.astore 4, 2) := by decide +kernel
theorem dL_change_19 : decode cL_change 19 = .ok (.iconst 2, 1) := by decide +kernel
theorem dL_change_20 : decode cL_change 20 = .ok (.ireturn, 1) := by decide +kernel
theorem dL_change_21 : decode cL_change 21 = .ok (.astore 4, 2) := by decide +kernel
theorem dL_change_23 : decode cL_change 23 = .ok (.iconst 3, 1) := by decide +kernel
theorem dL_change_24 : decode cL_change 24 = .ok (.ireturn, 1) := by decide +kernel
theorem dL_change_25 : decode cL_change 25 = .ok (.iconst 0, 1) := by decide +kernel
theorem dL_change_26 : decode cL_change 26 = .ok (.ireturn, 1) := by decide +kernel
set_option maxRecDepth 20000 in
theorem ggL_pass_X4_pass : GoodIn wsL_pass wsX4_pass := goodIn_ca (goodIn_ca (goodIn_r _ [7, 8, 9, 10, 11, 12, 13, 14, 15, 16] (by decide +kernel) (by decide +kernel)) (goodIn_sub (fun _ h => List.mem_cons_of_mem _ (List.mem_append_left _ (List.mem_append_right _ h))) (by decide +kernel))) (goodIn_sub (fun _ h => List.mem_cons_of_mem _ (List.mem_append_right _ h)) (by decide +kernel))
set_option maxRecDepth 20000 in
theorem gL_pass_X4_pass : GoodIn wsL_pass (wsV RL 19 RX4 yX4_pass wsX4_pass) := goodIn_app (goodIn_of _ (by decide +kernel)) ggL_pass_X4_pass
theorem dL_pass_0 : decode cL_pass 0 = .ok (.aload_n 2, 1) := by decide +kernel
theorem dL_pass_1 : decode cL_pass 1 = .ok (.iconst 0, 1) := by decide +kernel
theorem dL_pass_2 : decode cL_pass 2 = .ok (.aload_n 0, 1) := by decide +kernel
theorem dL_pass_3 : decode cL_pass 3 = .ok (.iload_n 1, 1) := by decide +kernel
theorem dL_pass_4 : decode cL_pass 4 = .ok (.invokevirtual 19, 3) := by decide +kernel
theorem dL_pass_7 : decode cL_pass 7 = .ok (.i2l, 1) := by decide +kernel
theorem dL_pass_8 : decode cL_pass 8 = .ok (.lastore, 1) := by decide +kernel
theorem dL_pass_9 : decode cL_pass 9 = .ok (.goto 9, 3) := by decide +kernel
theorem dL_pass_12 : decode cL_pass 12 = .ok (.astore_n 3, 1) := by decide +kernel
theorem dL_pass_13 : decode cL_pass 13 = .ok (.iconst 1, 1) := by decide +kernel
theorem dL_pass_14 : decode cL_pass 14 = .ok (.ireturn, 1) := by decide +kernel
theorem dL_pass_15 : decode cL_pass 15 = .ok (.astore_n 3, 1) := by decide +kernel
theorem dL_pass_16 : decode cL_pass 16 = .ok (.iconst 2, 1) := by decide +kernel
theorem dL_pass_17 : decode cL_pass 17 = .ok (.ireturn, 1) := by decide +kernel
theorem dL_pass_18 : decode cL_pass 18 = .ok (.iconst 0, 1) := by decide +kernel
theorem dL_pass_19 : decode cL_pass 19 = .ok (.ireturn, 1) := by decide +kernel
set_option maxRecDepth 20000 in
theorem ggL_full_X4_full : GoodIn wsL_full wsX4_full := goodIn_ca (goodIn_r _ [6, 7, 8, 9, 10, 11, 12, 13, 14, 15, 16, 17, 18, 19, 20, 21, 22, 23, 24, 25, 26, 27, 28, 29, 30, 31, 32, 33, 34, 35, 36, 37, 38, 39, 40, 41, 42, 43, 44, 45, 46, 47, 48, 49, 50, 51, 52, 53, 54, 55, 56, 57, 58, 59, 60, 61, 62, 63, 64, 65, 66, 67, 68] (by decide +kernel) (by decide +kernel)) (goodIn_sub (fun _ h => List.mem_cons_of_mem _ (List.mem_append_right _ h)) (by decide +kernel))
set_option maxRecDepth 20000 in
theorem gL_full_X4_full : GoodIn wsL_full (wsV RL 23 RX4 yX4_full wsX4_full) := goodIn_app (goodIn_of _ (by decide +kernel)) ggL_full_X4_full
theorem dL_full_0 : decode cL_full 0 = .ok (.aload_n 1, 1) := by decide +kernel
theorem dL_full_1 : decode cL_full 1 = .ok (.iconst 0, 1) := by decide +kernel
theorem dL_full_2 : decode cL_full 2 = .ok (.aload_n 0, 1) := by decide +kernel
theorem dL_full_3 : decode cL_full 3 = .ok (.invokevirtual 23, 3) := by decide +kernel
theorem dL_full_6 : decode cL_full 6 = .ok (.i2l, 1) := by decide +kernel
theorem dL_full_7 : decode cL_full 7 = .ok (.lastore, 1) := by decide +kernel
theorem dL_full_8 : decode cL_full 8 = .ok (.goto 6, 3) := by decide +kernel
theorem dL_full_11 : decode cL_full 11 = .ok (.astore_n 2, 1) := by decide +kernel
theorem dL_full_12 : decode cL_full 12 = .ok (.iconst 1, 1) := by decide +kernel
theorem dL_full_13 : decode cL_full 13 = .ok (.ireturn, 1) := by decide +kernel
theorem dL_full_14 : decode cL_full 14 = .ok (.iconst 0, 1) := by decide +kernel
theorem dL_full_15 : decode cL_full 15 = .ok (.ireturn, 1) := by decide +kernel
set_option maxRecDepth 20000 in
theorem ggL_increment_X4_increment : GoodIn wsL_increment wsX4_increment := goodIn_ca (goodIn_r _ [6, 7, 8, 9, 10, 11, 12, 13, 14, 15, 16, 17, 18, 19, 20, 21, 22, 23, 24, 25, 26, 27, 28, 29, 30, 31, 32, 33, 34, 35, 36, 37, 38, 39, 40, 41, 42, 43, 44, 45, 46, 47, 48, 49, 50, 51, 52, 53, 54, 55, 56, 57, 58, 59, 60, 61, 62, 63, 64, 65, 66, 67, 68, 69, 70, 71, 72, 73, 74, 75, 76, 77, 78, 79, 80, 81, 82] (by decide +kernel) (by decide +kernel)) (goodIn_sub (fun _ h => List.mem_cons_of_mem _ (List.mem_append_right _ h)) (by decide +kernel))
set_option maxRecDepth 20000 in
theorem gL_increment_X4_increment : GoodIn wsL_increment (wsV RL 27 RX4 yX4_increment wsX4_increment) := goodIn_app (goodIn_of _ (by decide +kernel)) ggL_increment_X4_increment
theorem dL_increment_0 : decode cL_increment 0 = .ok (.aload_n 1, 1) := by decide +kernel
theorem dL_increment_1 : decode cL_increment 1 = .ok (.iconst 0, 1) := by decide +kernel
theorem dL_increment_2 : decode cL_increment 2 = .ok (.aload_n 0, 1) := by decide +kernel
theorem dL_increment_3 : decode cL_increment 3 = .ok (.invokevirtual 27, 3) := by decide +kernel
theorem dL_increment_6 : decode cL_increment 6 = .ok (.i2l, 1) := by decide +kernel
theorem dL_increment_7 : decode cL_increment 7 = .ok (.lastore, 1) := by decide +kernel
theorem dL_increment_8 : decode cL_increment 8 = .ok (.goto 6, 3) := by decide +kernel
theorem dL_increment_11 : decode cL_increment 11 = .ok (.astore_n 2, 1) := by decide +kernel
theorem dL_increment_12 : decode cL_increment 12 = .ok (.iconst 1, 1) := by decide +kernel
theorem dL_increment_13 : decode cL_increment 13 = .ok (.ireturn, 1) := by decide +kernel
theorem dL_increment_14 : decode cL_increment 14 = .ok (.iconst 0, 1) := by decide +kernel
theorem dL_increment_15 : decode cL_increment 15 = .ok (.ireturn, 1) := by decide +kernel
set_option maxRecDepth 20000 in
theorem ggL_damage_X4_damage : GoodIn wsL_damage wsX4_damage := goodIn_ca (goodIn_r _ [6, 7, 8, 9, 10, 5, 11, 12, 13, 14, 15, 16, 17, 18, 19, 20, 21, 22, 23, 24, 25, 26, 27, 28, 29, 30, 31, 32, 33, 34, 35, 36, 37, 38, 39, 40, 41, 42, 43, 44, 45, 46, 47, 48, 49, 50, 51, 52, 53, 54, 55, 56, 57, 58, 59, 60, 61, 62, 63, 64, 65, 66, 67, 68, 69, 70, 71] (by decide +kernel) (by decide +kernel)) (goodIn_sub (fun _ h => List.mem_cons_of_mem _ (List.mem_append_right _ h)) (by decide +kernel))
set_option maxRecDepth 20000 in
theorem gL_damage_X4_damage : GoodIn wsL_damage (wsV RL 30 RX4 yX4_damage wsX4_damage) := goodIn_app (goodIn_of _ (by decide +kernel)) ggL_damage_X4_damage
theorem dL_damage_0 : decode cL_damage 0 = .ok (.aload_n 2, 1) := by decide +kernel
theorem dL_damage_1 : decode cL_damage 1 = .ok (.iconst 0, 1) := by decide +kernel
theorem dL_damage_2 : decode cL_damage 2 = .ok (.aload_n 0, 1) := by decide +kernel
theorem dL_damage_3 : decode cL_damage 3 = .ok (.iload_n 1, 1) := by decide +kernel
theorem dL_damage_4 : decode cL_damage 4 = .ok (.invokevirtual 30, 3) := by decide +kernel
theorem dL_damage_7 : decode cL_damage 7 = .ok (.i2l, 1) := by decide +kernel
theorem dL_damage_8 : decode cL_damage 8 = .ok (.lastore, 1) := by decide +kernel
theorem dL_damage_9 : decode cL_damage 9 = .ok (.goto 6, 3) := by decide +kernel
theorem dL_damage_12 : decode cL_damage 12 = .ok (.astore_n 3, 1) := by decide +kernel
theorem dL_damage_13 : decode cL_damage 13 = .ok (.iconst 1, 1) := by decide +kernel
theorem dL_damage_14 : decode cL_damage 14 = .ok (.ireturn, 1) := by decide +kernel
theorem dL_damage_15 : decode cL_damage 15 = .ok (.iconst 0, 1) := by decide +kernel
theorem dL_damage_16 : decode cL_damage 16 = .ok (.ireturn, 1) := by decide +kernel
set_option maxRecDepth 20000 in
theorem ggL_drill_X4_drill : GoodIn wsL_drill wsX4_drill := goodIn_ca (goodIn_r _ [6, 7, 8, 9, 5, 10, 11, 12, 13, 14, 15, 16, 17, 18, 19, 20, 21, 22, 23, 24, 25, 26, 27, 28, 29, 30, 31, 32, 33, 34, 35, 36, 37, 38, 39, 40, 41, 42, 43, 44, 45, 46, 47, 48, 49, 50, 51, 52, 53, 54, 55] (by decide +kernel) (by decide +kernel)) (goodIn_sub (fun _ h => List.mem_cons_of_mem _ (List.mem_append_right _ h)) (by decide +kernel))
set_option maxRecDepth 20000 in
theorem gL_drill_X4_drill : GoodIn wsL_drill (wsV RL 33 RX4 yX4_drill wsX4_drill) := goodIn_app (goodIn_of _ (by decide +kernel)) ggL_drill_X4_drill
theorem dL_drill_0 : decode cL_drill 0 = .ok (.aload_n 2, 1) := by decide +kernel
theorem dL_drill_1 : decode cL_drill 1 = .ok (.iconst 0, 1) := by decide +kernel
theorem dL_drill_2 : decode cL_drill 2 = .ok (.aload_n 0, 1) := by decide +kernel
theorem dL_drill_3 : decode cL_drill 3 = .ok (.iload_n 1, 1) := by decide +kernel
theorem dL_drill_4 : decode cL_drill 4 = .ok (.invokevirtual 33, 3) := by decide +kernel
theorem dL_drill_7 : decode cL_drill 7 = .ok (.i2l, 1) := by decide +kernel
theorem dL_drill_8 : decode cL_drill 8 = .ok (.lastore, 1) := by decide +kernel
theorem dL_drill_9 : decode cL_drill 9 = .ok (.goto 6, 3) := by decide +kernel
theorem dL_drill_12 : decode cL_drill 12 = .ok (.astore_n 3, 1) := by decide +kernel
theorem dL_drill_13 : decode cL_drill 13 = .ok (.iconst 1, 1) := by decide +kernel
theorem dL_drill_14 : decode cL_drill 14 = .ok (.ireturn, 1) := by decide +kernel
theorem dL_drill_15 : decode cL_drill 15 = .ok (.iconst 0, 1) := by decide +kernel
theorem dL_drill_16 : decode cL_drill 16 = .ok (.ireturn, 1) := by decide +kernel
set_option maxRecDepth 20000 in
theorem ggL_setRules_X4_setRules : GoodIn wsL_setRules wsX4_setRules := goodIn_ca (goodIn_r _ [6, 7, 8, 9, 10, 11, 12, 13, 14, 15, 16, 17, 18, 19, 20, 21, 22, 23, 24, 25, 26, 27, 28, 29, 30, 31, 32, 33, 34, 35, 36, 37, 38, 39, 40, 41, 42, 43, 44, 45, 46, 47, 48, 49, 50, 51, 52, 53, 54, 55, 56, 57, 58] (by decide +kernel) (by decide +kernel)) (goodIn_sub (fun _ h => List.mem_cons_of_mem _ (List.mem_append_right _ h)) (by decide +kernel))
set_option maxRecDepth 20000 in
theorem gL_setRules_X4_setRules : GoodIn wsL_setRules (wsV RL 36 RX4 yX4_setRules wsX4_setRules) := goodIn_app (goodIn_of _ (by decide +kernel)) ggL_setRules_X4_setRules
theorem dL_setRules_0 : decode cL_setRules 0 = .ok (.aload 4, 2) := by decide +kernel
theorem dL_setRules_2 : decode cL_setRules 2 = .ok (.iconst 0, 1) := by decide +kernel
theorem dL_setRules_3 : decode cL_setRules 3 = .ok (.aload_n 0, 1) := by decide +kernel
theorem dL_setRules_4 : decode cL_setRules 4 = .ok (.iload_n 1, 1) := by decide +kernel
theorem dL_setRules_5 : decode cL_setRules 5 = .ok (.iload_n 2, 1) := by decide +kernel
theorem dL_setRules_6 : decode cL_setRules 6 = .ok (.iload_n 3, 1) := by decide +kernel
theorem dL_setRules_7 : decode cL_setRules 7 = .ok (.invokevirtual 36, 3) := by decide +kernel
theorem dL_setRules_10 : decode cL_setRules 10 = .ok (.i2l, 1) := by decide +kernel
theorem dL_setRules_11 : decode cL_setRules 11 = .ok (.lastore, 1) := by decide +kernel
theorem dL_setRules_12 : decode cL_setRules 12 = .ok (.goto 7, 3) := by decide +kernel
theorem dL_setRules_15 : decode cL_setRules 15 = .ok (.astore 5, 2) := by decide +kernel
theorem dL_setRules_17 : decode cL_setRules 17 = .ok (.iconst 1, 1) := by decide +kernel
theorem dL_setRules_18 : decode cL_setRules 18 = .ok (.ireturn, 1) := by decide +kernel
theorem dL_setRules_19 : decode cL_setRules 19 = .ok (.iconst 0, 1) := by decide +kernel
theorem dL_setRules_20 : decode cL_setRules 20 = .ok (.ireturn, 1) := by decide +kernel
set_option maxRecDepth 20000 in
theorem ggL_dayOf_X4_dayOf : GoodIn wsL_dayOf wsX4_dayOf := goodIn_ca (goodIn_r _ [6, 7, 8, 9, 5, 10, 11, 12, 13, 14, 15, 16, 17, 18, 19, 20, 21, 22, 23, 24, 25, 26, 27, 28, 29, 30, 31, 32, 33, 34, 35, 36, 37, 38, 39] (by decide +kernel) (by decide +kernel)) (goodIn_sub (fun _ h => List.mem_cons_of_mem _ (List.mem_append_right _ h)) (by decide +kernel))
set_option maxRecDepth 20000 in
theorem gL_dayOf_X4_dayOf : GoodIn wsL_dayOf (wsV RL 40 RX4 yX4_dayOf wsX4_dayOf) := goodIn_app (goodIn_of _ (by decide +kernel)) ggL_dayOf_X4_dayOf
theorem dL_dayOf_0 : decode cL_dayOf 0 = .ok (.aload_n 2, 1) := by decide +kernel
theorem dL_dayOf_1 : decode cL_dayOf 1 = .ok (.iconst 0, 1) := by decide +kernel
theorem dL_dayOf_2 : decode cL_dayOf 2 = .ok (.aload_n 0, 1) := by decide +kernel
theorem dL_dayOf_3 : decode cL_dayOf 3 = .ok (.iload_n 1, 1) := by decide +kernel
theorem dL_dayOf_4 : decode cL_dayOf 4 = .ok (.invokevirtual 40, 3) := by decide +kernel
theorem dL_dayOf_7 : decode cL_dayOf 7 = .ok (.i2l, 1) := by decide +kernel
theorem dL_dayOf_8 : decode cL_dayOf 8 = .ok (.lastore, 1) := by decide +kernel
theorem dL_dayOf_9 : decode cL_dayOf 9 = .ok (.goto 6, 3) := by decide +kernel
theorem dL_dayOf_12 : decode cL_dayOf 12 = .ok (.astore_n 3, 1) := by decide +kernel
theorem dL_dayOf_13 : decode cL_dayOf 13 = .ok (.iconst 1, 1) := by decide +kernel
theorem dL_dayOf_14 : decode cL_dayOf 14 = .ok (.ireturn, 1) := by decide +kernel
theorem dL_dayOf_15 : decode cL_dayOf 15 = .ok (.iconst 0, 1) := by decide +kernel
theorem dL_dayOf_16 : decode cL_dayOf 16 = .ok (.ireturn, 1) := by decide +kernel
set_option maxRecDepth 20000 in
theorem ggL_baseOf_X4_baseOf : GoodIn wsL_baseOf wsX4_baseOf := goodIn_ca (goodIn_r _ [6, 7, 8, 9, 5, 10, 11, 12, 13, 14, 15, 16, 17, 18, 19, 20, 21, 22, 23, 24, 25, 26, 27, 28, 29, 30, 31, 32, 33, 34, 35, 36, 37, 38, 39] (by decide +kernel) (by decide +kernel)) (goodIn_sub (fun _ h => List.mem_cons_of_mem _ (List.mem_append_right _ h)) (by decide +kernel))
set_option maxRecDepth 20000 in
theorem gL_baseOf_X4_baseOf : GoodIn wsL_baseOf (wsV RL 43 RX4 yX4_baseOf wsX4_baseOf) := goodIn_app (goodIn_of _ (by decide +kernel)) ggL_baseOf_X4_baseOf
theorem dL_baseOf_0 : decode cL_baseOf 0 = .ok (.aload_n 2, 1) := by decide +kernel
theorem dL_baseOf_1 : decode cL_baseOf 1 = .ok (.iconst 0, 1) := by decide +kernel
theorem dL_baseOf_2 : decode cL_baseOf 2 = .ok (.aload_n 0, 1) := by decide +kernel
theorem dL_baseOf_3 : decode cL_baseOf 3 = .ok (.iload_n 1, 1) := by decide +kernel
theorem dL_baseOf_4 : decode cL_baseOf 4 = .ok (.invokevirtual 43, 3) := by decide +kernel
theorem dL_baseOf_7 : decode cL_baseOf 7 = .ok (.i2l, 1) := by decide +kernel
theorem dL_baseOf_8 : decode cL_baseOf 8 = .ok (.lastore, 1) := by decide +kernel
theorem dL_baseOf_9 : decode cL_baseOf 9 = .ok (.goto 6, 3) := by decide +kernel
theorem dL_baseOf_12 : decode cL_baseOf 12 = .ok (.astore_n 3, 1) := by decide +kernel
theorem dL_baseOf_13 : decode cL_baseOf 13 = .ok (.iconst 1, 1) := by decide +kernel
theorem dL_baseOf_14 : decode cL_baseOf 14 = .ok (.ireturn, 1) := by decide +kernel
theorem dL_baseOf_15 : decode cL_baseOf 15 = .ok (.iconst 0, 1) := by decide +kernel
theorem dL_baseOf_16 : decode cL_baseOf 16 = .ok (.ireturn, 1) := by decide +kernel
set_option maxRecDepth 20000 in
theorem ggL_keeps_X4_keeps : GoodIn wsL_keeps wsX4_keeps := goodIn_ca (goodIn_r _ [6, 7, 8, 9, 5, 10, 11, 12, 13, 14, 15, 16, 17, 18, 19, 20, 21, 22, 23, 24, 25, 26, 27, 28, 29, 30, 31, 32, 33, 34, 35, 36, 37, 38, 39] (by decide +kernel) (by decide +kernel)) (goodIn_sub (fun _ h => List.mem_cons_of_mem _ (List.mem_append_right _ h)) (by decide +kernel))
set_option maxRecDepth 20000 in
theorem gL_keeps_X4_keeps : GoodIn wsL_keeps (wsV RL 46 RX4 yX4_keeps wsX4_keeps) := goodIn_app (goodIn_of _ (by decide +kernel)) ggL_keeps_X4_keeps
theorem dL_keeps_0 : decode cL_keeps 0 = .ok (.aload_n 2, 1) := by decide +kernel
theorem dL_keeps_1 : decode cL_keeps 1 = .ok (.iconst 0, 1) := by decide +kernel
theorem dL_keeps_2 : decode cL_keeps 2 = .ok (.aload_n 0, 1) := by decide +kernel
theorem dL_keeps_3 : decode cL_keeps 3 = .ok (.iload_n 1, 1) := by decide +kernel
theorem dL_keeps_4 : decode cL_keeps 4 = .ok (.invokevirtual 46, 3) := by decide +kernel
theorem dL_keeps_7 : decode cL_keeps 7 = .ok (.i2l, 1) := by decide +kernel
theorem dL_keeps_8 : decode cL_keeps 8 = .ok (.lastore, 1) := by decide +kernel
theorem dL_keeps_9 : decode cL_keeps 9 = .ok (.goto 6, 3) := by decide +kernel
theorem dL_keeps_12 : decode cL_keeps 12 = .ok (.astore_n 3, 1) := by decide +kernel
theorem dL_keeps_13 : decode cL_keeps 13 = .ok (.iconst 1, 1) := by decide +kernel
theorem dL_keeps_14 : decode cL_keeps 14 = .ok (.ireturn, 1) := by decide +kernel
theorem dL_keeps_15 : decode cL_keeps 15 = .ok (.iconst 0, 1) := by decide +kernel
theorem dL_keeps_16 : decode cL_keeps 16 = .ok (.ireturn, 1) := by decide +kernel
set_option maxRecDepth 20000 in
theorem ggL_isPromised_X4_isPromised : GoodIn wsL_isPromised wsX4_isPromised := goodIn_ca (goodIn_r _ [6, 7, 8, 9, 10, 5, 11, 12, 13, 14, 15, 16, 17, 18, 19, 20, 21, 22, 23, 24, 25, 26, 27, 28, 29, 30, 31, 32, 33, 34, 35, 36, 37, 38, 39, 40, 41, 42, 43, 44, 45, 46, 47, 48, 49, 50, 51, 52, 53, 54, 55, 56, 57, 58, 59, 60, 61, 62] (by decide +kernel) (by decide +kernel)) (goodIn_sub (fun _ h => List.mem_cons_of_mem _ (List.mem_append_right _ h)) (by decide +kernel))
set_option maxRecDepth 20000 in
theorem gL_isPromised_X4_isPromised : GoodIn wsL_isPromised (wsV RL 49 RX4 yX4_isPromised wsX4_isPromised) := goodIn_app (goodIn_of _ (by decide +kernel)) ggL_isPromised_X4_isPromised
theorem dL_isPromised_0 : decode cL_isPromised 0 = .ok (.aload_n 2, 1) := by decide +kernel
theorem dL_isPromised_1 : decode cL_isPromised 1 = .ok (.iconst 0, 1) := by decide +kernel
theorem dL_isPromised_2 : decode cL_isPromised 2 = .ok (.aload_n 0, 1) := by decide +kernel
theorem dL_isPromised_3 : decode cL_isPromised 3 = .ok (.iload_n 1, 1) := by decide +kernel
theorem dL_isPromised_4 : decode cL_isPromised 4 = .ok (.invokevirtual 49, 3) := by decide +kernel
theorem dL_isPromised_7 : decode cL_isPromised 7 = .ok (.ifCond .eq 7, 3) := by decide +kernel
theorem dL_isPromised_10 : decode cL_isPromised 10 = .ok (.lconst 1, 1) := by decide +kernel
theorem dL_isPromised_11 : decode cL_isPromised 11 = .ok (.goto 4, 3) := by decide +kernel
theorem dL_isPromised_14 : decode cL_isPromised 14 = .ok (.lconst 0, 1) := by decide +kernel
theorem dL_isPromised_15 : decode cL_isPromised 15 = .ok (.lastore, 1) := by decide +kernel
theorem dL_isPromised_16 : decode cL_isPromised 16 = .ok (.goto 6, 3) := by decide +kernel
theorem dL_isPromised_19 : decode cL_isPromised 19 = .ok (.astore_n 3, 1) := by decide +kernel
theorem dL_isPromised_20 : decode cL_isPromised 20 = .ok (.iconst 1, 1) := by decide +kernel
theorem dL_isPromised_21 : decode cL_isPromised 21 = .ok (.ireturn, 1) := by decide +kernel
theorem dL_isPromised_22 : decode cL_isPromised 22 = .ok (.iconst 0, 1) := by decide +kernel
theorem dL_isPromised_23 : decode cL_isPromised 23 = .ok (.ireturn, 1) := by decide +kernel
set_option maxRecDepth 20000 in
theorem ggL_isNeeded_X4_isNeeded : GoodIn wsL_isNeeded wsX4_isNeeded := goodIn_ca (goodIn_r _ [6, 7, 8, 9, 10, 5, 11, 12, 13, 14, 15, 16, 17, 18, 19, 20, 21, 22, 23, 24, 25, 26, 27, 28, 29, 30, 31, 32, 33, 34, 35, 36, 37, 38, 39, 40, 41, 42, 43, 44, 45, 46, 47, 48, 49, 50, 51, 52, 53, 54, 55, 56, 57, 58, 59, 60, 61, 62] (by decide +kernel) (by decide +kernel)) (goodIn_sub (fun _ h => List.mem_cons_of_mem _ (List.mem_append_right _ h)) (by decide +kernel))
set_option maxRecDepth 20000 in
theorem gL_isNeeded_X4_isNeeded : GoodIn wsL_isNeeded (wsV RL 53 RX4 yX4_isNeeded wsX4_isNeeded) := goodIn_app (goodIn_of _ (by decide +kernel)) ggL_isNeeded_X4_isNeeded
theorem dL_isNeeded_0 : decode cL_isNeeded 0 = .ok (.aload_n 2, 1) := by decide +kernel
theorem dL_isNeeded_1 : decode cL_isNeeded 1 = .ok (.iconst 0, 1) := by decide +kernel
theorem dL_isNeeded_2 : decode cL_isNeeded 2 = .ok (.aload_n 0, 1) := by decide +kernel
theorem dL_isNeeded_3 : decode cL_isNeeded 3 = .ok (.iload_n 1, 1) := by decide +kernel
theorem dL_isNeeded_4 : decode cL_isNeeded 4 = .ok (.invokevirtual 53, 3) := by decide +kernel
theorem dL_isNeeded_7 : decode cL_isNeeded 7 = .ok (.ifCond .eq 7, 3) := by decide +kernel
theorem dL_isNeeded_10 : decode cL_isNeeded 10 = .ok (.lconst 1, 1) := by decide +kernel
theorem dL_isNeeded_11 : decode cL_isNeeded 11 = .ok (.goto 4, 3) := by decide +kernel
theorem dL_isNeeded_14 : decode cL_isNeeded 14 = .ok (.lconst 0, 1) := by decide +kernel
theorem dL_isNeeded_15 : decode cL_isNeeded 15 = .ok (.lastore, 1) := by decide +kernel
theorem dL_isNeeded_16 : decode cL_isNeeded 16 = .ok (.goto 6, 3) := by decide +kernel
theorem dL_isNeeded_19 : decode cL_isNeeded 19 = .ok (.astore_n 3, 1) := by decide +kernel
theorem dL_isNeeded_20 : decode cL_isNeeded 20 = .ok (.iconst 1, 1) := by decide +kernel
theorem dL_isNeeded_21 : decode cL_isNeeded 21 = .ok (.ireturn, 1) := by decide +kernel
theorem dL_isNeeded_22 : decode cL_isNeeded 22 = .ok (.iconst 0, 1) := by decide +kernel
theorem dL_isNeeded_23 : decode cL_isNeeded 23 = .ok (.ireturn, 1) := by decide +kernel
set_option maxRecDepth 20000 in
theorem ggL_isProved_X4_isProved : GoodIn wsL_isProved wsX4_isProved := goodIn_ca (goodIn_r _ [6, 7, 8, 9, 5, 10, 11, 12, 13, 14, 15, 16, 17, 18, 19, 20, 21, 22, 23, 24, 25, 26, 27, 28, 29, 30, 31, 32, 33, 34, 35, 36, 37, 38, 39] (by decide +kernel) (by decide +kernel)) (goodIn_sub (fun _ h => List.mem_cons_of_mem _ (List.mem_append_right _ h)) (by decide +kernel))
set_option maxRecDepth 20000 in
theorem gL_isProved_X4_isProved : GoodIn wsL_isProved (wsV RL 56 RX4 yX4_isProved wsX4_isProved) := goodIn_app (goodIn_of _ (by decide +kernel)) ggL_isProved_X4_isProved
theorem dL_isProved_0 : decode cL_isProved 0 = .ok (.aload_n 2, 1) := by decide +kernel
theorem dL_isProved_1 : decode cL_isProved 1 = .ok (.iconst 0, 1) := by decide +kernel
theorem dL_isProved_2 : decode cL_isProved 2 = .ok (.aload_n 0, 1) := by decide +kernel
theorem dL_isProved_3 : decode cL_isProved 3 = .ok (.iload_n 1, 1) := by decide +kernel
theorem dL_isProved_4 : decode cL_isProved 4 = .ok (.invokevirtual 56, 3) := by decide +kernel
theorem dL_isProved_7 : decode cL_isProved 7 = .ok (.ifCond .eq 7, 3) := by decide +kernel
theorem dL_isProved_10 : decode cL_isProved 10 = .ok (.lconst 1, 1) := by decide +kernel
theorem dL_isProved_11 : decode cL_isProved 11 = .ok (.goto 4, 3) := by decide +kernel
theorem dL_isProved_14 : decode cL_isProved 14 = .ok (.lconst 0, 1) := by decide +kernel
theorem dL_isProved_15 : decode cL_isProved 15 = .ok (.lastore, 1) := by decide +kernel
theorem dL_isProved_16 : decode cL_isProved 16 = .ok (.goto 6, 3) := by decide +kernel
theorem dL_isProved_19 : decode cL_isProved 19 = .ok (.astore_n 3, 1) := by decide +kernel
theorem dL_isProved_20 : decode cL_isProved 20 = .ok (.iconst 1, 1) := by decide +kernel
theorem dL_isProved_21 : decode cL_isProved 21 = .ok (.ireturn, 1) := by decide +kernel
theorem dL_isProved_22 : decode cL_isProved 22 = .ok (.iconst 0, 1) := by decide +kernel
theorem dL_isProved_23 : decode cL_isProved 23 = .ok (.ireturn, 1) := by decide +kernel
set_option maxRecDepth 20000 in
theorem ggL_restore_X4_restore : GoodIn wsL_restore wsX4_restore := goodIn_ca (goodIn_r _ [6, 7, 8, 9, 5, 10, 11, 12, 13, 14, 15, 16, 17, 18, 19, 20, 21, 22, 23, 24, 25, 26, 27, 28, 29, 30, 31, 32, 33, 34, 35, 36, 37, 38, 39, 40, 41, 42, 43, 44, 45, 46, 47, 48, 49] (by decide +kernel) (by decide +kernel)) (goodIn_sub (fun _ h => List.mem_cons_of_mem _ (List.mem_append_right _ h)) (by decide +kernel))
set_option maxRecDepth 20000 in
theorem gL_restore_X4_restore : GoodIn wsL_restore (wsV RL 59 RX4 yX4_restore wsX4_restore) := goodIn_app (goodIn_of _ (by decide +kernel)) ggL_restore_X4_restore
theorem dL_restore_0 : decode cL_restore 0 = .ok (.aload_n 3, 1) := by decide +kernel
theorem dL_restore_1 : decode cL_restore 1 = .ok (.iconst 0, 1) := by decide +kernel
theorem dL_restore_2 : decode cL_restore 2 = .ok (.aload_n 0, 1) := by decide +kernel
theorem dL_restore_3 : decode cL_restore 3 = .ok (.iload_n 1, 1) := by decide +kernel
theorem dL_restore_4 : decode cL_restore 4 = .ok (.iload_n 2, 1) := by decide +kernel
theorem dL_restore_5 : decode cL_restore 5 = .ok (.invokevirtual 59, 3) := by decide +kernel
theorem dL_restore_8 : decode cL_restore 8 = .ok (.i2l, 1) := by decide +kernel
theorem dL_restore_9 : decode cL_restore 9 = .ok (.lastore, 1) := by decide +kernel
theorem dL_restore_10 : decode cL_restore 10 = .ok (.goto 7, 3) := by decide +kernel
theorem dL_restore_13 : decode cL_restore 13 = .ok (.astore 4, 2) := by decide +kernel
theorem dL_restore_15 : decode cL_restore 15 = .ok (.iconst 1, 1) := by decide +kernel
theorem dL_restore_16 : decode cL_restore 16 = .ok (.ireturn, 1) := by decide +kernel
theorem dL_restore_17 : decode cL_restore 17 = .ok (.iconst 0, 1) := by decide +kernel
theorem dL_restore_18 : decode cL_restore 18 = .ok (.ireturn, 1) := by decide +kernel
set_option maxRecDepth 20000 in
theorem ggL_restoreByChanges_X4_restoreByChanges : GoodIn wsL_restoreByChanges wsX4_restoreByChanges := goodIn_ca (goodIn_r _ [6, 7, 8, 9, 10, 5, 11, 12, 13, 14, 15, 16, 17, 18, 19, 20, 21, 22, 23, 24, 25, 26, 27, 28, 29, 30, 31, 32, 33, 34, 35, 36, 37, 38, 39, 40, 41, 42, 43, 44, 45, 46, 47, 48, 49, 50, 51, 52, 53, 54] (by decide +kernel) (by decide +kernel)) (goodIn_sub (fun _ h => List.mem_cons_of_mem _ (List.mem_append_right _ h)) (by decide +kernel))
set_option maxRecDepth 20000 in
theorem gL_restoreByChanges_X4_restoreByChanges : GoodIn wsL_restoreByChanges (wsV RL 62 RX4 yX4_restoreByChanges wsX4_restoreByChanges) := goodIn_app (goodIn_of _ (by decide +kernel)) ggL_restoreByChanges_X4_restoreByChanges
theorem dL_restoreByChanges_0 : decode cL_restoreByChanges 0 = .ok (.aload_n 3, 1) := by decide +kernel
theorem dL_restoreByChanges_1 : decode cL_restoreByChanges 1 = .ok (.iconst 0, 1) := by decide +kernel
theorem dL_restoreByChanges_2 : decode cL_restoreByChanges 2 = .ok (.aload_n 0, 1) := by decide +kernel
theorem dL_restoreByChanges_3 : decode cL_restoreByChanges 3 = .ok (.iload_n 1, 1) := by decide +kernel
theorem dL_restoreByChanges_4 : decode cL_restoreByChanges 4 = .ok (.iload_n 2, 1) := by decide +kernel
theorem dL_restoreByChanges_5 : decode cL_restoreByChanges 5 = .ok (.invokevirtual 62, 3) := by decide +kernel
theorem dL_restoreByChanges_8 : decode cL_restoreByChanges 8 = .ok (.i2l, 1) := by decide +kernel
theorem dL_restoreByChanges_9 : decode cL_restoreByChanges 9 = .ok (.lastore, 1) := by decide +kernel
theorem dL_restoreByChanges_10 : decode cL_restoreByChanges 10 = .ok (.goto 7, 3) := by decide +kernel
theorem dL_restoreByChanges_13 : decode cL_restoreByChanges 13 = .ok (.astore 4, 2) := by decide +kernel
theorem dL_restoreByChanges_15 : decode cL_restoreByChanges 15 = .ok (.iconst 1, 1) := by decide +kernel
theorem dL_restoreByChanges_16 : decode cL_restoreByChanges 16 = .ok (.ireturn, 1) := by decide +kernel
theorem dL_restoreByChanges_17 : decode cL_restoreByChanges 17 = .ok (.iconst 0, 1) := by decide +kernel
theorem dL_restoreByChanges_18 : decode cL_restoreByChanges 18 = .ok (.ireturn, 1) := by decide +kernel
set_option maxRecDepth 20000 in
theorem ggL_onCall_X4_onCall : GoodIn wsL_onCall wsX4_onCall := goodIn_ca (goodIn_r _ [6, 7, 8, 9, 10, 11, 12, 13, 14, 15, 16, 17, 18, 19, 20] (by decide +kernel) (by decide +kernel)) (goodIn_sub (fun _ h => List.mem_cons_of_mem _ (List.mem_append_right _ h)) (by decide +kernel))
set_option maxRecDepth 20000 in
theorem gL_onCall_X4_onCall : GoodIn wsL_onCall (wsV RL 65 RX4 yX4_onCall wsX4_onCall) := goodIn_app (goodIn_of _ (by decide +kernel)) ggL_onCall_X4_onCall
theorem dL_onCall_0 : decode cL_onCall 0 = .ok (.aload_n 2, 1) := by decide +kernel
theorem dL_onCall_1 : decode cL_onCall 1 = .ok (.iconst 0, 1) := by decide +kernel
theorem dL_onCall_2 : decode cL_onCall 2 = .ok (.aload_n 0, 1) := by decide +kernel
theorem dL_onCall_3 : decode cL_onCall 3 = .ok (.iload_n 1, 1) := by decide +kernel
theorem dL_onCall_4 : decode cL_onCall 4 = .ok (.invokevirtual 65, 3) := by decide +kernel
theorem dL_onCall_7 : decode cL_onCall 7 = .ok (.i2l, 1) := by decide +kernel
theorem dL_onCall_8 : decode cL_onCall 8 = .ok (.lastore, 1) := by decide +kernel
theorem dL_onCall_9 : decode cL_onCall 9 = .ok (.goto 6, 3) := by decide +kernel
theorem dL_onCall_12 : decode cL_onCall 12 = .ok (.astore_n 3, 1) := by decide +kernel
theorem dL_onCall_13 : decode cL_onCall 13 = .ok (.iconst 1, 1) := by decide +kernel
theorem dL_onCall_14 : decode cL_onCall 14 = .ok (.ireturn, 1) := by decide +kernel
theorem dL_onCall_15 : decode cL_onCall 15 = .ok (.iconst 0, 1) := by decide +kernel
theorem dL_onCall_16 : decode cL_onCall 16 = .ok (.ireturn, 1) := by decide +kernel
set_option maxRecDepth 20000 in
theorem ggL_swap_X4_swap : GoodIn wsL_swap wsX4_swap := goodIn_ca (goodIn_ca (goodIn_r _ [7, 8, 9, 10, 11, 12, 13, 14, 15, 6, 16, 17, 18, 19, 20, 21, 22, 23, 24, 25, 26, 27, 28, 29, 30, 31, 32, 33, 34, 35, 36, 37, 38, 39, 40, 41] (by decide +kernel) (by decide +kernel)) (goodIn_sub (fun _ h => List.mem_cons_of_mem _ (List.mem_append_left _ (List.mem_append_right _ h))) (by decide +kernel))) (goodIn_sub (fun _ h => List.mem_cons_of_mem _ (List.mem_append_right _ h)) (by decide +kernel))
set_option maxRecDepth 20000 in
theorem gL_swap_X4_swap : GoodIn wsL_swap (wsV RL 68 RX4 yX4_swap wsX4_swap) := goodIn_app (goodIn_of _ (by decide +kernel)) ggL_swap_X4_swap
theorem dL_swap_0 : decode cL_swap 0 = .ok (.aload_n 3, 1) := by decide +kernel
theorem dL_swap_1 : decode cL_swap 1 = .ok (.iconst 0, 1) := by decide +kernel
theorem dL_swap_2 : decode cL_swap 2 = .ok (.aload_n 0, 1) := by decide +kernel
theorem dL_swap_3 : decode cL_swap 3 = .ok (.iload_n 1, 1) := by decide +kernel
theorem dL_swap_4 : decode cL_swap 4 = .ok (.iload_n 2, 1) := by decide +kernel
theorem dL_swap_5 : decode cL_swap 5 = .ok (.invokevirtual 68, 3) := by decide +kernel
theorem dL_swap_8 : decode cL_swap 8 = .ok (.i2l, 1) := by decide +kernel
theorem dL_swap_9 : decode cL_swap 9 = .ok (.lastore, 1) := by decide +kernel
theorem dL_swap_10 : decode cL_swap 10 = .ok (.goto 11, 3) := by decide +kernel
theorem dL_swap_13 : decode cL_swap 13 = .ok (.astore 4, 2) := by decide +kernel
theorem dL_swap_15 : decode cL_swap 15 = .ok (.iconst 1, 1) := by decide +kernel
theorem dL_swap_16 : decode cL_swap 16 = .ok (.ireturn, 1) := by decide +kernel
theorem dL_swap_17 : decode cL_swap 17 = .ok (.astore 4, 2) := by decide +kernel
theorem dL_swap_19 : decode cL_swap 19 = .ok (.iconst 2, 1) := by decide +kernel
theorem dL_swap_20 : decode cL_swap 20 = .ok (.ireturn, 1) := by decide +kernel
theorem dL_swap_21 : decode cL_swap 21 = .ok (.iconst 0, 1) := by decide +kernel
theorem dL_swap_22 : decode cL_swap 22 = .ok (.ireturn, 1) := by decide +kernel
set_option maxRecDepth 20000 in
theorem ggL_alarm_X4_alarm : GoodIn wsL_alarm wsX4_alarm := goodIn_ca (goodIn_r _ [6, 7, 8, 9, 10, 11, 12, 13, 14, 15, 16, 17, 18, 19, 20, 21, 22, 23, 24, 25] (by decide +kernel) (by decide +kernel)) (goodIn_sub (fun _ h => List.mem_cons_of_mem _ (List.mem_append_right _ h)) (by decide +kernel))
set_option maxRecDepth 20000 in
theorem gL_alarm_X4_alarm : GoodIn wsL_alarm (wsV RL 71 RX4 yX4_alarm wsX4_alarm) := goodIn_app (goodIn_of _ (by decide +kernel)) ggL_alarm_X4_alarm
theorem dL_alarm_0 : decode cL_alarm 0 = .ok (.aload_n 2, 1) := by decide +kernel
theorem dL_alarm_1 : decode cL_alarm 1 = .ok (.iconst 0, 1) := by decide +kernel
theorem dL_alarm_2 : decode cL_alarm 2 = .ok (.aload_n 0, 1) := by decide +kernel
theorem dL_alarm_3 : decode cL_alarm 3 = .ok (.iload_n 1, 1) := by decide +kernel
theorem dL_alarm_4 : decode cL_alarm 4 = .ok (.invokevirtual 71, 3) := by decide +kernel
theorem dL_alarm_7 : decode cL_alarm 7 = .ok (.i2l, 1) := by decide +kernel
theorem dL_alarm_8 : decode cL_alarm 8 = .ok (.lastore, 1) := by decide +kernel
theorem dL_alarm_9 : decode cL_alarm 9 = .ok (.goto 6, 3) := by decide +kernel
theorem dL_alarm_12 : decode cL_alarm 12 = .ok (.astore_n 3, 1) := by decide +kernel
theorem dL_alarm_13 : decode cL_alarm 13 = .ok (.iconst 1, 1) := by decide +kernel
theorem dL_alarm_14 : decode cL_alarm 14 = .ok (.ireturn, 1) := by decide +kernel
theorem dL_alarm_15 : decode cL_alarm 15 = .ok (.iconst 0, 1) := by decide +kernel
theorem dL_alarm_16 : decode cL_alarm 16 = .ok (.ireturn, 1) := by decide +kernel
theorem dL_law_0 : decode cL_law 0 = .ok (.new 8, 3) := by decide +kernel
theorem dL_law_3 : decode cL_law 3 = .ok (.dup, 1) := by decide +kernel
theorem dL_law_4 : decode cL_law 4 = .ok (.invokespecial 74, 3) := by decide +kernel
theorem dL_law_7 : decode cL_law 7 = .ok (.astore_n 1, 1) := by decide +kernel
theorem dL_law_8 : decode cL_law 8 = .ok (.new 75, 3) := by decide +kernel
theorem dL_law_11 : decode cL_law 11 = .ok (.dup, 1) := by decide +kernel
theorem dL_law_12 : decode cL_law 12 = .ok (.invokespecial 77, 3) := by decide +kernel
theorem dL_law_15 : decode cL_law 15 = .ok (.astore_n 2, 1) := by decide +kernel
theorem dL_law_16 : decode cL_law 16 = .ok (.iconst 1, 1) := by decide +kernel
theorem dL_law_17 : decode cL_law 17 = .ok (.newarray .long, 2) := by decide +kernel
theorem dL_law_19 : decode cL_law 19 = .ok (.astore_n 3, 1) := by decide +kernel
theorem dL_law_20 : decode cL_law 20 = .ok (.iconst 0, 1) := by decide +kernel
theorem dL_law_21 : decode cL_law 21 = .ok (.istore 4, 2) := by decide +kernel
theorem dL_law_23 : decode cL_law 23 = .ok (.iload 4, 2) := by decide +kernel
theorem dL_law_25 : decode cL_law 25 = .ok (.aload_n 0, 1) := by decide +kernel
theorem dL_law_26 : decode cL_law 26 = .ok (.arraylength, 1) := by decide +kernel
theorem dL_law_27 : decode cL_law 27 = .ok (.iconst 4, 1) := by decide +kernel
theorem dL_law_28 : decode cL_law 28 = .ok (.isub, 1) := by decide +kernel
theorem dL_law_29 : decode cL_law 29 = .ok (.if_icmp .gt 1246, 3) := by decide +kernel
theorem dL_law_32 : decode cL_law 32 = .ok (.aload_n 0, 1) := by decide +kernel
theorem dL_law_33 : decode cL_law 33 = .ok (.iload 4, 2) := by decide +kernel
theorem dL_law_35 : decode cL_law 35 = .ok (.iaload, 1) := by decide +kernel
theorem dL_law_36 : decode cL_law 36 = .ok (.bipush 31, 2) := by decide +kernel
theorem dL_law_38 : decode cL_law 38 = .ok (.iand, 1) := by decide +kernel
theorem dL_law_39 : decode cL_law 39 = .ok (.tableswitch 1230 0 21 #[101, 169, 225, 269, 313, 369, 425, 505, 518, 531, 544, 557, 613, 669, 725, 788, 851, 914, 982, 1050, 1106, 1174], 101) := by decide +kernel
theorem dL_law_140 : decode cL_law 140 = .ok (.aload_n 1, 1) := by decide +kernel
theorem dL_law_141 : decode cL_law 141 = .ok (.aload_n 0, 1) := by decide +kernel
theorem dL_law_142 : decode cL_law 142 = .ok (.iload 4, 2) := by decide +kernel
theorem dL_law_144 : decode cL_law 144 = .ok (.iconst 1, 1) := by decide +kernel
theorem dL_law_145 : decode cL_law 145 = .ok (.iadd, 1) := by decide +kernel
theorem dL_law_146 : decode cL_law 146 = .ok (.iaload, 1) := by decide +kernel
theorem dL_law_147 : decode cL_law 147 = .ok (.aload_n 0, 1) := by decide +kernel
theorem dL_law_148 : decode cL_law 148 = .ok (.iload 4, 2) := by decide +kernel
theorem dL_law_150 : decode cL_law 150 = .ok (.iconst 2, 1) := by decide +kernel
theorem dL_law_151 : decode cL_law 151 = .ok (.iadd, 1) := by decide +kernel
theorem dL_law_152 : decode cL_law 152 = .ok (.iaload, 1) := by decide +kernel
theorem dL_law_153 : decode cL_law 153 = .ok (.aload_n 3, 1) := by decide +kernel
theorem dL_law_154 : decode cL_law 154 = .ok (.invokestatic 78, 3) := by decide +kernel
theorem dL_law_157 : decode cL_law 157 = .ok (.istore 5, 2) := by decide +kernel
theorem dL_law_159 : decode cL_law 159 = .ok (.aload_n 2, 1) := by decide +kernel
theorem dL_law_160 : decode cL_law 160 = .ok (.aload_n 0, 1) := by decide +kernel
theorem dL_law_161 : decode cL_law 161 = .ok (.iload 4, 2) := by decide +kernel
theorem dL_law_163 : decode cL_law 163 = .ok (.iconst 1, 1) := by decide +kernel
theorem dL_law_164 : decode cL_law 164 = .ok (.iadd, 1) := by decide +kernel
theorem dL_law_165 : decode cL_law 165 = .ok (.iaload, 1) := by decide +kernel
theorem dL_law_166 : decode cL_law 166 = .ok (.aload_n 0, 1) := by decide +kernel
theorem dL_law_167 : decode cL_law 167 = .ok (.iload 4, 2) := by decide +kernel
theorem dL_law_169 : decode cL_law 169 = .ok (.iconst 2, 1) := by decide +kernel
theorem dL_law_170 : decode cL_law 170 = .ok (.iadd, 1) := by decide +kernel
theorem dL_law_171 : decode cL_law 171 = .ok (.iaload, 1) := by decide +kernel
theorem dL_law_172 : decode cL_law 172 = .ok (.invokevirtual 83, 3) := by decide +kernel
theorem dL_law_175 : decode cL_law 175 = .ok (.istore 6, 2) := by decide +kernel
theorem dL_law_177 : decode cL_law 177 = .ok (.aload_n 2, 1) := by decide +kernel
theorem dL_law_178 : decode cL_law 178 = .ok (.invokevirtual 84, 3) := by decide +kernel
theorem dL_law_181 : decode cL_law 181 = .ok (.iload 5, 2) := by decide +kernel
theorem dL_law_183 : decode cL_law 183 = .ok (.if_icmp .eq 5, 3) := by decide +kernel
theorem dL_law_186 : decode cL_law 186 = .ok (.iconst 0, 1) := by decide +kernel
theorem dL_law_187 : decode cL_law 187 = .ok (.ireturn, 1) := by decide +kernel
theorem dL_law_188 : decode cL_law 188 = .ok (.iload 5, 2) := by decide +kernel
theorem dL_law_190 : decode cL_law 190 = .ok (.ifCond .ne 15, 3) := by decide +kernel
theorem dL_law_193 : decode cL_law 193 = .ok (.aload_n 3, 1) := by decide +kernel
theorem dL_law_194 : decode cL_law 194 = .ok (.iconst 0, 1) := by decide +kernel
theorem dL_law_195 : decode cL_law 195 = .ok (.laload, 1) := by decide +kernel
theorem dL_law_196 : decode cL_law 196 = .ok (.iload 6, 2) := by decide +kernel
theorem dL_law_198 : decode cL_law 198 = .ok (.i2l, 1) := by decide +kernel
theorem dL_law_199 : decode cL_law 199 = .ok (.lcmp, 1) := by decide +kernel
theorem dL_law_200 : decode cL_law 200 = .ok (.ifCond .eq 5, 3) := by decide +kernel
theorem dL_law_203 : decode cL_law 203 = .ok (.iconst 0, 1) := by decide +kernel
theorem dL_law_204 : decode cL_law 204 = .ok (.ireturn, 1) := by decide +kernel
theorem dL_law_205 : decode cL_law 205 = .ok (.goto 1064, 3) := by decide +kernel
theorem dL_law_208 : decode cL_law 208 = .ok (.aload_n 1, 1) := by decide +kernel
theorem dL_law_209 : decode cL_law 209 = .ok (.aload_n 0, 1) := by decide +kernel
theorem dL_law_210 : decode cL_law 210 = .ok (.iload 4, 2) := by decide +kernel
theorem dL_law_212 : decode cL_law 212 = .ok (.iconst 1, 1) := by decide +kernel
theorem dL_law_213 : decode cL_law 213 = .ok (.iadd, 1) := by decide +kernel
theorem dL_law_214 : decode cL_law 214 = .ok (.iaload, 1) := by decide +kernel
theorem dL_law_215 : decode cL_law 215 = .ok (.aload_n 3, 1) := by decide +kernel
theorem dL_law_216 : decode cL_law 216 = .ok (.invokestatic 87, 3) := by decide +kernel
theorem dL_law_219 : decode cL_law 219 = .ok (.istore 5, 2) := by decide +kernel
theorem dL_law_221 : decode cL_law 221 = .ok (.aload_n 2, 1) := by decide +kernel
theorem dL_law_222 : decode cL_law 222 = .ok (.aload_n 0, 1) := by decide +kernel
theorem dL_law_223 : decode cL_law 223 = .ok (.iload 4, 2) := by decide +kernel
theorem dL_law_225 : decode cL_law 225 = .ok (.iconst 1, 1) := by decide +kernel
theorem dL_law_226 : decode cL_law 226 = .ok (.iadd, 1) := by decide +kernel
theorem dL_law_227 : decode cL_law 227 = .ok (.iaload, 1) := by decide +kernel
theorem dL_law_228 : decode cL_law 228 = .ok (.invokevirtual 90, 3) := by decide +kernel
theorem dL_law_231 : decode cL_law 231 = .ok (.istore 6, 2) := by decide +kernel
theorem dL_law_233 : decode cL_law 233 = .ok (.aload_n 2, 1) := by decide +kernel
theorem dL_law_234 : decode cL_law 234 = .ok (.invokevirtual 84, 3) := by decide +kernel
theorem dL_law_237 : decode cL_law 237 = .ok (.iload 5, 2) := by decide +kernel
theorem dL_law_239 : decode cL_law 239 = .ok (.if_icmp .eq 5, 3) := by decide +kernel
theorem dL_law_242 : decode cL_law 242 = .ok (.iconst 0, 1) := by decide +kernel
theorem dL_law_243 : decode cL_law 243 = .ok (.ireturn, 1) := by decide +kernel
theorem dL_law_244 : decode cL_law 244 = .ok (.iload 5, 2) := by decide +kernel
theorem dL_law_246 : decode cL_law 246 = .ok (.ifCond .ne 15, 3) := by decide +kernel
theorem dL_law_249 : decode cL_law 249 = .ok (.aload_n 3, 1) := by decide +kernel
theorem dL_law_250 : decode cL_law 250 = .ok (.iconst 0, 1) := by decide +kernel
theorem dL_law_251 : decode cL_law 251 = .ok (.laload, 1) := by decide +kernel
theorem dL_law_252 : decode cL_law 252 = .ok (.iload 6, 2) := by decide +kernel
theorem dL_law_254 : decode cL_law 254 = .ok (.i2l, 1) := by decide +kernel
theorem dL_law_255 : decode cL_law 255 = .ok (.lcmp, 1) := by decide +kernel
theorem dL_law_256 : decode cL_law 256 = .ok (.ifCond .eq 5, 3) := by decide +kernel
theorem dL_law_259 : decode cL_law 259 = .ok (.iconst 0, 1) := by decide +kernel
theorem dL_law_260 : decode cL_law 260 = .ok (.ireturn, 1) := by decide +kernel
theorem dL_law_261 : decode cL_law 261 = .ok (.goto 1008, 3) := by decide +kernel
theorem dL_law_264 : decode cL_law 264 = .ok (.aload_n 1, 1) := by decide +kernel
theorem dL_law_265 : decode cL_law 265 = .ok (.aload_n 3, 1) := by decide +kernel
theorem dL_law_266 : decode cL_law 266 = .ok (.invokestatic 91, 3) := by decide +kernel
theorem dL_law_269 : decode cL_law 269 = .ok (.istore 5, 2) := by decide +kernel
theorem dL_law_271 : decode cL_law 271 = .ok (.aload_n 2, 1) := by decide +kernel
theorem dL_law_272 : decode cL_law 272 = .ok (.invokevirtual 94, 3) := by decide +kernel
theorem dL_law_275 : decode cL_law 275 = .ok (.istore 6, 2) := by decide +kernel
theorem dL_law_277 : decode cL_law 277 = .ok (.aload_n 2, 1) := by decide +kernel
theorem dL_law_278 : decode cL_law 278 = .ok (.invokevirtual 84, 3) := by decide +kernel
theorem dL_law_281 : decode cL_law 281 = .ok (.iload 5, 2) := by decide +kernel
theorem dL_law_283 : decode cL_law 283 = .ok (.if_icmp .eq 5, 3) := by decide +kernel
theorem dL_law_286 : decode cL_law 286 = .ok (.iconst 0, 1) := by decide +kernel
theorem dL_law_287 : decode cL_law 287 = .ok (.ireturn, 1) := by decide +kernel
theorem dL_law_288 : decode cL_law 288 = .ok (.iload 5, 2) := by decide +kernel
theorem dL_law_290 : decode cL_law 290 = .ok (.ifCond .ne 15, 3) := by decide +kernel
theorem dL_law_293 : decode cL_law 293 = .ok (.aload_n 3, 1) := by decide +kernel
theorem dL_law_294 : decode cL_law 294 = .ok (.iconst 0, 1) := by decide +kernel
theorem dL_law_295 : decode cL_law 295 = .ok (.laload, 1) := by decide +kernel
theorem dL_law_296 : decode cL_law 296 = .ok (.iload 6, 2) := by decide +kernel
theorem dL_law_298 : decode cL_law 298 = .ok (.i2l, 1) := by decide +kernel
theorem dL_law_299 : decode cL_law 299 = .ok (.lcmp, 1) := by decide +kernel
theorem dL_law_300 : decode cL_law 300 = .ok (.ifCond .eq 5, 3) := by decide +kernel
theorem dL_law_303 : decode cL_law 303 = .ok (.iconst 0, 1) := by decide +kernel
theorem dL_law_304 : decode cL_law 304 = .ok (.ireturn, 1) := by decide +kernel
theorem dL_law_305 : decode cL_law 305 = .ok (.goto 964, 3) := by decide +kernel
theorem dL_law_308 : decode cL_law 308 = .ok (.aload_n 1, 1) := by decide +kernel
theorem dL_law_309 : decode cL_law 309 = .ok (.aload_n 3, 1) := by decide +kernel
theorem dL_law_310 : decode cL_law 310 = .ok (.invokestatic 95, 3) := by decide +kernel
theorem dL_law_313 : decode cL_law 313 = .ok (.istore 5, 2) := by decide +kernel
theorem dL_law_315 : decode cL_law 315 = .ok (.aload_n 2, 1) := by decide +kernel
theorem dL_law_316 : decode cL_law 316 = .ok (.invokevirtual 97, 3) := by decide +kernel
theorem dL_law_319 : decode cL_law 319 = .ok (.istore 6, 2) := by decide +kernel
theorem dL_law_321 : decode cL_law 321 = .ok (.aload_n 2, 1) := by decide +kernel
theorem dL_law_322 : decode cL_law 322 = .ok (.invokevirtual 84, 3) := by decide +kernel
theorem dL_law_325 : decode cL_law 325 = .ok (.iload 5, 2) := by decide +kernel
theorem dL_law_327 : decode cL_law 327 = .ok (.if_icmp .eq 5, 3) := by decide +kernel
theorem dL_law_330 : decode cL_law 330 = .ok (.iconst 0, 1) := by decide +kernel
theorem dL_law_331 : decode cL_law 331 = .ok (.ireturn, 1) := by decide +kernel
theorem dL_law_332 : decode cL_law 332 = .ok (.iload 5, 2) := by decide +kernel
theorem dL_law_334 : decode cL_law 334 = .ok (.ifCond .ne 15, 3) := by decide +kernel
theorem dL_law_337 : decode cL_law 337 = .ok (.aload_n 3, 1) := by decide +kernel
theorem dL_law_338 : decode cL_law 338 = .ok (.iconst 0, 1) := by decide +kernel
theorem dL_law_339 : decode cL_law 339 = .ok (.laload, 1) := by decide +kernel
theorem dL_law_340 : decode cL_law 340 = .ok (.iload 6, 2) := by decide +kernel
theorem dL_law_342 : decode cL_law 342 = .ok (.i2l, 1) := by decide +kernel
theorem dL_law_343 : decode cL_law 343 = .ok (.lcmp, 1) := by decide +kernel
theorem dL_law_344 : decode cL_law 344 = .ok (.ifCond .eq 5, 3) := by decide +kernel
theorem dL_law_347 : decode cL_law 347 = .ok (.iconst 0, 1) := by decide +kernel
theorem dL_law_348 : decode cL_law 348 = .ok (.ireturn, 1) := by decide +kernel
theorem dL_law_349 : decode cL_law 349 = .ok (.goto 920, 3) := by decide +kernel
theorem dL_law_352 : decode cL_law 352 = .ok (.aload_n 1, 1) := by decide +kernel
theorem dL_law_353 : decode cL_law 353 = .ok (.aload_n 0, 1) := by decide +kernel
theorem dL_law_354 : decode cL_law 354 = .ok (.iload 4, 2) := by decide +kernel
theorem dL_law_356 : decode cL_law 356 = .ok (.iconst 1, 1) := by decide +kernel
theorem dL_law_357 : decode cL_law 357 = .ok (.iadd, 1) := by decide +kernel
theorem dL_law_358 : decode cL_law 358 = .ok (.iaload, 1) := by decide +kernel
theorem dL_law_359 : decode cL_law 359 = .ok (.aload_n 3, 1) := by decide +kernel
theorem dL_law_360 : decode cL_law 360 = .ok (.invokestatic 98, 3) := by decide +kernel
theorem dL_law_363 : decode cL_law 363 = .ok (.istore 5, 2) := by decide +kernel
theorem dL_law_365 : decode cL_law 365 = .ok (.aload_n 2, 1) := by decide +kernel
theorem dL_law_366 : decode cL_law 366 = .ok (.aload_n 0, 1) := by decide +kernel
theorem dL_law_367 : decode cL_law 367 = .ok (.iload 4, 2) := by decide +kernel
theorem dL_law_369 : decode cL_law 369 = .ok (.iconst 1, 1) := by decide +kernel
theorem dL_law_370 : decode cL_law 370 = .ok (.iadd, 1) := by decide +kernel
theorem dL_law_371 : decode cL_law 371 = .ok (.iaload, 1) := by decide +kernel
theorem dL_law_372 : decode cL_law 372 = .ok (.invokevirtual 100, 3) := by decide +kernel
theorem dL_law_375 : decode cL_law 375 = .ok (.istore 6, 2) := by decide +kernel
theorem dL_law_377 : decode cL_law 377 = .ok (.aload_n 2, 1) := by decide +kernel
theorem dL_law_378 : decode cL_law 378 = .ok (.invokevirtual 84, 3) := by decide +kernel
theorem dL_law_381 : decode cL_law 381 = .ok (.iload 5, 2) := by decide +kernel
theorem dL_law_383 : decode cL_law 383 = .ok (.if_icmp .eq 5, 3) := by decide +kernel
theorem dL_law_386 : decode cL_law 386 = .ok (.iconst 0, 1) := by decide +kernel
theorem dL_law_387 : decode cL_law 387 = .ok (.ireturn, 1) := by decide +kernel
theorem dL_law_388 : decode cL_law 388 = .ok (.iload 5, 2) := by decide +kernel
theorem dL_law_390 : decode cL_law 390 = .ok (.ifCond .ne 15, 3) := by decide +kernel
theorem dL_law_393 : decode cL_law 393 = .ok (.aload_n 3, 1) := by decide +kernel
theorem dL_law_394 : decode cL_law 394 = .ok (.iconst 0, 1) := by decide +kernel
theorem dL_law_395 : decode cL_law 395 = .ok (.laload, 1) := by decide +kernel
theorem dL_law_396 : decode cL_law 396 = .ok (.iload 6, 2) := by decide +kernel
theorem dL_law_398 : decode cL_law 398 = .ok (.i2l, 1) := by decide +kernel
theorem dL_law_399 : decode cL_law 399 = .ok (.lcmp, 1) := by decide +kernel
theorem dL_law_400 : decode cL_law 400 = .ok (.ifCond .eq 5, 3) := by decide +kernel
theorem dL_law_403 : decode cL_law 403 = .ok (.iconst 0, 1) := by decide +kernel
theorem dL_law_404 : decode cL_law 404 = .ok (.ireturn, 1) := by decide +kernel
theorem dL_law_405 : decode cL_law 405 = .ok (.goto 864, 3) := by decide +kernel
theorem dL_law_408 : decode cL_law 408 = .ok (.aload_n 1, 1) := by decide +kernel
theorem dL_law_409 : decode cL_law 409 = .ok (.aload_n 0, 1) := by decide +kernel
theorem dL_law_410 : decode cL_law 410 = .ok (.iload 4, 2) := by decide +kernel
theorem dL_law_412 : decode cL_law 412 = .ok (.iconst 1, 1) := by decide +kernel
theorem dL_law_413 : decode cL_law 413 = .ok (.iadd, 1) := by decide +kernel
theorem dL_law_414 : decode cL_law 414 = .ok (.iaload, 1) := by decide +kernel
theorem dL_law_415 : decode cL_law 415 = .ok (.aload_n 3, 1) := by decide +kernel
theorem dL_law_416 : decode cL_law 416 = .ok (.invokestatic 101, 3) := by decide +kernel
theorem dL_law_419 : decode cL_law 419 = .ok (.istore 5, 2) := by decide +kernel
theorem dL_law_421 : decode cL_law 421 = .ok (.aload_n 2, 1) := by decide +kernel
theorem dL_law_422 : decode cL_law 422 = .ok (.aload_n 0, 1) := by decide +kernel
theorem dL_law_423 : decode cL_law 423 = .ok (.iload 4, 2) := by decide +kernel
theorem dL_law_425 : decode cL_law 425 = .ok (.iconst 1, 1) := by decide +kernel
theorem dL_law_426 : decode cL_law 426 = .ok (.iadd, 1) := by decide +kernel
theorem dL_law_427 : decode cL_law 427 = .ok (.iaload, 1) := by decide +kernel
theorem dL_law_428 : decode cL_law 428 = .ok (.invokevirtual 103, 3) := by decide +kernel
theorem dL_law_431 : decode cL_law 431 = .ok (.istore 6, 2) := by decide +kernel
theorem dL_law_433 : decode cL_law 433 = .ok (.aload_n 2, 1) := by decide +kernel
theorem dL_law_434 : decode cL_law 434 = .ok (.invokevirtual 84, 3) := by decide +kernel
theorem dL_law_437 : decode cL_law 437 = .ok (.iload 5, 2) := by decide +kernel
theorem dL_law_439 : decode cL_law 439 = .ok (.if_icmp .eq 5, 3) := by decide +kernel
theorem dL_law_442 : decode cL_law 442 = .ok (.iconst 0, 1) := by decide +kernel
theorem dL_law_443 : decode cL_law 443 = .ok (.ireturn, 1) := by decide +kernel
theorem dL_law_444 : decode cL_law 444 = .ok (.iload 5, 2) := by decide +kernel
theorem dL_law_446 : decode cL_law 446 = .ok (.ifCond .ne 15, 3) := by decide +kernel
theorem dL_law_449 : decode cL_law 449 = .ok (.aload_n 3, 1) := by decide +kernel
theorem dL_law_450 : decode cL_law 450 = .ok (.iconst 0, 1) := by decide +kernel
theorem dL_law_451 : decode cL_law 451 = .ok (.laload, 1) := by decide +kernel
theorem dL_law_452 : decode cL_law 452 = .ok (.iload 6, 2) := by decide +kernel
theorem dL_law_454 : decode cL_law 454 = .ok (.i2l, 1) := by decide +kernel
theorem dL_law_455 : decode cL_law 455 = .ok (.lcmp, 1) := by decide +kernel
theorem dL_law_456 : decode cL_law 456 = .ok (.ifCond .eq 5, 3) := by decide +kernel
theorem dL_law_459 : decode cL_law 459 = .ok (.iconst 0, 1) := by decide +kernel
theorem dL_law_460 : decode cL_law 460 = .ok (.ireturn, 1) := by decide +kernel
theorem dL_law_461 : decode cL_law 461 = .ok (.goto 808, 3) := by decide +kernel
theorem dL_law_464 : decode cL_law 464 = .ok (.aload_n 1, 1) := by decide +kernel
theorem dL_law_465 : decode cL_law 465 = .ok (.aload_n 0, 1) := by decide +kernel
theorem dL_law_466 : decode cL_law 466 = .ok (.iload 4, 2) := by decide +kernel
theorem dL_law_468 : decode cL_law 468 = .ok (.iconst 1, 1) := by decide +kernel
theorem dL_law_469 : decode cL_law 469 = .ok (.iadd, 1) := by decide +kernel
theorem dL_law_470 : decode cL_law 470 = .ok (.iaload, 1) := by decide +kernel
theorem dL_law_471 : decode cL_law 471 = .ok (.aload_n 0, 1) := by decide +kernel
theorem dL_law_472 : decode cL_law 472 = .ok (.iload 4, 2) := by decide +kernel
theorem dL_law_474 : decode cL_law 474 = .ok (.iconst 2, 1) := by decide +kernel
theorem dL_law_475 : decode cL_law 475 = .ok (.iadd, 1) := by decide +kernel
theorem dL_law_476 : decode cL_law 476 = .ok (.iaload, 1) := by decide +kernel
theorem dL_law_477 : decode cL_law 477 = .ok (.aload_n 0, 1) := by decide +kernel
theorem dL_law_478 : decode cL_law 478 = .ok (.iload 4, 2) := by decide +kernel
theorem dL_law_480 : decode cL_law 480 = .ok (.iconst 3, 1) := by decide +kernel
theorem dL_law_481 : decode cL_law 481 = .ok (.iadd, 1) := by decide +kernel
theorem dL_law_482 : decode cL_law 482 = .ok (.iaload, 1) := by decide +kernel
theorem dL_law_483 : decode cL_law 483 = .ok (.aload_n 3, 1) := by decide +kernel
theorem dL_law_484 : decode cL_law 484 = .ok (.invokestatic 104, 3) := by decide +kernel
theorem dL_law_487 : decode cL_law 487 = .ok (.istore 5, 2) := by decide +kernel
theorem dL_law_489 : decode cL_law 489 = .ok (.aload_n 2, 1) := by decide +kernel
theorem dL_law_490 : decode cL_law 490 = .ok (.aload_n 0, 1) := by decide +kernel
theorem dL_law_491 : decode cL_law 491 = .ok (.iload 4, 2) := by decide +kernel
theorem dL_law_493 : decode cL_law 493 = .ok (.iconst 1, 1) := by decide +kernel
theorem dL_law_494 : decode cL_law 494 = .ok (.iadd, 1) := by decide +kernel
theorem dL_law_495 : decode cL_law 495 = .ok (.iaload, 1) := by decide +kernel
theorem dL_law_496 : decode cL_law 496 = .ok (.aload_n 0, 1) := by decide +kernel
theorem dL_law_497 : decode cL_law 497 = .ok (.iload 4, 2) := by decide +kernel
theorem dL_law_499 : decode cL_law 499 = .ok (.iconst 2, 1) := by decide +kernel
theorem dL_law_500 : decode cL_law 500 = .ok (.iadd, 1) := by decide +kernel
theorem dL_law_501 : decode cL_law 501 = .ok (.iaload, 1) := by decide +kernel
theorem dL_law_502 : decode cL_law 502 = .ok (.aload_n 0, 1) := by decide +kernel
theorem dL_law_503 : decode cL_law 503 = .ok (.iload 4, 2) := by decide +kernel
theorem dL_law_505 : decode cL_law 505 = .ok (.iconst 3, 1) := by decide +kernel
theorem dL_law_506 : decode cL_law 506 = .ok (.iadd, 1) := by decide +kernel
theorem dL_law_507 : decode cL_law 507 = .ok (.iaload, 1) := by decide +kernel
theorem dL_law_508 : decode cL_law 508 = .ok (.invokevirtual 107, 3) := by decide +kernel
theorem dL_law_511 : decode cL_law 511 = .ok (.istore 6, 2) := by decide +kernel
theorem dL_law_513 : decode cL_law 513 = .ok (.aload_n 2, 1) := by decide +kernel
theorem dL_law_514 : decode cL_law 514 = .ok (.invokevirtual 84, 3) := by decide +kernel
theorem dL_law_517 : decode cL_law 517 = .ok (.iload 5, 2) := by decide +kernel
theorem dL_law_519 : decode cL_law 519 = .ok (.if_icmp .eq 5, 3) := by decide +kernel
theorem dL_law_522 : decode cL_law 522 = .ok (.iconst 0, 1) := by decide +kernel
theorem dL_law_523 : decode cL_law 523 = .ok (.ireturn, 1) := by decide +kernel
theorem dL_law_524 : decode cL_law 524 = .ok (.iload 5, 2) := by decide +kernel
theorem dL_law_526 : decode cL_law 526 = .ok (.ifCond .ne 15, 3) := by decide +kernel
theorem dL_law_529 : decode cL_law 529 = .ok (.aload_n 3, 1) := by decide +kernel
theorem dL_law_530 : decode cL_law 530 = .ok (.iconst 0, 1) := by decide +kernel
theorem dL_law_531 : decode cL_law 531 = .ok (.laload, 1) := by decide +kernel
theorem dL_law_532 : decode cL_law 532 = .ok (.iload 6, 2) := by decide +kernel
theorem dL_law_534 : decode cL_law 534 = .ok (.i2l, 1) := by decide +kernel
theorem dL_law_535 : decode cL_law 535 = .ok (.lcmp, 1) := by decide +kernel
theorem dL_law_536 : decode cL_law 536 = .ok (.ifCond .eq 5, 3) := by decide +kernel
theorem dL_law_539 : decode cL_law 539 = .ok (.iconst 0, 1) := by decide +kernel
theorem dL_law_540 : decode cL_law 540 = .ok (.ireturn, 1) := by decide +kernel
theorem dL_law_541 : decode cL_law 541 = .ok (.goto 728, 3) := by decide +kernel
theorem dL_law_544 : decode cL_law 544 = .ok (.aload_n 1, 1) := by decide +kernel
theorem dL_law_545 : decode cL_law 545 = .ok (.invokevirtual 108, 3) := by decide +kernel
theorem dL_law_548 : decode cL_law 548 = .ok (.aload_n 2, 1) := by decide +kernel
theorem dL_law_549 : decode cL_law 549 = .ok (.invokevirtual 111, 3) := by decide +kernel
theorem dL_law_552 : decode cL_law 552 = .ok (.if_icmp .eq 717, 3) := by decide +kernel
theorem dL_law_555 : decode cL_law 555 = .ok (.iconst 0, 1) := by decide +kernel
theorem dL_law_556 : decode cL_law 556 = .ok (.ireturn, 1) := by decide +kernel
theorem dL_law_557 : decode cL_law 557 = .ok (.aload_n 1, 1) := by decide +kernel
theorem dL_law_558 : decode cL_law 558 = .ok (.invokevirtual 112, 3) := by decide +kernel
theorem dL_law_561 : decode cL_law 561 = .ok (.aload_n 2, 1) := by decide +kernel
theorem dL_law_562 : decode cL_law 562 = .ok (.invokevirtual 115, 3) := by decide +kernel
theorem dL_law_565 : decode cL_law 565 = .ok (.if_icmp .eq 704, 3) := by decide +kernel
theorem dL_law_568 : decode cL_law 568 = .ok (.iconst 0, 1) := by decide +kernel
theorem dL_law_569 : decode cL_law 569 = .ok (.ireturn, 1) := by decide +kernel
theorem dL_law_570 : decode cL_law 570 = .ok (.aload_n 1, 1) := by decide +kernel
theorem dL_law_571 : decode cL_law 571 = .ok (.invokevirtual 116, 3) := by decide +kernel
theorem dL_law_574 : decode cL_law 574 = .ok (.aload_n 2, 1) := by decide +kernel
theorem dL_law_575 : decode cL_law 575 = .ok (.invokevirtual 119, 3) := by decide +kernel
theorem dL_law_578 : decode cL_law 578 = .ok (.if_icmp .eq 691, 3) := by decide +kernel
theorem dL_law_581 : decode cL_law 581 = .ok (.iconst 0, 1) := by decide +kernel
theorem dL_law_582 : decode cL_law 582 = .ok (.ireturn, 1) := by decide +kernel
theorem dL_law_583 : decode cL_law 583 = .ok (.aload_n 1, 1) := by decide +kernel
theorem dL_law_584 : decode cL_law 584 = .ok (.invokevirtual 120, 3) := by decide +kernel
theorem dL_law_587 : decode cL_law 587 = .ok (.aload_n 2, 1) := by decide +kernel
theorem dL_law_588 : decode cL_law 588 = .ok (.invokevirtual 123, 3) := by decide +kernel
theorem dL_law_591 : decode cL_law 591 = .ok (.if_icmp .eq 678, 3) := by decide +kernel
theorem dL_law_594 : decode cL_law 594 = .ok (.iconst 0, 1) := by decide +kernel
theorem dL_law_595 : decode cL_law 595 = .ok (.ireturn, 1) := by decide +kernel
theorem dL_law_596 : decode cL_law 596 = .ok (.aload_n 1, 1) := by decide +kernel
theorem dL_law_597 : decode cL_law 597 = .ok (.aload_n 0, 1) := by decide +kernel
theorem dL_law_598 : decode cL_law 598 = .ok (.iload 4, 2) := by decide +kernel
theorem dL_law_600 : decode cL_law 600 = .ok (.iconst 1, 1) := by decide +kernel
theorem dL_law_601 : decode cL_law 601 = .ok (.iadd, 1) := by decide +kernel
theorem dL_law_602 : decode cL_law 602 = .ok (.iaload, 1) := by decide +kernel
theorem dL_law_603 : decode cL_law 603 = .ok (.aload_n 3, 1) := by decide +kernel
theorem dL_law_604 : decode cL_law 604 = .ok (.invokestatic 124, 3) := by decide +kernel
theorem dL_law_607 : decode cL_law 607 = .ok (.istore 5, 2) := by decide +kernel
theorem dL_law_609 : decode cL_law 609 = .ok (.aload_n 2, 1) := by decide +kernel
theorem dL_law_610 : decode cL_law 610 = .ok (.aload_n 0, 1) := by decide +kernel
theorem dL_law_611 : decode cL_law 611 = .ok (.iload 4, 2) := by decide +kernel
theorem dL_law_613 : decode cL_law 613 = .ok (.iconst 1, 1) := by decide +kernel
theorem dL_law_614 : decode cL_law 614 = .ok (.iadd, 1) := by decide +kernel
theorem dL_law_615 : decode cL_law 615 = .ok (.iaload, 1) := by decide +kernel
theorem dL_law_616 : decode cL_law 616 = .ok (.invokevirtual 126, 3) := by decide +kernel
theorem dL_law_619 : decode cL_law 619 = .ok (.istore 6, 2) := by decide +kernel
theorem dL_law_621 : decode cL_law 621 = .ok (.aload_n 2, 1) := by decide +kernel
theorem dL_law_622 : decode cL_law 622 = .ok (.invokevirtual 84, 3) := by decide +kernel
theorem dL_law_625 : decode cL_law 625 = .ok (.iload 5, 2) := by decide +kernel
theorem dL_law_627 : decode cL_law 627 = .ok (.if_icmp .eq 5, 3) := by decide +kernel
theorem dL_law_630 : decode cL_law 630 = .ok (.iconst 0, 1) := by decide +kernel
theorem dL_law_631 : decode cL_law 631 = .ok (.ireturn, 1) := by decide +kernel
theorem dL_law_632 : decode cL_law 632 = .ok (.iload 5, 2) := by decide +kernel
theorem dL_law_634 : decode cL_law 634 = .ok (.ifCond .ne 15, 3) := by decide +kernel
theorem dL_law_637 : decode cL_law 637 = .ok (.aload_n 3, 1) := by decide +kernel
theorem dL_law_638 : decode cL_law 638 = .ok (.iconst 0, 1) := by decide +kernel
theorem dL_law_639 : decode cL_law 639 = .ok (.laload, 1) := by decide +kernel
theorem dL_law_640 : decode cL_law 640 = .ok (.iload 6, 2) := by decide +kernel
theorem dL_law_642 : decode cL_law 642 = .ok (.i2l, 1) := by decide +kernel
theorem dL_law_643 : decode cL_law 643 = .ok (.lcmp, 1) := by decide +kernel
theorem dL_law_644 : decode cL_law 644 = .ok (.ifCond .eq 5, 3) := by decide +kernel
theorem dL_law_647 : decode cL_law 647 = .ok (.iconst 0, 1) := by decide +kernel
theorem dL_law_648 : decode cL_law 648 = .ok (.ireturn, 1) := by decide +kernel
theorem dL_law_649 : decode cL_law 649 = .ok (.goto 620, 3) := by decide +kernel
theorem dL_law_652 : decode cL_law 652 = .ok (.aload_n 1, 1) := by decide +kernel
theorem dL_law_653 : decode cL_law 653 = .ok (.aload_n 0, 1) := by decide +kernel
theorem dL_law_654 : decode cL_law 654 = .ok (.iload 4, 2) := by decide +kernel
theorem dL_law_656 : decode cL_law 656 = .ok (.iconst 1, 1) := by decide +kernel
theorem dL_law_657 : decode cL_law 657 = .ok (.iadd, 1) := by decide +kernel
theorem dL_law_658 : decode cL_law 658 = .ok (.iaload, 1) := by decide +kernel
theorem dL_law_659 : decode cL_law 659 = .ok (.aload_n 3, 1) := by decide +kernel
theorem dL_law_660 : decode cL_law 660 = .ok (.invokestatic 127, 3) := by decide +kernel
theorem dL_law_663 : decode cL_law 663 = .ok (.istore 5, 2) := by decide +kernel
theorem dL_law_665 : decode cL_law 665 = .ok (.aload_n 2, 1) := by decide +kernel
theorem dL_law_666 : decode cL_law 666 = .ok (.aload_n 0, 1) := by decide +kernel
theorem dL_law_667 : decode cL_law 667 = .ok (.iload 4, 2) := by decide +kernel
theorem dL_law_669 : decode cL_law 669 = .ok (.iconst 1, 1) := by decide +kernel
theorem dL_law_670 : decode cL_law 670 = .ok (.iadd, 1) := by decide +kernel
theorem dL_law_671 : decode cL_law 671 = .ok (.iaload, 1) := by decide +kernel
theorem dL_law_672 : decode cL_law 672 = .ok (.invokevirtual 129, 3) := by decide +kernel
theorem dL_law_675 : decode cL_law 675 = .ok (.istore 6, 2) := by decide +kernel
theorem dL_law_677 : decode cL_law 677 = .ok (.aload_n 2, 1) := by decide +kernel
theorem dL_law_678 : decode cL_law 678 = .ok (.invokevirtual 84, 3) := by decide +kernel
theorem dL_law_681 : decode cL_law 681 = .ok (.iload 5, 2) := by decide +kernel
theorem dL_law_683 : decode cL_law 683 = .ok (.if_icmp .eq 5, 3) := by decide +kernel
theorem dL_law_686 : decode cL_law 686 = .ok (.iconst 0, 1) := by decide +kernel
theorem dL_law_687 : decode cL_law 687 = .ok (.ireturn, 1) := by decide +kernel
theorem dL_law_688 : decode cL_law 688 = .ok (.iload 5, 2) := by decide +kernel
theorem dL_law_690 : decode cL_law 690 = .ok (.ifCond .ne 15, 3) := by decide +kernel
theorem dL_law_693 : decode cL_law 693 = .ok (.aload_n 3, 1) := by decide +kernel
theorem dL_law_694 : decode cL_law 694 = .ok (.iconst 0, 1) := by decide +kernel
theorem dL_law_695 : decode cL_law 695 = .ok (.laload, 1) := by decide +kernel
theorem dL_law_696 : decode cL_law 696 = .ok (.iload 6, 2) := by decide +kernel
theorem dL_law_698 : decode cL_law 698 = .ok (.i2l, 1) := by decide +kernel
theorem dL_law_699 : decode cL_law 699 = .ok (.lcmp, 1) := by decide +kernel
theorem dL_law_700 : decode cL_law 700 = .ok (.ifCond .eq 5, 3) := by decide +kernel
theorem dL_law_703 : decode cL_law 703 = .ok (.iconst 0, 1) := by decide +kernel
theorem dL_law_704 : decode cL_law 704 = .ok (.ireturn, 1) := by decide +kernel
theorem dL_law_705 : decode cL_law 705 = .ok (.goto 564, 3) := by decide +kernel
theorem dL_law_708 : decode cL_law 708 = .ok (.aload_n 1, 1) := by decide +kernel
theorem dL_law_709 : decode cL_law 709 = .ok (.aload_n 0, 1) := by decide +kernel
theorem dL_law_710 : decode cL_law 710 = .ok (.iload 4, 2) := by decide +kernel
theorem dL_law_712 : decode cL_law 712 = .ok (.iconst 1, 1) := by decide +kernel
theorem dL_law_713 : decode cL_law 713 = .ok (.iadd, 1) := by decide +kernel
theorem dL_law_714 : decode cL_law 714 = .ok (.iaload, 1) := by decide +kernel
theorem dL_law_715 : decode cL_law 715 = .ok (.aload_n 3, 1) := by decide +kernel
theorem dL_law_716 : decode cL_law 716 = .ok (.invokestatic 130, 3) := by decide +kernel
theorem dL_law_719 : decode cL_law 719 = .ok (.istore 5, 2) := by decide +kernel
theorem dL_law_721 : decode cL_law 721 = .ok (.aload_n 2, 1) := by decide +kernel
theorem dL_law_722 : decode cL_law 722 = .ok (.aload_n 0, 1) := by decide +kernel
theorem dL_law_723 : decode cL_law 723 = .ok (.iload 4, 2) := by decide +kernel
theorem dL_law_725 : decode cL_law 725 = .ok (.iconst 1, 1) := by decide +kernel
theorem dL_law_726 : decode cL_law 726 = .ok (.iadd, 1) := by decide +kernel
theorem dL_law_727 : decode cL_law 727 = .ok (.iaload, 1) := by decide +kernel
theorem dL_law_728 : decode cL_law 728 = .ok (.invokevirtual 132, 3) := by decide +kernel
theorem dL_law_731 : decode cL_law 731 = .ok (.istore 6, 2) := by decide +kernel
theorem dL_law_733 : decode cL_law 733 = .ok (.aload_n 2, 1) := by decide +kernel
theorem dL_law_734 : decode cL_law 734 = .ok (.invokevirtual 84, 3) := by decide +kernel
theorem dL_law_737 : decode cL_law 737 = .ok (.iload 5, 2) := by decide +kernel
theorem dL_law_739 : decode cL_law 739 = .ok (.if_icmp .eq 5, 3) := by decide +kernel
theorem dL_law_742 : decode cL_law 742 = .ok (.iconst 0, 1) := by decide +kernel
theorem dL_law_743 : decode cL_law 743 = .ok (.ireturn, 1) := by decide +kernel
theorem dL_law_744 : decode cL_law 744 = .ok (.iload 5, 2) := by decide +kernel
theorem dL_law_746 : decode cL_law 746 = .ok (.ifCond .ne 15, 3) := by decide +kernel
theorem dL_law_749 : decode cL_law 749 = .ok (.aload_n 3, 1) := by decide +kernel
theorem dL_law_750 : decode cL_law 750 = .ok (.iconst 0, 1) := by decide +kernel
theorem dL_law_751 : decode cL_law 751 = .ok (.laload, 1) := by decide +kernel
theorem dL_law_752 : decode cL_law 752 = .ok (.iload 6, 2) := by decide +kernel
theorem dL_law_754 : decode cL_law 754 = .ok (.i2l, 1) := by decide +kernel
theorem dL_law_755 : decode cL_law 755 = .ok (.lcmp, 1) := by decide +kernel
theorem dL_law_756 : decode cL_law 756 = .ok (.ifCond .eq 5, 3) := by decide +kernel
theorem dL_law_759 : decode cL_law 759 = .ok (.iconst 0, 1) := by decide +kernel
theorem dL_law_760 : decode cL_law 760 = .ok (.ireturn, 1) := by decide +kernel
theorem dL_law_761 : decode cL_law 761 = .ok (.goto 508, 3) := by decide +kernel
theorem dL_law_764 : decode cL_law 764 = .ok (.aload_n 1, 1) := by decide +kernel
theorem dL_law_765 : decode cL_law 765 = .ok (.aload_n 0, 1) := by decide +kernel
theorem dL_law_766 : decode cL_law 766 = .ok (.iload 4, 2) := by decide +kernel
theorem dL_law_768 : decode cL_law 768 = .ok (.iconst 1, 1) := by decide +kernel
theorem dL_law_769 : decode cL_law 769 = .ok (.iadd, 1) := by decide +kernel
theorem dL_law_770 : decode cL_law 770 = .ok (.iaload, 1) := by decide +kernel
theorem dL_law_771 : decode cL_law 771 = .ok (.aload_n 3, 1) := by decide +kernel
theorem dL_law_772 : decode cL_law 772 = .ok (.invokestatic 133, 3) := by decide +kernel
theorem dL_law_775 : decode cL_law 775 = .ok (.istore 5, 2) := by decide +kernel
theorem dL_law_777 : decode cL_law 777 = .ok (.aload_n 2, 1) := by decide +kernel
theorem dL_law_778 : decode cL_law 778 = .ok (.aload_n 0, 1) := by decide +kernel
theorem dL_law_779 : decode cL_law 779 = .ok (.iload 4, 2) := by decide +kernel
theorem dL_law_781 : decode cL_law 781 = .ok (.iconst 1, 1) := by decide +kernel
theorem dL_law_782 : decode cL_law 782 = .ok (.iadd, 1) := by decide +kernel
theorem dL_law_783 : decode cL_law 783 = .ok (.iaload, 1) := by decide +kernel
theorem dL_law_784 : decode cL_law 784 = .ok (.invokevirtual 135, 3) := by decide +kernel
theorem dL_law_787 : decode cL_law 787 = .ok (.istore 6, 2) := by decide +kernel
theorem dL_law_789 : decode cL_law 789 = .ok (.aload_n 2, 1) := by decide +kernel
theorem dL_law_790 : decode cL_law 790 = .ok (.invokevirtual 84, 3) := by decide +kernel
theorem dL_law_793 : decode cL_law 793 = .ok (.iload 5, 2) := by decide +kernel
theorem dL_law_795 : decode cL_law 795 = .ok (.if_icmp .eq 5, 3) := by decide +kernel
theorem dL_law_798 : decode cL_law 798 = .ok (.iconst 0, 1) := by decide +kernel
theorem dL_law_799 : decode cL_law 799 = .ok (.ireturn, 1) := by decide +kernel
theorem dL_law_800 : decode cL_law 800 = .ok (.iload 5, 2) := by decide +kernel
theorem dL_law_802 : decode cL_law 802 = .ok (.ifCond .ne 22, 3) := by decide +kernel
theorem dL_law_805 : decode cL_law 805 = .ok (.aload_n 3, 1) := by decide +kernel
theorem dL_law_806 : decode cL_law 806 = .ok (.iconst 0, 1) := by decide +kernel
theorem dL_law_807 : decode cL_law 807 = .ok (.laload, 1) := by decide +kernel
theorem dL_law_808 : decode cL_law 808 = .ok (.iload 6, 2) := by decide +kernel
theorem dL_law_810 : decode cL_law 810 = .ok (.ifCond .eq 7, 3) := by decide +kernel
theorem dL_law_813 : decode cL_law 813 = .ok (.lconst 1, 1) := by decide +kernel
theorem dL_law_814 : decode cL_law 814 = .ok (.goto 4, 3) := by decide +kernel
theorem dL_law_817 : decode cL_law 817 = .ok (.lconst 0, 1) := by decide +kernel
theorem dL_law_818 : decode cL_law 818 = .ok (.lcmp, 1) := by decide +kernel
theorem dL_law_819 : decode cL_law 819 = .ok (.ifCond .eq 5, 3) := by decide +kernel
theorem dL_law_822 : decode cL_law 822 = .ok (.iconst 0, 1) := by decide +kernel
theorem dL_law_823 : decode cL_law 823 = .ok (.ireturn, 1) := by decide +kernel
theorem dL_law_824 : decode cL_law 824 = .ok (.goto 445, 3) := by decide +kernel
theorem dL_law_827 : decode cL_law 827 = .ok (.aload_n 1, 1) := by decide +kernel
theorem dL_law_828 : decode cL_law 828 = .ok (.aload_n 0, 1) := by decide +kernel
theorem dL_law_829 : decode cL_law 829 = .ok (.iload 4, 2) := by decide +kernel
theorem dL_law_831 : decode cL_law 831 = .ok (.iconst 1, 1) := by decide +kernel
theorem dL_law_832 : decode cL_law 832 = .ok (.iadd, 1) := by decide +kernel
theorem dL_law_833 : decode cL_law 833 = .ok (.iaload, 1) := by decide +kernel
theorem dL_law_834 : decode cL_law 834 = .ok (.aload_n 3, 1) := by decide +kernel
theorem dL_law_835 : decode cL_law 835 = .ok (.invokestatic 136, 3) := by decide +kernel
theorem dL_law_838 : decode cL_law 838 = .ok (.istore 5, 2) := by decide +kernel
theorem dL_law_840 : decode cL_law 840 = .ok (.aload_n 2, 1) := by decide +kernel
theorem dL_law_841 : decode cL_law 841 = .ok (.aload_n 0, 1) := by decide +kernel
theorem dL_law_842 : decode cL_law 842 = .ok (.iload 4, 2) := by decide +kernel
theorem dL_law_844 : decode cL_law 844 = .ok (.iconst 1, 1) := by decide +kernel
theorem dL_law_845 : decode cL_law 845 = .ok (.iadd, 1) := by decide +kernel
theorem dL_law_846 : decode cL_law 846 = .ok (.iaload, 1) := by decide +kernel
theorem dL_law_847 : decode cL_law 847 = .ok (.invokevirtual 138, 3) := by decide +kernel
theorem dL_law_850 : decode cL_law 850 = .ok (.istore 6, 2) := by decide +kernel
theorem dL_law_852 : decode cL_law 852 = .ok (.aload_n 2, 1) := by decide +kernel
theorem dL_law_853 : decode cL_law 853 = .ok (.invokevirtual 84, 3) := by decide +kernel
theorem dL_law_856 : decode cL_law 856 = .ok (.iload 5, 2) := by decide +kernel
theorem dL_law_858 : decode cL_law 858 = .ok (.if_icmp .eq 5, 3) := by decide +kernel
theorem dL_law_861 : decode cL_law 861 = .ok (.iconst 0, 1) := by decide +kernel
theorem dL_law_862 : decode cL_law 862 = .ok (.ireturn, 1) := by decide +kernel
theorem dL_law_863 : decode cL_law 863 = .ok (.iload 5, 2) := by decide +kernel
theorem dL_law_865 : decode cL_law 865 = .ok (.ifCond .ne 22, 3) := by decide +kernel
theorem dL_law_868 : decode cL_law 868 = .ok (.aload_n 3, 1) := by decide +kernel
theorem dL_law_869 : decode cL_law 869 = .ok (.iconst 0, 1) := by decide +kernel
theorem dL_law_870 : decode cL_law 870 = .ok (.laload, 1) := by decide +kernel
theorem dL_law_871 : decode cL_law 871 = .ok (.iload 6, 2) := by decide +kernel
theorem dL_law_873 : decode cL_law 873 = .ok (.ifCond .eq 7, 3) := by decide +kernel
theorem dL_law_876 : decode cL_law 876 = .ok (.lconst 1, 1) := by decide +kernel
theorem dL_law_877 : decode cL_law 877 = .ok (.goto 4, 3) := by decide +kernel
theorem dL_law_880 : decode cL_law 880 = .ok (.lconst 0, 1) := by decide +kernel
theorem dL_law_881 : decode cL_law 881 = .ok (.lcmp, 1) := by decide +kernel
theorem dL_law_882 : decode cL_law 882 = .ok (.ifCond .eq 5, 3) := by decide +kernel
theorem dL_law_885 : decode cL_law 885 = .ok (.iconst 0, 1) := by decide +kernel
theorem dL_law_886 : decode cL_law 886 = .ok (.ireturn, 1) := by decide +kernel
theorem dL_law_887 : decode cL_law 887 = .ok (.goto 382, 3) := by decide +kernel
theorem dL_law_890 : decode cL_law 890 = .ok (.aload_n 1, 1) := by decide +kernel
theorem dL_law_891 : decode cL_law 891 = .ok (.aload_n 0, 1) := by decide +kernel
theorem dL_law_892 : decode cL_law 892 = .ok (.iload 4, 2) := by decide +kernel
theorem dL_law_894 : decode cL_law 894 = .ok (.iconst 1, 1) := by decide +kernel
theorem dL_law_895 : decode cL_law 895 = .ok (.iadd, 1) := by decide +kernel
theorem dL_law_896 : decode cL_law 896 = .ok (.iaload, 1) := by decide +kernel
theorem dL_law_897 : decode cL_law 897 = .ok (.aload_n 3, 1) := by decide +kernel
theorem dL_law_898 : decode cL_law 898 = .ok (.invokestatic 139, 3) := by decide +kernel
theorem dL_law_901 : decode cL_law 901 = .ok (.istore 5, 2) := by decide +kernel
theorem dL_law_903 : decode cL_law 903 = .ok (.aload_n 2, 1) := by decide +kernel
theorem dL_law_904 : decode cL_law 904 = .ok (.aload_n 0, 1) := by decide +kernel
theorem dL_law_905 : decode cL_law 905 = .ok (.iload 4, 2) := by decide +kernel
theorem dL_law_907 : decode cL_law 907 = .ok (.iconst 1, 1) := by decide +kernel
theorem dL_law_908 : decode cL_law 908 = .ok (.iadd, 1) := by decide +kernel
theorem dL_law_909 : decode cL_law 909 = .ok (.iaload, 1) := by decide +kernel
theorem dL_law_910 : decode cL_law 910 = .ok (.invokevirtual 141, 3) := by decide +kernel
theorem dL_law_913 : decode cL_law 913 = .ok (.istore 6, 2) := by decide +kernel
theorem dL_law_915 : decode cL_law 915 = .ok (.aload_n 2, 1) := by decide +kernel
theorem dL_law_916 : decode cL_law 916 = .ok (.invokevirtual 84, 3) := by decide +kernel
theorem dL_law_919 : decode cL_law 919 = .ok (.iload 5, 2) := by decide +kernel
theorem dL_law_921 : decode cL_law 921 = .ok (.if_icmp .eq 5, 3) := by decide +kernel
theorem dL_law_924 : decode cL_law 924 = .ok (.iconst 0, 1) := by decide +kernel
theorem dL_law_925 : decode cL_law 925 = .ok (.ireturn, 1) := by decide +kernel
theorem dL_law_926 : decode cL_law 926 = .ok (.iload 5, 2) := by decide +kernel
theorem dL_law_928 : decode cL_law 928 = .ok (.ifCond .ne 22, 3) := by decide +kernel
theorem dL_law_931 : decode cL_law 931 = .ok (.aload_n 3, 1) := by decide +kernel
theorem dL_law_932 : decode cL_law 932 = .ok (.iconst 0, 1) := by decide +kernel
theorem dL_law_933 : decode cL_law 933 = .ok (.laload, 1) := by decide +kernel
theorem dL_law_934 : decode cL_law 934 = .ok (.iload 6, 2) := by decide +kernel
theorem dL_law_936 : decode cL_law 936 = .ok (.ifCond .eq 7, 3) := by decide +kernel
theorem dL_law_939 : decode cL_law 939 = .ok (.lconst 1, 1) := by decide +kernel
theorem dL_law_940 : decode cL_law 940 = .ok (.goto 4, 3) := by decide +kernel
theorem dL_law_943 : decode cL_law 943 = .ok (.lconst 0, 1) := by decide +kernel
theorem dL_law_944 : decode cL_law 944 = .ok (.lcmp, 1) := by decide +kernel
theorem dL_law_945 : decode cL_law 945 = .ok (.ifCond .eq 5, 3) := by decide +kernel
theorem dL_law_948 : decode cL_law 948 = .ok (.iconst 0, 1) := by decide +kernel
theorem dL_law_949 : decode cL_law 949 = .ok (.ireturn, 1) := by decide +kernel
theorem dL_law_950 : decode cL_law 950 = .ok (.goto 319, 3) := by decide +kernel
theorem dL_law_953 : decode cL_law 953 = .ok (.aload_n 1, 1) := by decide +kernel
theorem dL_law_954 : decode cL_law 954 = .ok (.aload_n 0, 1) := by decide +kernel
theorem dL_law_955 : decode cL_law 955 = .ok (.iload 4, 2) := by decide +kernel
theorem dL_law_957 : decode cL_law 957 = .ok (.iconst 1, 1) := by decide +kernel
theorem dL_law_958 : decode cL_law 958 = .ok (.iadd, 1) := by decide +kernel
theorem dL_law_959 : decode cL_law 959 = .ok (.iaload, 1) := by decide +kernel
theorem dL_law_960 : decode cL_law 960 = .ok (.aload_n 0, 1) := by decide +kernel
theorem dL_law_961 : decode cL_law 961 = .ok (.iload 4, 2) := by decide +kernel
theorem dL_law_963 : decode cL_law 963 = .ok (.iconst 2, 1) := by decide +kernel
theorem dL_law_964 : decode cL_law 964 = .ok (.iadd, 1) := by decide +kernel
theorem dL_law_965 : decode cL_law 965 = .ok (.iaload, 1) := by decide +kernel
theorem dL_law_966 : decode cL_law 966 = .ok (.aload_n 3, 1) := by decide +kernel
theorem dL_law_967 : decode cL_law 967 = .ok (.invokestatic 142, 3) := by decide +kernel
theorem dL_law_970 : decode cL_law 970 = .ok (.istore 5, 2) := by decide +kernel
theorem dL_law_972 : decode cL_law 972 = .ok (.aload_n 2, 1) := by decide +kernel
theorem dL_law_973 : decode cL_law 973 = .ok (.aload_n 0, 1) := by decide +kernel
theorem dL_law_974 : decode cL_law 974 = .ok (.iload 4, 2) := by decide +kernel
theorem dL_law_976 : decode cL_law 976 = .ok (.iconst 1, 1) := by decide +kernel
theorem dL_law_977 : decode cL_law 977 = .ok (.iadd, 1) := by decide +kernel
theorem dL_law_978 : decode cL_law 978 = .ok (.iaload, 1) := by decide +kernel
theorem dL_law_979 : decode cL_law 979 = .ok (.aload_n 0, 1) := by decide +kernel
theorem dL_law_980 : decode cL_law 980 = .ok (.iload 4, 2) := by decide +kernel
theorem dL_law_982 : decode cL_law 982 = .ok (.iconst 2, 1) := by decide +kernel
theorem dL_law_983 : decode cL_law 983 = .ok (.iadd, 1) := by decide +kernel
theorem dL_law_984 : decode cL_law 984 = .ok (.iaload, 1) := by decide +kernel
theorem dL_law_985 : decode cL_law 985 = .ok (.invokevirtual 144, 3) := by decide +kernel
theorem dL_law_988 : decode cL_law 988 = .ok (.istore 6, 2) := by decide +kernel
theorem dL_law_990 : decode cL_law 990 = .ok (.aload_n 2, 1) := by decide +kernel
theorem dL_law_991 : decode cL_law 991 = .ok (.invokevirtual 84, 3) := by decide +kernel
theorem dL_law_994 : decode cL_law 994 = .ok (.iload 5, 2) := by decide +kernel
theorem dL_law_996 : decode cL_law 996 = .ok (.if_icmp .eq 5, 3) := by decide +kernel
theorem dL_law_999 : decode cL_law 999 = .ok (.iconst 0, 1) := by decide +kernel
theorem dL_law_1000 : decode cL_law 1000 = .ok (.ireturn, 1) := by decide +kernel
theorem dL_law_1001 : decode cL_law 1001 = .ok (.iload 5, 2) := by decide +kernel
theorem dL_law_1003 : decode cL_law 1003 = .ok (.ifCond .ne 15, 3) := by decide +kernel
theorem dL_law_1006 : decode cL_law 1006 = .ok (.aload_n 3, 1) := by decide +kernel
theorem dL_law_1007 : decode cL_law 1007 = .ok (.iconst 0, 1) := by decide +kernel
theorem dL_law_1008 : decode cL_law 1008 = .ok (.laload, 1) := by decide +kernel
theorem dL_law_1009 : decode cL_law 1009 = .ok (.iload 6, 2) := by decide +kernel
theorem dL_law_1011 : decode cL_law 1011 = .ok (.i2l, 1) := by decide +kernel
theorem dL_law_1012 : decode cL_law 1012 = .ok (.lcmp, 1) := by decide +kernel
theorem dL_law_1013 : decode cL_law 1013 = .ok (.ifCond .eq 5, 3) := by decide +kernel
theorem dL_law_1016 : decode cL_law 1016 = .ok (.iconst 0, 1) := by decide +kernel
theorem dL_law_1017 : decode cL_law 1017 = .ok (.ireturn, 1) := by decide +kernel
theorem dL_law_1018 : decode cL_law 1018 = .ok (.goto 251, 3) := by decide +kernel
theorem dL_law_1021 : decode cL_law 1021 = .ok (.aload_n 1, 1) := by decide +kernel
theorem dL_law_1022 : decode cL_law 1022 = .ok (.aload_n 0, 1) := by decide +kernel
theorem dL_law_1023 : decode cL_law 1023 = .ok (.iload 4, 2) := by decide +kernel
theorem dL_law_1025 : decode cL_law 1025 = .ok (.iconst 1, 1) := by decide +kernel
theorem dL_law_1026 : decode cL_law 1026 = .ok (.iadd, 1) := by decide +kernel
theorem dL_law_1027 : decode cL_law 1027 = .ok (.iaload, 1) := by decide +kernel
theorem dL_law_1028 : decode cL_law 1028 = .ok (.aload_n 0, 1) := by decide +kernel
theorem dL_law_1029 : decode cL_law 1029 = .ok (.iload 4, 2) := by decide +kernel
theorem dL_law_1031 : decode cL_law 1031 = .ok (.iconst 2, 1) := by decide +kernel
theorem dL_law_1032 : decode cL_law 1032 = .ok (.iadd, 1) := by decide +kernel
theorem dL_law_1033 : decode cL_law 1033 = .ok (.iaload, 1) := by decide +kernel
theorem dL_law_1034 : decode cL_law 1034 = .ok (.aload_n 3, 1) := by decide +kernel
theorem dL_law_1035 : decode cL_law 1035 = .ok (.invokestatic 145, 3) := by decide +kernel
theorem dL_law_1038 : decode cL_law 1038 = .ok (.istore 5, 2) := by decide +kernel
theorem dL_law_1040 : decode cL_law 1040 = .ok (.aload_n 2, 1) := by decide +kernel
theorem dL_law_1041 : decode cL_law 1041 = .ok (.aload_n 0, 1) := by decide +kernel
theorem dL_law_1042 : decode cL_law 1042 = .ok (.iload 4, 2) := by decide +kernel
theorem dL_law_1044 : decode cL_law 1044 = .ok (.iconst 1, 1) := by decide +kernel
theorem dL_law_1045 : decode cL_law 1045 = .ok (.iadd, 1) := by decide +kernel
theorem dL_law_1046 : decode cL_law 1046 = .ok (.iaload, 1) := by decide +kernel
theorem dL_law_1047 : decode cL_law 1047 = .ok (.aload_n 0, 1) := by decide +kernel
theorem dL_law_1048 : decode cL_law 1048 = .ok (.iload 4, 2) := by decide +kernel
theorem dL_law_1050 : decode cL_law 1050 = .ok (.iconst 2, 1) := by decide +kernel
theorem dL_law_1051 : decode cL_law 1051 = .ok (.iadd, 1) := by decide +kernel
theorem dL_law_1052 : decode cL_law 1052 = .ok (.iaload, 1) := by decide +kernel
theorem dL_law_1053 : decode cL_law 1053 = .ok (.invokevirtual 147, 3) := by decide +kernel
theorem dL_law_1056 : decode cL_law 1056 = .ok (.istore 6, 2) := by decide +kernel
theorem dL_law_1058 : decode cL_law 1058 = .ok (.aload_n 2, 1) := by decide +kernel
theorem dL_law_1059 : decode cL_law 1059 = .ok (.invokevirtual 84, 3) := by decide +kernel
theorem dL_law_1062 : decode cL_law 1062 = .ok (.iload 5, 2) := by decide +kernel
theorem dL_law_1064 : decode cL_law 1064 = .ok (.if_icmp .eq 5, 3) := by decide +kernel
theorem dL_law_1067 : decode cL_law 1067 = .ok (.iconst 0, 1) := by decide +kernel
theorem dL_law_1068 : decode cL_law 1068 = .ok (.ireturn, 1) := by decide +kernel
theorem dL_law_1069 : decode cL_law 1069 = .ok (.iload 5, 2) := by decide +kernel
theorem dL_law_1071 : decode cL_law 1071 = .ok (.ifCond .ne 15, 3) := by decide +kernel
theorem dL_law_1074 : decode cL_law 1074 = .ok (.aload_n 3, 1) := by decide +kernel
theorem dL_law_1075 : decode cL_law 1075 = .ok (.iconst 0, 1) := by decide +kernel
theorem dL_law_1076 : decode cL_law 1076 = .ok (.laload, 1) := by decide +kernel
theorem dL_law_1077 : decode cL_law 1077 = .ok (.iload 6, 2) := by decide +kernel
theorem dL_law_1079 : decode cL_law 1079 = .ok (.i2l, 1) := by decide +kernel
theorem dL_law_1080 : decode cL_law 1080 = .ok (.lcmp, 1) := by decide +kernel
theorem dL_law_1081 : decode cL_law 1081 = .ok (.ifCond .eq 5, 3) := by decide +kernel
theorem dL_law_1084 : decode cL_law 1084 = .ok (.iconst 0, 1) := by decide +kernel
theorem dL_law_1085 : decode cL_law 1085 = .ok (.ireturn, 1) := by decide +kernel
theorem dL_law_1086 : decode cL_law 1086 = .ok (.goto 183, 3) := by decide +kernel
theorem dL_law_1089 : decode cL_law 1089 = .ok (.aload_n 1, 1) := by decide +kernel
theorem dL_law_1090 : decode cL_law 1090 = .ok (.aload_n 0, 1) := by decide +kernel
theorem dL_law_1091 : decode cL_law 1091 = .ok (.iload 4, 2) := by decide +kernel
theorem dL_law_1093 : decode cL_law 1093 = .ok (.iconst 1, 1) := by decide +kernel
theorem dL_law_1094 : decode cL_law 1094 = .ok (.iadd, 1) := by decide +kernel
theorem dL_law_1095 : decode cL_law 1095 = .ok (.iaload, 1) := by decide +kernel
theorem dL_law_1096 : decode cL_law 1096 = .ok (.aload_n 3, 1) := by decide +kernel
theorem dL_law_1097 : decode cL_law 1097 = .ok (.invokestatic 148, 3) := by decide +kernel
theorem dL_law_1100 : decode cL_law 1100 = .ok (.istore 5, 2) := by decide +kernel
theorem dL_law_1102 : decode cL_law 1102 = .ok (.aload_n 2, 1) := by decide +kernel
theorem dL_law_1103 : decode cL_law 1103 = .ok (.aload_n 0, 1) := by decide +kernel
theorem dL_law_1104 : decode cL_law 1104 = .ok (.iload 4, 2) := by decide +kernel
theorem dL_law_1106 : decode cL_law 1106 = .ok (.iconst 1, 1) := by decide +kernel
theorem dL_law_1107 : decode cL_law 1107 = .ok (.iadd, 1) := by decide +kernel
theorem dL_law_1108 : decode cL_law 1108 = .ok (.iaload, 1) := by decide +kernel
theorem dL_law_1109 : decode cL_law 1109 = .ok (.invokevirtual 150, 3) := by decide +kernel
theorem dL_law_1112 : decode cL_law 1112 = .ok (.istore 6, 2) := by decide +kernel
theorem dL_law_1114 : decode cL_law 1114 = .ok (.aload_n 2, 1) := by decide +kernel
theorem dL_law_1115 : decode cL_law 1115 = .ok (.invokevirtual 84, 3) := by decide +kernel
theorem dL_law_1118 : decode cL_law 1118 = .ok (.iload 5, 2) := by decide +kernel
theorem dL_law_1120 : decode cL_law 1120 = .ok (.if_icmp .eq 5, 3) := by decide +kernel
theorem dL_law_1123 : decode cL_law 1123 = .ok (.iconst 0, 1) := by decide +kernel
theorem dL_law_1124 : decode cL_law 1124 = .ok (.ireturn, 1) := by decide +kernel
theorem dL_law_1125 : decode cL_law 1125 = .ok (.iload 5, 2) := by decide +kernel
theorem dL_law_1127 : decode cL_law 1127 = .ok (.ifCond .ne 15, 3) := by decide +kernel
theorem dL_law_1130 : decode cL_law 1130 = .ok (.aload_n 3, 1) := by decide +kernel
theorem dL_law_1131 : decode cL_law 1131 = .ok (.iconst 0, 1) := by decide +kernel
theorem dL_law_1132 : decode cL_law 1132 = .ok (.laload, 1) := by decide +kernel
theorem dL_law_1133 : decode cL_law 1133 = .ok (.iload 6, 2) := by decide +kernel
theorem dL_law_1135 : decode cL_law 1135 = .ok (.i2l, 1) := by decide +kernel
theorem dL_law_1136 : decode cL_law 1136 = .ok (.lcmp, 1) := by decide +kernel
theorem dL_law_1137 : decode cL_law 1137 = .ok (.ifCond .eq 5, 3) := by decide +kernel
theorem dL_law_1140 : decode cL_law 1140 = .ok (.iconst 0, 1) := by decide +kernel
theorem dL_law_1141 : decode cL_law 1141 = .ok (.ireturn, 1) := by decide +kernel
theorem dL_law_1142 : decode cL_law 1142 = .ok (.goto 127, 3) := by decide +kernel
theorem dL_law_1145 : decode cL_law 1145 = .ok (.aload_n 1, 1) := by decide +kernel
theorem dL_law_1146 : decode cL_law 1146 = .ok (.aload_n 0, 1) := by decide +kernel
theorem dL_law_1147 : decode cL_law 1147 = .ok (.iload 4, 2) := by decide +kernel
theorem dL_law_1149 : decode cL_law 1149 = .ok (.iconst 1, 1) := by decide +kernel
theorem dL_law_1150 : decode cL_law 1150 = .ok (.iadd, 1) := by decide +kernel
theorem dL_law_1151 : decode cL_law 1151 = .ok (.iaload, 1) := by decide +kernel
theorem dL_law_1152 : decode cL_law 1152 = .ok (.aload_n 0, 1) := by decide +kernel
theorem dL_law_1153 : decode cL_law 1153 = .ok (.iload 4, 2) := by decide +kernel
theorem dL_law_1155 : decode cL_law 1155 = .ok (.iconst 2, 1) := by decide +kernel
theorem dL_law_1156 : decode cL_law 1156 = .ok (.iadd, 1) := by decide +kernel
theorem dL_law_1157 : decode cL_law 1157 = .ok (.iaload, 1) := by decide +kernel
theorem dL_law_1158 : decode cL_law 1158 = .ok (.aload_n 3, 1) := by decide +kernel
theorem dL_law_1159 : decode cL_law 1159 = .ok (.invokestatic 151, 3) := by decide +kernel
theorem dL_law_1162 : decode cL_law 1162 = .ok (.istore 5, 2) := by decide +kernel
theorem dL_law_1164 : decode cL_law 1164 = .ok (.aload_n 2, 1) := by decide +kernel
theorem dL_law_1165 : decode cL_law 1165 = .ok (.aload_n 0, 1) := by decide +kernel
theorem dL_law_1166 : decode cL_law 1166 = .ok (.iload 4, 2) := by decide +kernel
theorem dL_law_1168 : decode cL_law 1168 = .ok (.iconst 1, 1) := by decide +kernel
theorem dL_law_1169 : decode cL_law 1169 = .ok (.iadd, 1) := by decide +kernel
theorem dL_law_1170 : decode cL_law 1170 = .ok (.iaload, 1) := by decide +kernel
theorem dL_law_1171 : decode cL_law 1171 = .ok (.aload_n 0, 1) := by decide +kernel
theorem dL_law_1172 : decode cL_law 1172 = .ok (.iload 4, 2) := by decide +kernel
theorem dL_law_1174 : decode cL_law 1174 = .ok (.iconst 2, 1) := by decide +kernel
theorem dL_law_1175 : decode cL_law 1175 = .ok (.iadd, 1) := by decide +kernel
theorem dL_law_1176 : decode cL_law 1176 = .ok (.iaload, 1) := by decide +kernel
theorem dL_law_1177 : decode cL_law 1177 = .ok (.invokevirtual 153, 3) := by decide +kernel
theorem dL_law_1180 : decode cL_law 1180 = .ok (.istore 6, 2) := by decide +kernel
theorem dL_law_1182 : decode cL_law 1182 = .ok (.aload_n 2, 1) := by decide +kernel
theorem dL_law_1183 : decode cL_law 1183 = .ok (.invokevirtual 84, 3) := by decide +kernel
theorem dL_law_1186 : decode cL_law 1186 = .ok (.iload 5, 2) := by decide +kernel
theorem dL_law_1188 : decode cL_law 1188 = .ok (.if_icmp .eq 5, 3) := by decide +kernel
theorem dL_law_1191 : decode cL_law 1191 = .ok (.iconst 0, 1) := by decide +kernel
theorem dL_law_1192 : decode cL_law 1192 = .ok (.ireturn, 1) := by decide +kernel
theorem dL_law_1193 : decode cL_law 1193 = .ok (.iload 5, 2) := by decide +kernel
theorem dL_law_1195 : decode cL_law 1195 = .ok (.ifCond .ne 15, 3) := by decide +kernel
theorem dL_law_1198 : decode cL_law 1198 = .ok (.aload_n 3, 1) := by decide +kernel
theorem dL_law_1199 : decode cL_law 1199 = .ok (.iconst 0, 1) := by decide +kernel
theorem dL_law_1200 : decode cL_law 1200 = .ok (.laload, 1) := by decide +kernel
theorem dL_law_1201 : decode cL_law 1201 = .ok (.iload 6, 2) := by decide +kernel
theorem dL_law_1203 : decode cL_law 1203 = .ok (.i2l, 1) := by decide +kernel
theorem dL_law_1204 : decode cL_law 1204 = .ok (.lcmp, 1) := by decide +kernel
theorem dL_law_1205 : decode cL_law 1205 = .ok (.ifCond .eq 5, 3) := by decide +kernel
theorem dL_law_1208 : decode cL_law 1208 = .ok (.iconst 0, 1) := by decide +kernel
theorem dL_law_1209 : decode cL_law 1209 = .ok (.ireturn, 1) := by decide +kernel
theorem dL_law_1210 : decode cL_law 1210 = .ok (.goto 59, 3) := by decide +kernel
theorem dL_law_1213 : decode cL_law 1213 = .ok (.aload_n 1, 1) := by decide +kernel
theorem dL_law_1214 : decode cL_law 1214 = .ok (.aload_n 0, 1) := by decide +kernel
theorem dL_law_1215 : decode cL_law 1215 = .ok (.iload 4, 2) := by decide +kernel
theorem dL_law_1217 : decode cL_law 1217 = .ok (.iconst 1, 1) := by decide +kernel
theorem dL_law_1218 : decode cL_law 1218 = .ok (.iadd, 1) := by decide +kernel
theorem dL_law_1219 : decode cL_law 1219 = .ok (.iaload, 1) := by decide +kernel
theorem dL_law_1220 : decode cL_law 1220 = .ok (.aload_n 3, 1) := by decide +kernel
theorem dL_law_1221 : decode cL_law 1221 = .ok (.invokestatic 154, 3) := by decide +kernel
theorem dL_law_1224 : decode cL_law 1224 = .ok (.istore 5, 2) := by decide +kernel
theorem dL_law_1226 : decode cL_law 1226 = .ok (.aload_n 2, 1) := by decide +kernel
theorem dL_law_1227 : decode cL_law 1227 = .ok (.aload_n 0, 1) := by decide +kernel
theorem dL_law_1228 : decode cL_law 1228 = .ok (.iload 4, 2) := by decide +kernel
theorem dL_law_1230 : decode cL_law 1230 = .ok (.iconst 1, 1) := by decide +kernel
theorem dL_law_1231 : decode cL_law 1231 = .ok (.iadd, 1) := by decide +kernel
theorem dL_law_1232 : decode cL_law 1232 = .ok (.iaload, 1) := by decide +kernel
theorem dL_law_1233 : decode cL_law 1233 = .ok (.invokevirtual 156, 3) := by decide +kernel
theorem dL_law_1236 : decode cL_law 1236 = .ok (.istore 6, 2) := by decide +kernel
theorem dL_law_1238 : decode cL_law 1238 = .ok (.aload_n 2, 1) := by decide +kernel
theorem dL_law_1239 : decode cL_law 1239 = .ok (.invokevirtual 84, 3) := by decide +kernel
theorem dL_law_1242 : decode cL_law 1242 = .ok (.iload 5, 2) := by decide +kernel
theorem dL_law_1244 : decode cL_law 1244 = .ok (.if_icmp .eq 5, 3) := by decide +kernel
theorem dL_law_1247 : decode cL_law 1247 = .ok (.iconst 0, 1) := by decide +kernel
theorem dL_law_1248 : decode cL_law 1248 = .ok (.ireturn, 1) := by decide +kernel
theorem dL_law_1249 : decode cL_law 1249 = .ok (.iload 5, 2) := by decide +kernel
theorem dL_law_1251 : decode cL_law 1251 = .ok (.ifCond .ne 15, 3) := by decide +kernel
theorem dL_law_1254 : decode cL_law 1254 = .ok (.aload_n 3, 1) := by decide +kernel
theorem dL_law_1255 : decode cL_law 1255 = .ok (.iconst 0, 1) := by decide +kernel
theorem dL_law_1256 : decode cL_law 1256 = .ok (.laload, 1) := by decide +kernel
theorem dL_law_1257 : decode cL_law 1257 = .ok (.iload 6, 2) := by decide +kernel
theorem dL_law_1259 : decode cL_law 1259 = .ok (.i2l, 1) := by decide +kernel
theorem dL_law_1260 : decode cL_law 1260 = .ok (.lcmp, 1) := by decide +kernel
theorem dL_law_1261 : decode cL_law 1261 = .ok (.ifCond .eq 5, 3) := by decide +kernel
theorem dL_law_1264 : decode cL_law 1264 = .ok (.iconst 0, 1) := by decide +kernel
theorem dL_law_1265 : decode cL_law 1265 = .ok (.ireturn, 1) := by decide +kernel
theorem dL_law_1266 : decode cL_law 1266 = .ok (.goto 3, 3) := by decide +kernel
theorem dL_law_1269 : decode cL_law 1269 = .ok (.iinc 4 4, 3) := by decide +kernel
theorem dL_law_1272 : decode cL_law 1272 = .ok (.goto (-1249), 3) := by decide +kernel
theorem dL_law_1275 : decode cL_law 1275 = .ok (.iconst 1, 1) := by decide +kernel
theorem dL_law_1276 : decode cL_law 1276 = .ok (.ireturn, 1) := by decide +kernel

