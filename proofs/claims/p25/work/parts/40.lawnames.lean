def wsL_from : List Cond := .code yL_from cL_from 4 (some .int) :: ([.constant RL 7 (172787), .constant RL 8 (2147483647)])
def wsL_promised : List Cond := .code yL_promised cL_promised 11 (some .int) :: ([])
def wsL_chain : List Cond := .code yL_chain cL_chain 4 (some .int) :: ([])
def wsL_needed : List Cond := .code yL_needed cL_needed 5 (some .int) :: ([.methodLink RL 9 yL_promised, .static yL_promised, .initialized RL, .code yL_promised cL_promised 11 (some .int), .methodLink RL 15 yL_chain, .static yL_chain, .code yL_chain cL_chain 4 (some .int)])
def wsL_ones : List Cond := .code yL_ones cL_ones 3 (some .int) :: ([])
def wsL_thin : List Cond := .code yL_thin cL_thin 7 (some .int) :: ([.methodLink RL 19 yL_needed, .static yL_needed, .initialized RL, .code yL_needed cL_needed 5 (some .int), .methodLink RL 9 yL_promised, .static yL_promised, .code yL_promised cL_promised 11 (some .int), .methodLink RL 15 yL_chain, .static yL_chain, .code yL_chain cL_chain 4 (some .int)])
def wsL_based_r1 : List Cond := [Cond.classLink RL 35 "java/lang/IndexOutOfBoundsException", Cond.constant RL 31 (100000), Cond.methodLink RL 22 yX4_baseOf, Cond.instanceMethod yX4_baseOf, Cond.selects RX4 yX4_baseOf yX4_baseOf, Cond.initialized RX4, Cond.code yX4_baseOf cX4_baseOf 3 (some .int), Cond.methodLink RX4 98 yX4_requireCopy, Cond.instanceMethod yX4_requireCopy, Cond.selects RX4 yX4_requireCopy yX4_requireCopy, Cond.code yX4_requireCopy cX4_requireCopy 3 (some (.object "DrillVault$Copy")), Cond.classLink RX4 197 "java/lang/IndexOutOfBoundsException", Cond.initialized "java/lang/IndexOutOfBoundsException", Cond.fieldLink RX4 19 "DrillVault" "shelf" "LDrillVault$Shelf;", Cond.methodLink RX4 202 yX3_find, Cond.instanceMethod yX3_find, Cond.selects RX3 yX3_find yX3_find, Cond.initialized RX3, Cond.code yX3_find cX3_find 2 (some (.object "DrillVault$Copy")), Cond.fieldLink RX3 11 "DrillVault$Shelf" "rows" "[LDrillVault$Copy;", Cond.methodLink RL 28 yX4_dayOf, Cond.instanceMethod yX4_dayOf, Cond.selects RX4 yX4_dayOf yX4_dayOf, Cond.code yX4_dayOf cX4_dayOf 2 (some .int)]
def wsL_based_r2 : List Cond := [Cond.methodLink RL 32 yX4_keeps, Cond.instanceMethod yX4_keeps, Cond.selects RX4 yX4_keeps yX4_keeps, Cond.code yX4_keeps cX4_keeps 2 (some .int)]
def wsL_based : List Cond := .codeWith yL_based cL_based 3 (some .int) [(0, 23, 24, 35)] :: ((wsL_based_r1 ++ wsL_based_r2) ++ wsX00 ++ wsX40 ++ wsX30 ++ (vx_atS RX4 201 "java/lang/IndexOutOfBoundsException" ["java/lang/RuntimeException", "java/lang/Exception"]).filter goodWord)
def wsL_marked_r1 : List Cond := [Cond.classLink RL 35 "java/lang/IndexOutOfBoundsException", Cond.methodLink RL 37 yX4_isPromised, Cond.instanceMethod yX4_isPromised, Cond.selects RX4 yX4_isPromised yX4_isPromised, Cond.initialized RX4, Cond.code yX4_isPromised cX4_isPromised 3 (some .boolean), Cond.fieldLink RX4 19 "DrillVault" "shelf" "LDrillVault$Shelf;", Cond.methodLink RX4 98 yX4_requireCopy, Cond.instanceMethod yX4_requireCopy, Cond.selects RX4 yX4_requireCopy yX4_requireCopy, Cond.code yX4_requireCopy cX4_requireCopy 3 (some (.object "DrillVault$Copy")), Cond.classLink RX4 197 "java/lang/IndexOutOfBoundsException", Cond.initialized "java/lang/IndexOutOfBoundsException", Cond.methodLink RX4 202 yX3_find, Cond.instanceMethod yX3_find, Cond.selects RX3 yX3_find yX3_find, Cond.initialized RX3, Cond.code yX3_find cX3_find 2 (some (.object "DrillVault$Copy")), Cond.fieldLink RX3 11 "DrillVault$Shelf" "rows" "[LDrillVault$Copy;", Cond.methodLink RX4 159 yX3_markGenerations, Cond.instanceMethod yX3_markGenerations, Cond.selects RX3 yX3_markGenerations yX3_markGenerations, Cond.code yX3_markGenerations cX3_markGenerations 5 none, Cond.fieldLink RX3 17 "DrillVault$Shelf" "daysRule" "I"]
def wsL_marked_r2 : List Cond := [Cond.fieldLink RX3 21 "DrillVault$Shelf" "weeksRule" "I", Cond.fieldLink RX3 24 "DrillVault$Shelf" "monthsRule" "I", Cond.methodLink RX3 41 yX3_promiseLatest, Cond.instanceMethod yX3_promiseLatest, Cond.selects RX3 yX3_promiseLatest yX3_promiseLatest, Cond.code yX3_promiseLatest cX3_promiseLatest 7 none, Cond.methodLink RX3 48 yX0_periodOf, Cond.instanceMethod yX0_periodOf, Cond.selects RX0 yX0_periodOf yX0_periodOf, Cond.initialized RX0, Cond.code yX0_periodOf cX0_periodOf 2 (some .int), Cond.fieldLink RX0 19 "DrillVault$Copy" "madeOn" "I", Cond.methodLink RX3 45 yX0_markChainNeeded, Cond.instanceMethod yX0_markChainNeeded, Cond.selects RX0 yX0_markChainNeeded yX0_markChainNeeded, Cond.code yX0_markChainNeeded cX0_markChainNeeded 2 none, Cond.fieldLink RX0 39 "DrillVault$Copy" "needed" "Z", Cond.fieldLink RX0 22 "DrillVault$Copy" "base" "LDrillVault$Copy;", Cond.methodLink RL 41 yX4_isNeeded, Cond.instanceMethod yX4_isNeeded, Cond.selects RX4 yX4_isNeeded yX4_isNeeded, Cond.code yX4_isNeeded cX4_isNeeded 3 (some .boolean), Cond.methodLink RL 44 yX4_isProved, Cond.instanceMethod yX4_isProved]
def wsL_marked_r3 : List Cond := [Cond.selects RX4 yX4_isProved yX4_isProved, Cond.code yX4_isProved cX4_isProved 2 (some .boolean)]
def wsL_marked : List Cond := .codeWith yL_marked cL_marked 3 (some .int) [(0, 41, 42, 35)] :: ((wsL_marked_r1 ++ (wsL_marked_r2 ++ wsL_marked_r3)) ++ wsX40 ++ wsX00 ++ wsX30 ++ (vx_atS RX4 201 "java/lang/IndexOutOfBoundsException" ["java/lang/RuntimeException", "java/lang/Exception"]).filter goodWord)
def wsL_restored_r1 : List Cond := [Cond.classLink RL 35 "java/lang/IndexOutOfBoundsException", Cond.methodLink RL 47 yX4_restore, Cond.instanceMethod yX4_restore, Cond.selects RX4 yX4_restore yX4_restore, Cond.initialized RX4, Cond.code yX4_restore cX4_restore 4 (some .int), Cond.methodLink RX4 98 yX4_requireCopy, Cond.instanceMethod yX4_requireCopy, Cond.selects RX4 yX4_requireCopy yX4_requireCopy, Cond.code yX4_requireCopy cX4_requireCopy 3 (some (.object "DrillVault$Copy")), Cond.classLink RX4 197 "java/lang/IndexOutOfBoundsException", Cond.initialized "java/lang/IndexOutOfBoundsException", Cond.fieldLink RX4 19 "DrillVault" "shelf" "LDrillVault$Shelf;", Cond.methodLink RX4 202 yX3_find, Cond.instanceMethod yX3_find, Cond.selects RX3 yX3_find yX3_find, Cond.initialized RX3, Cond.code yX3_find cX3_find 2 (some (.object "DrillVault$Copy")), Cond.fieldLink RX3 11 "DrillVault$Shelf" "rows" "[LDrillVault$Copy;", Cond.methodLink RX4 34 yX4_requireFile, Cond.static yX4_requireFile, Cond.code yX4_requireFile cX4_requireFile 1 none, Cond.methodLink RX4 168 yX0_contentByChain, Cond.instanceMethod yX0_contentByChain]
def wsL_restored_r2 : List Cond := [Cond.selects RX0 yX0_contentByChain yX0_contentByChain, Cond.initialized RX0, Cond.code yX0_contentByChain cX0_contentByChain 3 (some .int), Cond.fieldLink RX0 9 "DrillVault$Copy" "kept" "[I", Cond.fieldLink RX0 22 "DrillVault$Copy" "base" "LDrillVault$Copy;", Cond.methodLink RL 51 yX4_restoreByChanges, Cond.instanceMethod yX4_restoreByChanges, Cond.selects RX4 yX4_restoreByChanges yX4_restoreByChanges, Cond.code yX4_restoreByChanges cX4_restoreByChanges 4 (some .int), Cond.fieldLink RX4 10 "DrillVault" "files" "LDrillVault$Files;", Cond.methodLink RX4 171 yX1_contentAfter, Cond.instanceMethod yX1_contentAfter, Cond.selects RX1 yX1_contentAfter yX1_contentAfter, Cond.initialized RX1, Cond.code yX1_contentAfter cX1_contentAfter 5 (some .int), Cond.fieldLink RX1 15 "DrillVault$Files" "changedFiles" "[I", Cond.fieldLink RX1 18 "DrillVault$Files" "changedTo" "[I"]
def wsL_restored : List Cond := .codeWith yL_restored cL_restored 4 (some .int) [(0, 26, 27, 35)] :: ((wsL_restored_r1 ++ wsL_restored_r2) ++ wsX40 ++ wsX30 ++ wsX00 ++ wsX10 ++ (vx_atS RX4 201 "java/lang/IndexOutOfBoundsException" ["java/lang/RuntimeException", "java/lang/Exception"]).filter goodWord)
def wsL_drilled_r1 : List Cond := [Cond.classLink RL 35 "java/lang/IndexOutOfBoundsException", Cond.methodLink RL 54 yX4_drill, Cond.instanceMethod yX4_drill, Cond.selects RX4 yX4_drill yX4_drill, Cond.initialized RX4, Cond.code yX4_drill cX4_drill 4 (some .int), Cond.methodLink RX4 98 yX4_requireCopy, Cond.instanceMethod yX4_requireCopy, Cond.selects RX4 yX4_requireCopy yX4_requireCopy, Cond.code yX4_requireCopy cX4_requireCopy 3 (some (.object "DrillVault$Copy")), Cond.classLink RX4 197 "java/lang/IndexOutOfBoundsException", Cond.initialized "java/lang/IndexOutOfBoundsException", Cond.fieldLink RX4 19 "DrillVault" "shelf" "LDrillVault$Shelf;", Cond.methodLink RX4 202 yX3_find, Cond.instanceMethod yX3_find, Cond.selects RX3 yX3_find yX3_find, Cond.initialized RX3, Cond.code yX3_find cX3_find 2 (some (.object "DrillVault$Copy")), Cond.fieldLink RX3 11 "DrillVault$Shelf" "rows" "[LDrillVault$Copy;", Cond.methodLink RX4 113 yX0_hasDamagedChain, Cond.instanceMethod yX0_hasDamagedChain, Cond.selects RX0 yX0_hasDamagedChain yX0_hasDamagedChain, Cond.initialized RX0, Cond.code yX0_hasDamagedChain cX0_hasDamagedChain 2 (some .boolean)]
def wsL_drilled_r2 : List Cond := [Cond.fieldLink RX0 32 "DrillVault$Copy" "damaged" "Z", Cond.fieldLink RX0 22 "DrillVault$Copy" "base" "LDrillVault$Copy;", Cond.methodLink RX4 117 yX0_proveChain, Cond.instanceMethod yX0_proveChain, Cond.selects RX0 yX0_proveChain yX0_proveChain, Cond.code yX0_proveChain cX0_proveChain 3 none, Cond.fieldLink RX0 36 "DrillVault$Copy" "proved" "Z", Cond.methodLink RX4 121 yX0_chainLength, Cond.instanceMethod yX0_chainLength, Cond.selects RX0 yX0_chainLength yX0_chainLength, Cond.code yX0_chainLength cX0_chainLength 3 (some .int)]
def wsL_drilled : List Cond := .codeWith yL_drilled cL_drilled 3 (some .int) [(0, 5, 6, 35)] :: ((wsL_drilled_r1 ++ wsL_drilled_r2) ++ wsX40 ++ wsX30 ++ wsX00 ++ (vx_atS RX4 201 "java/lang/IndexOutOfBoundsException" ["java/lang/RuntimeException", "java/lang/Exception"]).filter goodWord)
def wsL_damaged_r1 : List Cond := [Cond.classLink RL 35 "java/lang/IndexOutOfBoundsException", Cond.methodLink RL 57 yX4_damage, Cond.instanceMethod yX4_damage, Cond.selects RX4 yX4_damage yX4_damage, Cond.initialized RX4, Cond.code yX4_damage cX4_damage 3 (some .int), Cond.fieldLink RX4 19 "DrillVault" "shelf" "LDrillVault$Shelf;", Cond.methodLink RX4 98 yX4_requireCopy, Cond.instanceMethod yX4_requireCopy, Cond.selects RX4 yX4_requireCopy yX4_requireCopy, Cond.code yX4_requireCopy cX4_requireCopy 3 (some (.object "DrillVault$Copy")), Cond.classLink RX4 197 "java/lang/IndexOutOfBoundsException", Cond.initialized "java/lang/IndexOutOfBoundsException", Cond.methodLink RX4 202 yX3_find, Cond.instanceMethod yX3_find, Cond.selects RX3 yX3_find yX3_find, Cond.initialized RX3, Cond.code yX3_find cX3_find 2 (some (.object "DrillVault$Copy")), Cond.fieldLink RX3 11 "DrillVault$Shelf" "rows" "[LDrillVault$Copy;", Cond.methodLink RX4 109 yX3_countPromisedButDamaged, Cond.instanceMethod yX3_countPromisedButDamaged, Cond.selects RX3 yX3_countPromisedButDamaged yX3_countPromisedButDamaged, Cond.code yX3_countPromisedButDamaged cX3_countPromisedButDamaged 6 (some .int), Cond.methodLink RX3 52 yX3_markGenerations]
def wsL_damaged_r2 : List Cond := [Cond.instanceMethod yX3_markGenerations, Cond.selects RX3 yX3_markGenerations yX3_markGenerations, Cond.code yX3_markGenerations cX3_markGenerations 5 none, Cond.fieldLink RX3 17 "DrillVault$Shelf" "daysRule" "I", Cond.fieldLink RX3 21 "DrillVault$Shelf" "weeksRule" "I", Cond.fieldLink RX3 24 "DrillVault$Shelf" "monthsRule" "I", Cond.methodLink RX3 41 yX3_promiseLatest, Cond.instanceMethod yX3_promiseLatest, Cond.selects RX3 yX3_promiseLatest yX3_promiseLatest, Cond.code yX3_promiseLatest cX3_promiseLatest 7 none, Cond.methodLink RX3 48 yX0_periodOf, Cond.instanceMethod yX0_periodOf, Cond.selects RX0 yX0_periodOf yX0_periodOf, Cond.initialized RX0, Cond.code yX0_periodOf cX0_periodOf 2 (some .int), Cond.fieldLink RX0 19 "DrillVault$Copy" "madeOn" "I", Cond.methodLink RX3 45 yX0_markChainNeeded, Cond.instanceMethod yX0_markChainNeeded, Cond.selects RX0 yX0_markChainNeeded yX0_markChainNeeded, Cond.code yX0_markChainNeeded cX0_markChainNeeded 2 none, Cond.fieldLink RX0 39 "DrillVault$Copy" "needed" "Z", Cond.fieldLink RX0 22 "DrillVault$Copy" "base" "LDrillVault$Copy;", Cond.methodLink RX3 55 yX0_hasDamagedChain, Cond.instanceMethod yX0_hasDamagedChain]
def wsL_damaged_r3 : List Cond := [Cond.selects RX0 yX0_hasDamagedChain yX0_hasDamagedChain, Cond.code yX0_hasDamagedChain cX0_hasDamagedChain 2 (some .boolean), Cond.fieldLink RX0 32 "DrillVault$Copy" "damaged" "Z"]
def wsL_damaged : List Cond := .codeWith yL_damaged cL_damaged 3 (some .int) [(0, 5, 6, 35)] :: ((wsL_damaged_r1 ++ (wsL_damaged_r2 ++ wsL_damaged_r3)) ++ wsX00 ++ wsX40 ++ wsX30 ++ (vx_atS RX4 201 "java/lang/IndexOutOfBoundsException" ["java/lang/RuntimeException", "java/lang/Exception"]).filter goodWord)
def wsL_incremented_r1 : List Cond := [Cond.classLink RL 64 "java/lang/IllegalStateException", Cond.methodLink RL 60 yX4_increment, Cond.instanceMethod yX4_increment, Cond.selects RX4 yX4_increment yX4_increment, Cond.initialized RX4, Cond.code yX4_increment cX4_increment 3 (some .int), Cond.classLink RX4 48 "java/lang/IllegalStateException", Cond.initialized "java/lang/IllegalStateException", Cond.fieldLink RX4 19 "DrillVault" "shelf" "LDrillVault$Shelf;", Cond.classLink RX4 70 RX0, Cond.instantiable RX0 11, Cond.initialized RX0, Cond.fieldLink RX4 30 "DrillVault" "today" "I", Cond.fieldLink RX4 10 "DrillVault" "files" "LDrillVault$Files;", Cond.methodLink RX4 85 yX3_latest, Cond.instanceMethod yX3_latest, Cond.selects RX3 yX3_latest yX3_latest, Cond.initialized RX3, Cond.code yX3_latest cX3_latest 2 (some (.object "DrillVault$Copy")), Cond.fieldLink RX3 11 "DrillVault$Shelf" "rows" "[LDrillVault$Copy;", Cond.methodLink RX4 72 yX0_init, Cond.instanceMethod yX0_init, Cond.code yX0_init cX0_init 6 none, Cond.methodLink RX0 3 objectInit]
def wsL_incremented_r2 : List Cond := [Cond.instanceMethod objectInit, Cond.code objectInit ⟨#[0xb1]⟩ 1 none, Cond.arrayClass .int, Cond.fieldLink RX0 9 "DrillVault$Copy" "kept" "[I", Cond.fieldLink RX0 15 "DrillVault$Copy" "number" "I", Cond.fieldLink RX0 19 "DrillVault$Copy" "madeOn" "I", Cond.fieldLink RX0 22 "DrillVault$Copy" "base" "LDrillVault$Copy;", Cond.fieldLink RX0 26 "DrillVault$Copy" "changesAhead" "I", Cond.methodLink RX4 94 yX1_keepChanged, Cond.instanceMethod yX1_keepChanged, Cond.selects RX1 yX1_keepChanged yX1_keepChanged, Cond.initialized RX1, Cond.code yX1_keepChanged cX1_keepChanged 4 none, Cond.methodLink RX1 31 Lib.Math.max.name, Cond.static Lib.Math.max.name, Cond.initialized "java/lang/Math", Cond.code Lib.Math.max.name Lib.Math.max.code 2 (some .int), Cond.fieldLink RX1 21 "DrillVault$Files" "changes" "I", Cond.fieldLink RX1 15 "DrillVault$Files" "changedFiles" "[I", Cond.methodLink RX1 37 yX1_contentNow, Cond.instanceMethod yX1_contentNow, Cond.selects RX1 yX1_contentNow yX1_contentNow, Cond.code yX1_contentNow cX1_contentNow 2 (some .int), Cond.fieldLink RX1 9 "DrillVault$Files" "contents" "[I"]
def wsL_incremented_r3 : List Cond := [Cond.methodLink RX1 25 yX0_keep, Cond.instanceMethod yX0_keep, Cond.selects RX0 yX0_keep yX0_keep, Cond.code yX0_keep cX0_keep 3 none, Cond.fieldLink RX0 29 "DrillVault$Copy" "keptContents" "I", Cond.methodLink RX4 79 yX3_put, Cond.instanceMethod yX3_put, Cond.selects RX3 yX3_put yX3_put, Cond.code yX3_put cX3_put 2 none, Cond.fieldLink RX3 27 "DrillVault$Shelf" "made" "I"]
def wsL_incremented : List Cond := .codeWith yL_incremented cL_incremented 2 (some .int) [(0, 4, 5, 64)] :: ((wsL_incremented_r1 ++ (wsL_incremented_r2 ++ wsL_incremented_r3)) ++ wsX40 ++ wsX30 ++ wsX00 ++ wsX10 ++ (vx_atS RX4 52 "java/lang/IllegalStateException" ["java/lang/RuntimeException", "java/lang/Exception"]).filter goodWord)
def wsL_swapped_r1 : List Cond := [Cond.classLink RL 69 "java/lang/IllegalArgumentException", Cond.classLink RL 64 "java/lang/IllegalStateException", Cond.methodLink RL 66 yX4_swap, Cond.instanceMethod yX4_swap, Cond.selects RX4 yX4_swap yX4_swap, Cond.initialized RX4, Cond.code yX4_swap cX4_swap 3 (some .int), Cond.classLink RX4 38 "java/lang/IllegalArgumentException", Cond.initialized "java/lang/IllegalArgumentException", Cond.classLink RX4 48 "java/lang/IllegalStateException", Cond.initialized "java/lang/IllegalStateException", Cond.fieldLink RX4 26 "DrillVault" "rota" "LDrillVault$Rota;", Cond.methodLink RX4 180 yX4_isOpenForSwaps, Cond.instanceMethod yX4_isOpenForSwaps, Cond.selects RX4 yX4_isOpenForSwaps yX4_isOpenForSwaps, Cond.code yX4_isOpenForSwaps cX4_isOpenForSwaps 2 (some .boolean), Cond.fieldLink RX4 30 "DrillVault" "today" "I", Cond.methodLink RX4 186 yX2_exchangeIfRested, Cond.instanceMethod yX2_exchangeIfRested, Cond.selects RX2 yX2_exchangeIfRested yX2_exchangeIfRested, Cond.initialized RX2, Cond.code yX2_exchangeIfRested cX2_exchangeIfRested 3 (some .boolean), Cond.methodLink RX2 15 yX2_exchange, Cond.instanceMethod yX2_exchange]
def wsL_swapped_r2 : List Cond := [Cond.selects RX2 yX2_exchange yX2_exchange, Cond.code yX2_exchange cX2_exchange 4 none, Cond.fieldLink RX2 9 "DrillVault$Rota" "persons" "[I", Cond.methodLink RX2 19 yX2_isRestedAround, Cond.instanceMethod yX2_isRestedAround, Cond.selects RX2 yX2_isRestedAround yX2_isRestedAround, Cond.code yX2_isRestedAround cX2_isRestedAround 3 (some .boolean), Cond.methodLink RX2 23 yX2_personOn, Cond.instanceMethod yX2_personOn, Cond.selects RX2 yX2_personOn yX2_personOn, Cond.code yX2_personOn cX2_personOn 2 (some .int), Cond.methodLink RX4 177 yX2_personOn]
def wsL_swapped : List Cond := .codeWith yL_swapped cL_swapped 4 (some .int) [(0, 6, 7, 69), (0, 6, 11, 64)] :: ((wsL_swapped_r1 ++ wsL_swapped_r2) ++ wsX40 ++ wsX20 ++ (vx_atS RX4 42 "java/lang/IllegalArgumentException" ["java/lang/RuntimeException", "java/lang/Exception"]).filter goodWord ++ (vx_atS RX4 52 "java/lang/IllegalStateException" ["java/lang/RuntimeException", "java/lang/Exception"]).filter goodWord)
def wsL_isTold_r1 : List Cond := [Cond.constant RL 31 (100000), Cond.methodLink RL 9 yL_promised, Cond.static yL_promised, Cond.initialized RL, Cond.code yL_promised cL_promised 11 (some .int), Cond.methodLink RL 19 yL_needed, Cond.static yL_needed, Cond.code yL_needed cL_needed 5 (some .int), Cond.methodLink RL 15 yL_chain, Cond.static yL_chain, Cond.code yL_chain cL_chain 4 (some .int), Cond.methodLink RL 71 yX4_day, Cond.instanceMethod yX4_day, Cond.selects RX4 yX4_day yX4_day, Cond.initialized RX4, Cond.code yX4_day cX4_day 1 (some .int), Cond.fieldLink RX4 30 "DrillVault" "today" "I", Cond.methodLink RL 74 yX4_copies, Cond.instanceMethod yX4_copies, Cond.selects RX4 yX4_copies yX4_copies, Cond.code yX4_copies cX4_copies 1 (some .int), Cond.fieldLink RX4 19 "DrillVault" "shelf" "LDrillVault$Shelf;", Cond.methodLink RX4 143 yX3_countThere, Cond.instanceMethod yX3_countThere]
def wsL_isTold_r2 : List Cond := [Cond.selects RX3 yX3_countThere yX3_countThere, Cond.initialized RX3, Cond.code yX3_countThere cX3_countThere 6 (some .int), Cond.fieldLink RX3 11 "DrillVault$Shelf" "rows" "[LDrillVault$Copy;", Cond.methodLink RL 77 yL_ones, Cond.static yL_ones, Cond.code yL_ones cL_ones 3 (some .int), Cond.methodLink RL 80 yL_based, Cond.static yL_based, Cond.codeWith yL_based cL_based 3 (some .int) [(0, 23, 24, 35)], Cond.classLink RL 35 "java/lang/IndexOutOfBoundsException", Cond.methodLink RL 22 yX4_baseOf, Cond.instanceMethod yX4_baseOf, Cond.selects RX4 yX4_baseOf yX4_baseOf, Cond.code yX4_baseOf cX4_baseOf 3 (some .int), Cond.methodLink RX4 98 yX4_requireCopy, Cond.instanceMethod yX4_requireCopy, Cond.selects RX4 yX4_requireCopy yX4_requireCopy, Cond.code yX4_requireCopy cX4_requireCopy 3 (some (.object "DrillVault$Copy")), Cond.classLink RX4 197 "java/lang/IndexOutOfBoundsException", Cond.initialized "java/lang/IndexOutOfBoundsException", Cond.methodLink RX4 202 yX3_find, Cond.instanceMethod yX3_find, Cond.selects RX3 yX3_find yX3_find]
def wsL_isTold_r3 : List Cond := [Cond.code yX3_find cX3_find 2 (some (.object "DrillVault$Copy")), Cond.methodLink RL 28 yX4_dayOf, Cond.instanceMethod yX4_dayOf, Cond.selects RX4 yX4_dayOf yX4_dayOf, Cond.code yX4_dayOf cX4_dayOf 2 (some .int), Cond.methodLink RL 32 yX4_keeps, Cond.instanceMethod yX4_keeps, Cond.selects RX4 yX4_keeps yX4_keeps, Cond.code yX4_keeps cX4_keeps 2 (some .int), Cond.methodLink RL 84 yL_marked, Cond.static yL_marked, Cond.codeWith yL_marked cL_marked 3 (some .int) [(0, 41, 42, 35)], Cond.methodLink RL 37 yX4_isPromised, Cond.instanceMethod yX4_isPromised, Cond.selects RX4 yX4_isPromised yX4_isPromised, Cond.code yX4_isPromised cX4_isPromised 3 (some .boolean), Cond.methodLink RX4 159 yX3_markGenerations, Cond.instanceMethod yX3_markGenerations, Cond.selects RX3 yX3_markGenerations yX3_markGenerations, Cond.code yX3_markGenerations cX3_markGenerations 5 none, Cond.fieldLink RX3 17 "DrillVault$Shelf" "daysRule" "I", Cond.fieldLink RX3 21 "DrillVault$Shelf" "weeksRule" "I", Cond.fieldLink RX3 24 "DrillVault$Shelf" "monthsRule" "I", Cond.methodLink RX3 41 yX3_promiseLatest]
def wsL_isTold_r4 : List Cond := [Cond.instanceMethod yX3_promiseLatest, Cond.selects RX3 yX3_promiseLatest yX3_promiseLatest, Cond.code yX3_promiseLatest cX3_promiseLatest 7 none, Cond.methodLink RX3 48 yX0_periodOf, Cond.instanceMethod yX0_periodOf, Cond.selects RX0 yX0_periodOf yX0_periodOf, Cond.initialized RX0, Cond.code yX0_periodOf cX0_periodOf 2 (some .int), Cond.fieldLink RX0 19 "DrillVault$Copy" "madeOn" "I", Cond.methodLink RX3 45 yX0_markChainNeeded, Cond.instanceMethod yX0_markChainNeeded, Cond.selects RX0 yX0_markChainNeeded yX0_markChainNeeded, Cond.code yX0_markChainNeeded cX0_markChainNeeded 2 none, Cond.fieldLink RX0 39 "DrillVault$Copy" "needed" "Z", Cond.fieldLink RX0 22 "DrillVault$Copy" "base" "LDrillVault$Copy;", Cond.methodLink RL 41 yX4_isNeeded, Cond.instanceMethod yX4_isNeeded, Cond.selects RX4 yX4_isNeeded yX4_isNeeded, Cond.code yX4_isNeeded cX4_isNeeded 3 (some .boolean), Cond.methodLink RL 44 yX4_isProved, Cond.instanceMethod yX4_isProved, Cond.selects RX4 yX4_isProved yX4_isProved, Cond.code yX4_isProved cX4_isProved 2 (some .boolean), Cond.methodLink RL 87 yL_restored]
def wsL_isTold_r5 : List Cond := [Cond.static yL_restored, Cond.codeWith yL_restored cL_restored 4 (some .int) [(0, 26, 27, 35)], Cond.methodLink RL 47 yX4_restore, Cond.instanceMethod yX4_restore, Cond.selects RX4 yX4_restore yX4_restore, Cond.code yX4_restore cX4_restore 4 (some .int), Cond.methodLink RX4 34 yX4_requireFile, Cond.static yX4_requireFile, Cond.code yX4_requireFile cX4_requireFile 1 none, Cond.methodLink RX4 168 yX0_contentByChain, Cond.instanceMethod yX0_contentByChain, Cond.selects RX0 yX0_contentByChain yX0_contentByChain, Cond.code yX0_contentByChain cX0_contentByChain 3 (some .int), Cond.fieldLink RX0 9 "DrillVault$Copy" "kept" "[I", Cond.methodLink RL 51 yX4_restoreByChanges, Cond.instanceMethod yX4_restoreByChanges, Cond.selects RX4 yX4_restoreByChanges yX4_restoreByChanges, Cond.code yX4_restoreByChanges cX4_restoreByChanges 4 (some .int), Cond.fieldLink RX4 10 "DrillVault" "files" "LDrillVault$Files;", Cond.methodLink RX4 171 yX1_contentAfter, Cond.instanceMethod yX1_contentAfter, Cond.selects RX1 yX1_contentAfter yX1_contentAfter, Cond.initialized RX1, Cond.code yX1_contentAfter cX1_contentAfter 5 (some .int)]
def wsL_isTold_r6 : List Cond := [Cond.fieldLink RX1 15 "DrillVault$Files" "changedFiles" "[I", Cond.fieldLink RX1 18 "DrillVault$Files" "changedTo" "[I", Cond.methodLink RL 91 yX4_onCall, Cond.instanceMethod yX4_onCall, Cond.selects RX4 yX4_onCall yX4_onCall, Cond.code yX4_onCall cX4_onCall 2 (some .int), Cond.classLink RX4 38 "java/lang/IllegalArgumentException", Cond.initialized "java/lang/IllegalArgumentException", Cond.fieldLink RX4 26 "DrillVault" "rota" "LDrillVault$Rota;", Cond.methodLink RX4 177 yX2_personOn, Cond.instanceMethod yX2_personOn, Cond.selects RX2 yX2_personOn yX2_personOn, Cond.initialized RX2, Cond.code yX2_personOn cX2_personOn 2 (some .int), Cond.fieldLink RX2 9 "DrillVault$Rota" "persons" "[I", Cond.methodLink RL 94 yX4_space, Cond.instanceMethod yX4_space, Cond.selects RX4 yX4_space yX4_space, Cond.code yX4_space cX4_space 1 (some .int), Cond.methodLink RX4 146 yX3_spaceTaken, Cond.instanceMethod yX3_spaceTaken, Cond.selects RX3 yX3_spaceTaken yX3_spaceTaken, Cond.code yX3_spaceTaken cX3_spaceTaken 6 (some .int), Cond.methodLink RX3 30 yX0_spaceTaken]
def wsL_isTold_r7 : List Cond := [Cond.instanceMethod yX0_spaceTaken, Cond.selects RX0 yX0_spaceTaken yX0_spaceTaken, Cond.code yX0_spaceTaken cX0_spaceTaken 1 (some .int), Cond.fieldLink RX0 29 "DrillVault$Copy" "keptContents" "I"]
def wsL_isTold : List Cond := .code yL_isTold cL_isTold 13 (some .boolean) :: ((wsL_isTold_r1 ++ (wsL_isTold_r2 ++ (wsL_isTold_r3 ++ (wsL_isTold_r4 ++ (wsL_isTold_r5 ++ (wsL_isTold_r6 ++ wsL_isTold_r7)))))) ++ wsX40 ++ wsX30 ++ wsX00 ++ wsX10 ++ wsX20 ++ (vx_atS RX4 201 "java/lang/IndexOutOfBoundsException" ["java/lang/RuntimeException", "java/lang/Exception"]).filter goodWord ++ (vx_atS RX4 42 "java/lang/IllegalArgumentException" ["java/lang/RuntimeException", "java/lang/Exception"]).filter goodWord)
def wsL_isCopied_r1 : List Cond := [Cond.methodLink RL 97 yL_incremented, Cond.static yL_incremented, Cond.initialized RL, Cond.codeWith yL_incremented cL_incremented 2 (some .int) [(0, 4, 5, 64)], Cond.classLink RL 64 "java/lang/IllegalStateException", Cond.methodLink RL 60 yX4_increment, Cond.instanceMethod yX4_increment, Cond.selects RX4 yX4_increment yX4_increment, Cond.initialized RX4, Cond.code yX4_increment cX4_increment 3 (some .int), Cond.classLink RX4 48 "java/lang/IllegalStateException", Cond.initialized "java/lang/IllegalStateException", Cond.fieldLink RX4 19 "DrillVault" "shelf" "LDrillVault$Shelf;", Cond.classLink RX4 70 RX0, Cond.instantiable RX0 11, Cond.initialized RX0, Cond.fieldLink RX4 30 "DrillVault" "today" "I", Cond.fieldLink RX4 10 "DrillVault" "files" "LDrillVault$Files;", Cond.methodLink RX4 85 yX3_latest, Cond.instanceMethod yX3_latest, Cond.selects RX3 yX3_latest yX3_latest, Cond.initialized RX3, Cond.code yX3_latest cX3_latest 2 (some (.object "DrillVault$Copy")), Cond.fieldLink RX3 11 "DrillVault$Shelf" "rows" "[LDrillVault$Copy;"]
def wsL_isCopied_r2 : List Cond := [Cond.methodLink RX4 72 yX0_init, Cond.instanceMethod yX0_init, Cond.code yX0_init cX0_init 6 none, Cond.methodLink RX0 3 objectInit, Cond.instanceMethod objectInit, Cond.code objectInit ⟨#[0xb1]⟩ 1 none, Cond.arrayClass .int, Cond.fieldLink RX0 9 "DrillVault$Copy" "kept" "[I", Cond.fieldLink RX0 15 "DrillVault$Copy" "number" "I", Cond.fieldLink RX0 19 "DrillVault$Copy" "madeOn" "I", Cond.fieldLink RX0 22 "DrillVault$Copy" "base" "LDrillVault$Copy;", Cond.fieldLink RX0 26 "DrillVault$Copy" "changesAhead" "I", Cond.methodLink RX4 94 yX1_keepChanged, Cond.instanceMethod yX1_keepChanged, Cond.selects RX1 yX1_keepChanged yX1_keepChanged, Cond.initialized RX1, Cond.code yX1_keepChanged cX1_keepChanged 4 none, Cond.methodLink RX1 31 Lib.Math.max.name, Cond.static Lib.Math.max.name, Cond.initialized "java/lang/Math", Cond.code Lib.Math.max.name Lib.Math.max.code 2 (some .int), Cond.fieldLink RX1 21 "DrillVault$Files" "changes" "I", Cond.fieldLink RX1 15 "DrillVault$Files" "changedFiles" "[I", Cond.methodLink RX1 37 yX1_contentNow]
def wsL_isCopied_r3 : List Cond := [Cond.instanceMethod yX1_contentNow, Cond.selects RX1 yX1_contentNow yX1_contentNow, Cond.code yX1_contentNow cX1_contentNow 2 (some .int), Cond.fieldLink RX1 9 "DrillVault$Files" "contents" "[I", Cond.methodLink RX1 25 yX0_keep, Cond.instanceMethod yX0_keep, Cond.selects RX0 yX0_keep yX0_keep, Cond.code yX0_keep cX0_keep 3 none, Cond.fieldLink RX0 29 "DrillVault$Copy" "keptContents" "I", Cond.methodLink RX4 79 yX3_put, Cond.instanceMethod yX3_put, Cond.selects RX3 yX3_put yX3_put, Cond.code yX3_put cX3_put 2 none, Cond.fieldLink RX3 27 "DrillVault$Shelf" "made" "I", Cond.methodLink RL 77 yL_ones, Cond.static yL_ones, Cond.code yL_ones cL_ones 3 (some .int), Cond.methodLink RL 101 yX4_full, Cond.instanceMethod yX4_full, Cond.selects RX4 yX4_full yX4_full, Cond.code yX4_full cX4_full 2 (some .int), Cond.methodLink RX4 75 yX1_keepAll, Cond.instanceMethod yX1_keepAll, Cond.selects RX1 yX1_keepAll yX1_keepAll]
def wsL_isCopied_r4 : List Cond := [Cond.code yX1_keepAll cX1_keepAll 3 none]
def wsL_isCopied : List Cond := .code yL_isCopied cL_isCopied 9 (some .boolean) :: ((wsL_isCopied_r1 ++ (wsL_isCopied_r2 ++ (wsL_isCopied_r3 ++ wsL_isCopied_r4))) ++ wsX40 ++ wsX30 ++ wsX00 ++ wsX10 ++ (vx_atS RX4 52 "java/lang/IllegalStateException" ["java/lang/RuntimeException", "java/lang/Exception"]).filter goodWord)
def wsL_acts_r1 : List Cond := [Cond.methodLink RL 104 yX4_change, Cond.instanceMethod yX4_change, Cond.selects RX4 yX4_change yX4_change, Cond.initialized RX4, Cond.code yX4_change cX4_change 4 (some .int), Cond.classLink RX4 38 "java/lang/IllegalArgumentException", Cond.initialized "java/lang/IllegalArgumentException", Cond.classLink RX4 48 "java/lang/IllegalStateException", Cond.initialized "java/lang/IllegalStateException", Cond.fieldLink RX4 10 "DrillVault" "files" "LDrillVault$Files;", Cond.methodLink RX4 34 yX4_requireFile, Cond.static yX4_requireFile, Cond.code yX4_requireFile cX4_requireFile 1 none, Cond.classLink RX4 197 "java/lang/IndexOutOfBoundsException", Cond.initialized "java/lang/IndexOutOfBoundsException", Cond.methodLink RX4 53 yX1_contentNow, Cond.instanceMethod yX1_contentNow, Cond.selects RX1 yX1_contentNow yX1_contentNow, Cond.initialized RX1, Cond.code yX1_contentNow cX1_contentNow 2 (some .int), Cond.fieldLink RX1 9 "DrillVault$Files" "contents" "[I", Cond.methodLink RX4 57 yX1_write, Cond.instanceMethod yX1_write, Cond.selects RX1 yX1_write yX1_write]
def wsL_acts_r2 : List Cond := [Cond.code yX1_write cX1_write 3 none, Cond.fieldLink RX1 21 "DrillVault$Files" "changes" "I", Cond.fieldLink RX1 15 "DrillVault$Files" "changedFiles" "[I", Cond.fieldLink RX1 18 "DrillVault$Files" "changedTo" "[I", Cond.methodLink RL 107 yX4_pass, Cond.instanceMethod yX4_pass, Cond.selects RX4 yX4_pass yX4_pass, Cond.code yX4_pass cX4_pass 2 (some .int), Cond.fieldLink RX4 30 "DrillVault" "today" "I", Cond.methodLink RL 110 yL_isCopied, Cond.static yL_isCopied, Cond.initialized RL, Cond.code yL_isCopied cL_isCopied 9 (some .boolean), Cond.methodLink RL 97 yL_incremented, Cond.static yL_incremented, Cond.codeWith yL_incremented cL_incremented 2 (some .int) [(0, 4, 5, 64)], Cond.classLink RL 64 "java/lang/IllegalStateException", Cond.methodLink RL 60 yX4_increment, Cond.instanceMethod yX4_increment, Cond.selects RX4 yX4_increment yX4_increment, Cond.code yX4_increment cX4_increment 3 (some .int), Cond.fieldLink RX4 19 "DrillVault" "shelf" "LDrillVault$Shelf;", Cond.classLink RX4 70 RX0, Cond.instantiable RX0 11]
def wsL_acts_r3 : List Cond := [Cond.initialized RX0, Cond.methodLink RX4 85 yX3_latest, Cond.instanceMethod yX3_latest, Cond.selects RX3 yX3_latest yX3_latest, Cond.initialized RX3, Cond.code yX3_latest cX3_latest 2 (some (.object "DrillVault$Copy")), Cond.fieldLink RX3 11 "DrillVault$Shelf" "rows" "[LDrillVault$Copy;", Cond.methodLink RX4 72 yX0_init, Cond.instanceMethod yX0_init, Cond.code yX0_init cX0_init 6 none, Cond.methodLink RX0 3 objectInit, Cond.instanceMethod objectInit, Cond.code objectInit ⟨#[0xb1]⟩ 1 none, Cond.arrayClass .int, Cond.fieldLink RX0 9 "DrillVault$Copy" "kept" "[I", Cond.fieldLink RX0 15 "DrillVault$Copy" "number" "I", Cond.fieldLink RX0 19 "DrillVault$Copy" "madeOn" "I", Cond.fieldLink RX0 22 "DrillVault$Copy" "base" "LDrillVault$Copy;", Cond.fieldLink RX0 26 "DrillVault$Copy" "changesAhead" "I", Cond.methodLink RX4 94 yX1_keepChanged, Cond.instanceMethod yX1_keepChanged, Cond.selects RX1 yX1_keepChanged yX1_keepChanged, Cond.code yX1_keepChanged cX1_keepChanged 4 none, Cond.methodLink RX1 31 Lib.Math.max.name]
def wsL_acts_r4 : List Cond := [Cond.static Lib.Math.max.name, Cond.initialized "java/lang/Math", Cond.code Lib.Math.max.name Lib.Math.max.code 2 (some .int), Cond.methodLink RX1 37 yX1_contentNow, Cond.methodLink RX1 25 yX0_keep, Cond.instanceMethod yX0_keep, Cond.selects RX0 yX0_keep yX0_keep, Cond.code yX0_keep cX0_keep 3 none, Cond.fieldLink RX0 29 "DrillVault$Copy" "keptContents" "I", Cond.methodLink RX4 79 yX3_put, Cond.instanceMethod yX3_put, Cond.selects RX3 yX3_put yX3_put, Cond.code yX3_put cX3_put 2 none, Cond.fieldLink RX3 27 "DrillVault$Shelf" "made" "I", Cond.methodLink RL 77 yL_ones, Cond.static yL_ones, Cond.code yL_ones cL_ones 3 (some .int), Cond.methodLink RL 101 yX4_full, Cond.instanceMethod yX4_full, Cond.selects RX4 yX4_full yX4_full, Cond.code yX4_full cX4_full 2 (some .int), Cond.methodLink RX4 75 yX1_keepAll, Cond.instanceMethod yX1_keepAll, Cond.selects RX1 yX1_keepAll yX1_keepAll]
def wsL_acts_r5 : List Cond := [Cond.code yX1_keepAll cX1_keepAll 3 none, Cond.methodLink RL 15 yL_chain, Cond.static yL_chain, Cond.code yL_chain cL_chain 4 (some .int), Cond.methodLink RL 114 yL_drilled, Cond.static yL_drilled, Cond.codeWith yL_drilled cL_drilled 3 (some .int) [(0, 5, 6, 35)], Cond.classLink RL 35 "java/lang/IndexOutOfBoundsException", Cond.methodLink RL 54 yX4_drill, Cond.instanceMethod yX4_drill, Cond.selects RX4 yX4_drill yX4_drill, Cond.code yX4_drill cX4_drill 4 (some .int), Cond.methodLink RX4 98 yX4_requireCopy, Cond.instanceMethod yX4_requireCopy, Cond.selects RX4 yX4_requireCopy yX4_requireCopy, Cond.code yX4_requireCopy cX4_requireCopy 3 (some (.object "DrillVault$Copy")), Cond.methodLink RX4 202 yX3_find, Cond.instanceMethod yX3_find, Cond.selects RX3 yX3_find yX3_find, Cond.code yX3_find cX3_find 2 (some (.object "DrillVault$Copy")), Cond.methodLink RX4 113 yX0_hasDamagedChain, Cond.instanceMethod yX0_hasDamagedChain, Cond.selects RX0 yX0_hasDamagedChain yX0_hasDamagedChain, Cond.code yX0_hasDamagedChain cX0_hasDamagedChain 2 (some .boolean)]
def wsL_acts_r6 : List Cond := [Cond.fieldLink RX0 32 "DrillVault$Copy" "damaged" "Z", Cond.methodLink RX4 117 yX0_proveChain, Cond.instanceMethod yX0_proveChain, Cond.selects RX0 yX0_proveChain yX0_proveChain, Cond.code yX0_proveChain cX0_proveChain 3 none, Cond.fieldLink RX0 36 "DrillVault$Copy" "proved" "Z", Cond.methodLink RX4 121 yX0_chainLength, Cond.instanceMethod yX0_chainLength, Cond.selects RX0 yX0_chainLength yX0_chainLength, Cond.code yX0_chainLength cX0_chainLength 3 (some .int), Cond.methodLink RL 9 yL_promised, Cond.static yL_promised, Cond.code yL_promised cL_promised 11 (some .int), Cond.methodLink RL 117 yL_damaged, Cond.static yL_damaged, Cond.codeWith yL_damaged cL_damaged 3 (some .int) [(0, 5, 6, 35)], Cond.methodLink RL 57 yX4_damage, Cond.instanceMethod yX4_damage, Cond.selects RX4 yX4_damage yX4_damage, Cond.code yX4_damage cX4_damage 3 (some .int), Cond.methodLink RX4 109 yX3_countPromisedButDamaged, Cond.instanceMethod yX3_countPromisedButDamaged, Cond.selects RX3 yX3_countPromisedButDamaged yX3_countPromisedButDamaged, Cond.code yX3_countPromisedButDamaged cX3_countPromisedButDamaged 6 (some .int)]
def wsL_acts_r7 : List Cond := [Cond.methodLink RX3 52 yX3_markGenerations, Cond.instanceMethod yX3_markGenerations, Cond.selects RX3 yX3_markGenerations yX3_markGenerations, Cond.code yX3_markGenerations cX3_markGenerations 5 none, Cond.fieldLink RX3 17 "DrillVault$Shelf" "daysRule" "I", Cond.fieldLink RX3 21 "DrillVault$Shelf" "weeksRule" "I", Cond.fieldLink RX3 24 "DrillVault$Shelf" "monthsRule" "I", Cond.methodLink RX3 41 yX3_promiseLatest, Cond.instanceMethod yX3_promiseLatest, Cond.selects RX3 yX3_promiseLatest yX3_promiseLatest, Cond.code yX3_promiseLatest cX3_promiseLatest 7 none, Cond.methodLink RX3 48 yX0_periodOf, Cond.instanceMethod yX0_periodOf, Cond.selects RX0 yX0_periodOf yX0_periodOf, Cond.code yX0_periodOf cX0_periodOf 2 (some .int), Cond.methodLink RX3 45 yX0_markChainNeeded, Cond.instanceMethod yX0_markChainNeeded, Cond.selects RX0 yX0_markChainNeeded yX0_markChainNeeded, Cond.code yX0_markChainNeeded cX0_markChainNeeded 2 none, Cond.fieldLink RX0 39 "DrillVault$Copy" "needed" "Z", Cond.methodLink RX3 55 yX0_hasDamagedChain, Cond.methodLink RL 120 yX4_setRules, Cond.instanceMethod yX4_setRules, Cond.selects RX4 yX4_setRules yX4_setRules]
def wsL_acts_r8 : List Cond := [Cond.code yX4_setRules cX4_setRules 4 (some .int), Cond.methodLink RX4 137 yX3_countPromised, Cond.instanceMethod yX3_countPromised, Cond.selects RX3 yX3_countPromised yX3_countPromised, Cond.code yX3_countPromised cX3_countPromised 6 (some .int), Cond.methodLink RL 124 yX4_thin, Cond.instanceMethod yX4_thin, Cond.selects RX4 yX4_thin yX4_thin, Cond.code yX4_thin cX4_thin 1 (some .int), Cond.methodLink RX4 140 yX3_takeOffLoose, Cond.instanceMethod yX3_takeOffLoose, Cond.selects RX3 yX3_takeOffLoose yX3_takeOffLoose, Cond.code yX3_takeOffLoose cX3_takeOffLoose 4 (some .int), Cond.methodLink RX3 59 yX3_latestProvedDay, Cond.instanceMethod yX3_latestProvedDay, Cond.selects RX3 yX3_latestProvedDay yX3_latestProvedDay, Cond.code yX3_latestProvedDay cX3_latestProvedDay 6 (some .int), Cond.methodLink RX3 75 Lib.Math.max.name, Cond.methodLink RX3 62 yX3_markHeld, Cond.instanceMethod yX3_markHeld, Cond.selects RX3 yX3_markHeld yX3_markHeld, Cond.code yX3_markHeld cX3_markHeld 6 none, Cond.methodLink RX3 30 yX0_spaceTaken, Cond.instanceMethod yX0_spaceTaken]
def wsL_acts_r9 : List Cond := [Cond.selects RX0 yX0_spaceTaken yX0_spaceTaken, Cond.code yX0_spaceTaken cX0_spaceTaken 1 (some .int), Cond.methodLink RL 127 yL_thin, Cond.static yL_thin, Cond.code yL_thin cL_thin 7 (some .int), Cond.methodLink RL 19 yL_needed, Cond.static yL_needed, Cond.code yL_needed cL_needed 5 (some .int), Cond.methodLink RL 129 yL_swapped, Cond.static yL_swapped, Cond.codeWith yL_swapped cL_swapped 4 (some .int) [(0, 6, 7, 69), (0, 6, 11, 64)], Cond.classLink RL 69 "java/lang/IllegalArgumentException", Cond.methodLink RL 66 yX4_swap, Cond.instanceMethod yX4_swap, Cond.selects RX4 yX4_swap yX4_swap, Cond.code yX4_swap cX4_swap 3 (some .int), Cond.fieldLink RX4 26 "DrillVault" "rota" "LDrillVault$Rota;", Cond.methodLink RX4 180 yX4_isOpenForSwaps, Cond.instanceMethod yX4_isOpenForSwaps, Cond.selects RX4 yX4_isOpenForSwaps yX4_isOpenForSwaps, Cond.code yX4_isOpenForSwaps cX4_isOpenForSwaps 2 (some .boolean), Cond.methodLink RX4 186 yX2_exchangeIfRested, Cond.instanceMethod yX2_exchangeIfRested, Cond.selects RX2 yX2_exchangeIfRested yX2_exchangeIfRested]
def wsL_acts_r10 : List Cond := [Cond.initialized RX2, Cond.code yX2_exchangeIfRested cX2_exchangeIfRested 3 (some .boolean), Cond.methodLink RX2 15 yX2_exchange, Cond.instanceMethod yX2_exchange, Cond.selects RX2 yX2_exchange yX2_exchange, Cond.code yX2_exchange cX2_exchange 4 none, Cond.fieldLink RX2 9 "DrillVault$Rota" "persons" "[I", Cond.methodLink RX2 19 yX2_isRestedAround, Cond.instanceMethod yX2_isRestedAround, Cond.selects RX2 yX2_isRestedAround yX2_isRestedAround, Cond.code yX2_isRestedAround cX2_isRestedAround 3 (some .boolean), Cond.methodLink RX2 23 yX2_personOn, Cond.instanceMethod yX2_personOn, Cond.selects RX2 yX2_personOn yX2_personOn, Cond.code yX2_personOn cX2_personOn 2 (some .int), Cond.methodLink RX4 177 yX2_personOn, Cond.methodLink RL 132 yX4_alarm, Cond.instanceMethod yX4_alarm, Cond.selects RX4 yX4_alarm yX4_alarm, Cond.code yX4_alarm cX4_alarm 2 (some .int), Cond.methodLink RX4 194 yX2_firstToAnswer, Cond.instanceMethod yX2_firstToAnswer, Cond.selects RX2 yX2_firstToAnswer yX2_firstToAnswer, Cond.code yX2_firstToAnswer cX2_firstToAnswer 5 (some .int)]
def wsL_acts : List Cond := .code yL_acts cL_acts 15 (some .boolean) :: ((wsL_acts_r1 ++ (wsL_acts_r2 ++ (wsL_acts_r3 ++ (wsL_acts_r4 ++ (wsL_acts_r5 ++ (wsL_acts_r6 ++ (wsL_acts_r7 ++ (wsL_acts_r8 ++ (wsL_acts_r9 ++ wsL_acts_r10))))))))) ++ wsX40 ++ wsX10 ++ wsX30 ++ wsX00 ++ wsX20 ++ (vx_atS RX4 42 "java/lang/IllegalArgumentException" ["java/lang/RuntimeException", "java/lang/Exception"]).filter goodWord ++ (vx_atS RX4 52 "java/lang/IllegalStateException" ["java/lang/RuntimeException", "java/lang/Exception"]).filter goodWord ++ (vx_atS RX4 201 "java/lang/IndexOutOfBoundsException" ["java/lang/RuntimeException", "java/lang/Exception"]).filter goodWord)
def wsL_holds_r1 : List Cond := [Cond.classLink RL 23 RX4, Cond.instantiable RX4 4, Cond.initialized RX4, Cond.arrayClass .int, Cond.constant RL 140 (10000000), Cond.methodLink RL 135 yX4_init, Cond.instanceMethod yX4_init, Cond.code yX4_init cX4_init 1 none, Cond.methodLink RX4 1 objectInit, Cond.instanceMethod objectInit, Cond.code objectInit ⟨#[0xb1]⟩ 1 none, Cond.classLink RX4 7 RX1, Cond.instantiable RX1 4, Cond.initialized RX1, Cond.fieldLink RX4 10 "DrillVault" "files" "LDrillVault$Files;", Cond.classLink RX4 16 RX3, Cond.instantiable RX3 5, Cond.initialized RX3, Cond.fieldLink RX4 19 "DrillVault" "shelf" "LDrillVault$Shelf;", Cond.classLink RX4 23 RX2, Cond.instantiable RX2 1, Cond.initialized RX2, Cond.fieldLink RX4 26 "DrillVault" "rota" "LDrillVault$Rota;", Cond.fieldLink RX4 30 "DrillVault" "today" "I"]
def wsL_holds_r2 : List Cond := [Cond.instanceMethod yX1_init, Cond.code yX1_init cX1_init 1 none, Cond.methodLink RX1 3 objectInit, Cond.fieldLink RX1 9 "DrillVault$Files" "contents" "[I", Cond.fieldLink RX1 15 "DrillVault$Files" "changedFiles" "[I", Cond.fieldLink RX1 18 "DrillVault$Files" "changedTo" "[I", Cond.instanceMethod yX3_init, Cond.code yX3_init cX3_init 1 none, Cond.methodLink RX3 3 objectInit, Cond.classLink RX3 9 RX0, Cond.fieldLink RX3 11 "DrillVault$Shelf" "rows" "[LDrillVault$Copy;", Cond.fieldLink RX3 17 "DrillVault$Shelf" "daysRule" "I", Cond.fieldLink RX3 21 "DrillVault$Shelf" "weeksRule" "I", Cond.fieldLink RX3 24 "DrillVault$Shelf" "monthsRule" "I", Cond.methodLink RX4 25 yX2_init, Cond.instanceMethod yX2_init, Cond.code yX2_init cX2_init 2 none, Cond.methodLink RX2 3 objectInit, Cond.fieldLink RX2 9 "DrillVault$Rota" "persons" "[I", Cond.methodLink RL 136 yL_from, Cond.static yL_from, Cond.initialized RL, Cond.code yL_from cL_from 4 (some .int), Cond.constant RL 7 (172787)]
def wsL_holds_r3 : List Cond := [Cond.constant RL 8 (2147483647), Cond.methodLink RL 141 yL_acts, Cond.static yL_acts, Cond.code yL_acts cL_acts 15 (some .boolean), Cond.methodLink RL 104 yX4_change, Cond.instanceMethod yX4_change, Cond.selects RX4 yX4_change yX4_change, Cond.code yX4_change cX4_change 4 (some .int), Cond.classLink RX4 38 "java/lang/IllegalArgumentException", Cond.initialized "java/lang/IllegalArgumentException", Cond.classLink RX4 48 "java/lang/IllegalStateException", Cond.initialized "java/lang/IllegalStateException", Cond.methodLink RX4 34 yX4_requireFile, Cond.static yX4_requireFile, Cond.code yX4_requireFile cX4_requireFile 1 none, Cond.classLink RX4 197 "java/lang/IndexOutOfBoundsException", Cond.initialized "java/lang/IndexOutOfBoundsException", Cond.methodLink RX4 53 yX1_contentNow, Cond.instanceMethod yX1_contentNow, Cond.selects RX1 yX1_contentNow yX1_contentNow, Cond.code yX1_contentNow cX1_contentNow 2 (some .int), Cond.methodLink RX4 57 yX1_write, Cond.instanceMethod yX1_write, Cond.selects RX1 yX1_write yX1_write]
def wsL_holds_r4 : List Cond := [Cond.code yX1_write cX1_write 3 none, Cond.fieldLink RX1 21 "DrillVault$Files" "changes" "I", Cond.methodLink RL 107 yX4_pass, Cond.instanceMethod yX4_pass, Cond.selects RX4 yX4_pass yX4_pass, Cond.code yX4_pass cX4_pass 2 (some .int), Cond.methodLink RL 110 yL_isCopied, Cond.static yL_isCopied, Cond.code yL_isCopied cL_isCopied 9 (some .boolean), Cond.methodLink RL 97 yL_incremented, Cond.static yL_incremented, Cond.codeWith yL_incremented cL_incremented 2 (some .int) [(0, 4, 5, 64)], Cond.classLink RL 64 "java/lang/IllegalStateException", Cond.methodLink RL 60 yX4_increment, Cond.instanceMethod yX4_increment, Cond.selects RX4 yX4_increment yX4_increment, Cond.code yX4_increment cX4_increment 3 (some .int), Cond.classLink RX4 70 RX0, Cond.instantiable RX0 11, Cond.initialized RX0, Cond.methodLink RX4 85 yX3_latest, Cond.instanceMethod yX3_latest, Cond.selects RX3 yX3_latest yX3_latest, Cond.code yX3_latest cX3_latest 2 (some (.object "DrillVault$Copy"))]
def wsL_holds_r5 : List Cond := [Cond.methodLink RX4 72 yX0_init, Cond.instanceMethod yX0_init, Cond.code yX0_init cX0_init 6 none, Cond.methodLink RX0 3 objectInit, Cond.fieldLink RX0 9 "DrillVault$Copy" "kept" "[I", Cond.fieldLink RX0 15 "DrillVault$Copy" "number" "I", Cond.fieldLink RX0 19 "DrillVault$Copy" "madeOn" "I", Cond.fieldLink RX0 22 "DrillVault$Copy" "base" "LDrillVault$Copy;", Cond.fieldLink RX0 26 "DrillVault$Copy" "changesAhead" "I", Cond.methodLink RX4 94 yX1_keepChanged, Cond.instanceMethod yX1_keepChanged, Cond.selects RX1 yX1_keepChanged yX1_keepChanged, Cond.code yX1_keepChanged cX1_keepChanged 4 none, Cond.methodLink RX1 31 Lib.Math.max.name, Cond.static Lib.Math.max.name, Cond.initialized "java/lang/Math", Cond.code Lib.Math.max.name Lib.Math.max.code 2 (some .int), Cond.methodLink RX1 37 yX1_contentNow, Cond.methodLink RX1 25 yX0_keep, Cond.instanceMethod yX0_keep, Cond.selects RX0 yX0_keep yX0_keep, Cond.code yX0_keep cX0_keep 3 none, Cond.fieldLink RX0 29 "DrillVault$Copy" "keptContents" "I", Cond.methodLink RX4 79 yX3_put]
def wsL_holds_r6 : List Cond := [Cond.instanceMethod yX3_put, Cond.selects RX3 yX3_put yX3_put, Cond.code yX3_put cX3_put 2 none, Cond.fieldLink RX3 27 "DrillVault$Shelf" "made" "I", Cond.methodLink RL 77 yL_ones, Cond.static yL_ones, Cond.code yL_ones cL_ones 3 (some .int), Cond.methodLink RL 101 yX4_full, Cond.instanceMethod yX4_full, Cond.selects RX4 yX4_full yX4_full, Cond.code yX4_full cX4_full 2 (some .int), Cond.methodLink RX4 75 yX1_keepAll, Cond.instanceMethod yX1_keepAll, Cond.selects RX1 yX1_keepAll yX1_keepAll, Cond.code yX1_keepAll cX1_keepAll 3 none, Cond.methodLink RL 15 yL_chain, Cond.static yL_chain, Cond.code yL_chain cL_chain 4 (some .int), Cond.methodLink RL 114 yL_drilled, Cond.static yL_drilled, Cond.codeWith yL_drilled cL_drilled 3 (some .int) [(0, 5, 6, 35)], Cond.classLink RL 35 "java/lang/IndexOutOfBoundsException", Cond.methodLink RL 54 yX4_drill, Cond.instanceMethod yX4_drill]
def wsL_holds_r7 : List Cond := [Cond.selects RX4 yX4_drill yX4_drill, Cond.code yX4_drill cX4_drill 4 (some .int), Cond.methodLink RX4 98 yX4_requireCopy, Cond.instanceMethod yX4_requireCopy, Cond.selects RX4 yX4_requireCopy yX4_requireCopy, Cond.code yX4_requireCopy cX4_requireCopy 3 (some (.object "DrillVault$Copy")), Cond.methodLink RX4 202 yX3_find, Cond.instanceMethod yX3_find, Cond.selects RX3 yX3_find yX3_find, Cond.code yX3_find cX3_find 2 (some (.object "DrillVault$Copy")), Cond.methodLink RX4 113 yX0_hasDamagedChain, Cond.instanceMethod yX0_hasDamagedChain, Cond.selects RX0 yX0_hasDamagedChain yX0_hasDamagedChain, Cond.code yX0_hasDamagedChain cX0_hasDamagedChain 2 (some .boolean), Cond.fieldLink RX0 32 "DrillVault$Copy" "damaged" "Z", Cond.methodLink RX4 117 yX0_proveChain, Cond.instanceMethod yX0_proveChain, Cond.selects RX0 yX0_proveChain yX0_proveChain, Cond.code yX0_proveChain cX0_proveChain 3 none, Cond.fieldLink RX0 36 "DrillVault$Copy" "proved" "Z", Cond.methodLink RX4 121 yX0_chainLength, Cond.instanceMethod yX0_chainLength, Cond.selects RX0 yX0_chainLength yX0_chainLength, Cond.code yX0_chainLength cX0_chainLength 3 (some .int)]
def wsL_holds_r8 : List Cond := [Cond.methodLink RL 9 yL_promised, Cond.static yL_promised, Cond.code yL_promised cL_promised 11 (some .int), Cond.methodLink RL 117 yL_damaged, Cond.static yL_damaged, Cond.codeWith yL_damaged cL_damaged 3 (some .int) [(0, 5, 6, 35)], Cond.methodLink RL 57 yX4_damage, Cond.instanceMethod yX4_damage, Cond.selects RX4 yX4_damage yX4_damage, Cond.code yX4_damage cX4_damage 3 (some .int), Cond.methodLink RX4 109 yX3_countPromisedButDamaged, Cond.instanceMethod yX3_countPromisedButDamaged, Cond.selects RX3 yX3_countPromisedButDamaged yX3_countPromisedButDamaged, Cond.code yX3_countPromisedButDamaged cX3_countPromisedButDamaged 6 (some .int), Cond.methodLink RX3 52 yX3_markGenerations, Cond.instanceMethod yX3_markGenerations, Cond.selects RX3 yX3_markGenerations yX3_markGenerations, Cond.code yX3_markGenerations cX3_markGenerations 5 none, Cond.methodLink RX3 41 yX3_promiseLatest, Cond.instanceMethod yX3_promiseLatest, Cond.selects RX3 yX3_promiseLatest yX3_promiseLatest, Cond.code yX3_promiseLatest cX3_promiseLatest 7 none, Cond.methodLink RX3 48 yX0_periodOf, Cond.instanceMethod yX0_periodOf]
def wsL_holds_r9 : List Cond := [Cond.selects RX0 yX0_periodOf yX0_periodOf, Cond.code yX0_periodOf cX0_periodOf 2 (some .int), Cond.methodLink RX3 45 yX0_markChainNeeded, Cond.instanceMethod yX0_markChainNeeded, Cond.selects RX0 yX0_markChainNeeded yX0_markChainNeeded, Cond.code yX0_markChainNeeded cX0_markChainNeeded 2 none, Cond.fieldLink RX0 39 "DrillVault$Copy" "needed" "Z", Cond.methodLink RX3 55 yX0_hasDamagedChain, Cond.methodLink RL 120 yX4_setRules, Cond.instanceMethod yX4_setRules, Cond.selects RX4 yX4_setRules yX4_setRules, Cond.code yX4_setRules cX4_setRules 4 (some .int), Cond.methodLink RX4 137 yX3_countPromised, Cond.instanceMethod yX3_countPromised, Cond.selects RX3 yX3_countPromised yX3_countPromised, Cond.code yX3_countPromised cX3_countPromised 6 (some .int), Cond.methodLink RL 124 yX4_thin, Cond.instanceMethod yX4_thin, Cond.selects RX4 yX4_thin yX4_thin, Cond.code yX4_thin cX4_thin 1 (some .int), Cond.methodLink RX4 140 yX3_takeOffLoose, Cond.instanceMethod yX3_takeOffLoose, Cond.selects RX3 yX3_takeOffLoose yX3_takeOffLoose, Cond.code yX3_takeOffLoose cX3_takeOffLoose 4 (some .int)]
def wsL_holds_r10 : List Cond := [Cond.methodLink RX3 59 yX3_latestProvedDay, Cond.instanceMethod yX3_latestProvedDay, Cond.selects RX3 yX3_latestProvedDay yX3_latestProvedDay, Cond.code yX3_latestProvedDay cX3_latestProvedDay 6 (some .int), Cond.methodLink RX3 75 Lib.Math.max.name, Cond.methodLink RX3 62 yX3_markHeld, Cond.instanceMethod yX3_markHeld, Cond.selects RX3 yX3_markHeld yX3_markHeld, Cond.code yX3_markHeld cX3_markHeld 6 none, Cond.methodLink RX3 30 yX0_spaceTaken, Cond.instanceMethod yX0_spaceTaken, Cond.selects RX0 yX0_spaceTaken yX0_spaceTaken, Cond.code yX0_spaceTaken cX0_spaceTaken 1 (some .int), Cond.methodLink RL 127 yL_thin, Cond.static yL_thin, Cond.code yL_thin cL_thin 7 (some .int), Cond.methodLink RL 19 yL_needed, Cond.static yL_needed, Cond.code yL_needed cL_needed 5 (some .int), Cond.methodLink RL 129 yL_swapped, Cond.static yL_swapped, Cond.codeWith yL_swapped cL_swapped 4 (some .int) [(0, 6, 7, 69), (0, 6, 11, 64)], Cond.classLink RL 69 "java/lang/IllegalArgumentException", Cond.methodLink RL 66 yX4_swap]
def wsL_holds_r11 : List Cond := [Cond.instanceMethod yX4_swap, Cond.selects RX4 yX4_swap yX4_swap, Cond.code yX4_swap cX4_swap 3 (some .int), Cond.methodLink RX4 180 yX4_isOpenForSwaps, Cond.instanceMethod yX4_isOpenForSwaps, Cond.selects RX4 yX4_isOpenForSwaps yX4_isOpenForSwaps, Cond.code yX4_isOpenForSwaps cX4_isOpenForSwaps 2 (some .boolean), Cond.methodLink RX4 186 yX2_exchangeIfRested, Cond.instanceMethod yX2_exchangeIfRested, Cond.selects RX2 yX2_exchangeIfRested yX2_exchangeIfRested, Cond.code yX2_exchangeIfRested cX2_exchangeIfRested 3 (some .boolean), Cond.methodLink RX2 15 yX2_exchange, Cond.instanceMethod yX2_exchange, Cond.selects RX2 yX2_exchange yX2_exchange, Cond.code yX2_exchange cX2_exchange 4 none, Cond.methodLink RX2 19 yX2_isRestedAround, Cond.instanceMethod yX2_isRestedAround, Cond.selects RX2 yX2_isRestedAround yX2_isRestedAround, Cond.code yX2_isRestedAround cX2_isRestedAround 3 (some .boolean), Cond.methodLink RX2 23 yX2_personOn, Cond.instanceMethod yX2_personOn, Cond.selects RX2 yX2_personOn yX2_personOn, Cond.code yX2_personOn cX2_personOn 2 (some .int), Cond.methodLink RX4 177 yX2_personOn]
def wsL_holds_r12 : List Cond := [Cond.methodLink RL 132 yX4_alarm, Cond.instanceMethod yX4_alarm, Cond.selects RX4 yX4_alarm yX4_alarm, Cond.code yX4_alarm cX4_alarm 2 (some .int), Cond.methodLink RX4 194 yX2_firstToAnswer, Cond.instanceMethod yX2_firstToAnswer, Cond.selects RX2 yX2_firstToAnswer yX2_firstToAnswer, Cond.code yX2_firstToAnswer cX2_firstToAnswer 5 (some .int), Cond.methodLink RL 145 yL_isTold, Cond.static yL_isTold, Cond.code yL_isTold cL_isTold 13 (some .boolean), Cond.constant RL 31 (100000), Cond.methodLink RL 71 yX4_day, Cond.instanceMethod yX4_day, Cond.selects RX4 yX4_day yX4_day, Cond.code yX4_day cX4_day 1 (some .int), Cond.methodLink RL 74 yX4_copies, Cond.instanceMethod yX4_copies, Cond.selects RX4 yX4_copies yX4_copies, Cond.code yX4_copies cX4_copies 1 (some .int), Cond.methodLink RX4 143 yX3_countThere, Cond.instanceMethod yX3_countThere, Cond.selects RX3 yX3_countThere yX3_countThere, Cond.code yX3_countThere cX3_countThere 6 (some .int)]
def wsL_holds_r13 : List Cond := [Cond.methodLink RL 80 yL_based, Cond.static yL_based, Cond.codeWith yL_based cL_based 3 (some .int) [(0, 23, 24, 35)], Cond.methodLink RL 22 yX4_baseOf, Cond.instanceMethod yX4_baseOf, Cond.selects RX4 yX4_baseOf yX4_baseOf, Cond.code yX4_baseOf cX4_baseOf 3 (some .int), Cond.methodLink RL 28 yX4_dayOf, Cond.instanceMethod yX4_dayOf, Cond.selects RX4 yX4_dayOf yX4_dayOf, Cond.code yX4_dayOf cX4_dayOf 2 (some .int), Cond.methodLink RL 32 yX4_keeps, Cond.instanceMethod yX4_keeps, Cond.selects RX4 yX4_keeps yX4_keeps, Cond.code yX4_keeps cX4_keeps 2 (some .int), Cond.methodLink RL 84 yL_marked, Cond.static yL_marked, Cond.codeWith yL_marked cL_marked 3 (some .int) [(0, 41, 42, 35)], Cond.methodLink RL 37 yX4_isPromised, Cond.instanceMethod yX4_isPromised, Cond.selects RX4 yX4_isPromised yX4_isPromised, Cond.code yX4_isPromised cX4_isPromised 3 (some .boolean), Cond.methodLink RX4 159 yX3_markGenerations, Cond.methodLink RL 41 yX4_isNeeded]
def wsL_holds_r14 : List Cond := [Cond.instanceMethod yX4_isNeeded, Cond.selects RX4 yX4_isNeeded yX4_isNeeded, Cond.code yX4_isNeeded cX4_isNeeded 3 (some .boolean), Cond.methodLink RL 44 yX4_isProved, Cond.instanceMethod yX4_isProved, Cond.selects RX4 yX4_isProved yX4_isProved, Cond.code yX4_isProved cX4_isProved 2 (some .boolean), Cond.methodLink RL 87 yL_restored, Cond.static yL_restored, Cond.codeWith yL_restored cL_restored 4 (some .int) [(0, 26, 27, 35)], Cond.methodLink RL 47 yX4_restore, Cond.instanceMethod yX4_restore, Cond.selects RX4 yX4_restore yX4_restore, Cond.code yX4_restore cX4_restore 4 (some .int), Cond.methodLink RX4 168 yX0_contentByChain, Cond.instanceMethod yX0_contentByChain, Cond.selects RX0 yX0_contentByChain yX0_contentByChain, Cond.code yX0_contentByChain cX0_contentByChain 3 (some .int), Cond.methodLink RL 51 yX4_restoreByChanges, Cond.instanceMethod yX4_restoreByChanges, Cond.selects RX4 yX4_restoreByChanges yX4_restoreByChanges, Cond.code yX4_restoreByChanges cX4_restoreByChanges 4 (some .int), Cond.methodLink RX4 171 yX1_contentAfter, Cond.instanceMethod yX1_contentAfter]
def wsL_holds_r15 : List Cond := [Cond.selects RX1 yX1_contentAfter yX1_contentAfter, Cond.code yX1_contentAfter cX1_contentAfter 5 (some .int), Cond.methodLink RL 91 yX4_onCall, Cond.instanceMethod yX4_onCall, Cond.selects RX4 yX4_onCall yX4_onCall, Cond.code yX4_onCall cX4_onCall 2 (some .int), Cond.methodLink RL 94 yX4_space, Cond.instanceMethod yX4_space, Cond.selects RX4 yX4_space yX4_space, Cond.code yX4_space cX4_space 1 (some .int), Cond.methodLink RX4 146 yX3_spaceTaken, Cond.instanceMethod yX3_spaceTaken, Cond.selects RX3 yX3_spaceTaken yX3_spaceTaken, Cond.code yX3_spaceTaken cX3_spaceTaken 6 (some .int)]
def wsL_holds : List Cond := .code yL_holds cL_holds 9 (some .boolean) :: ((wsL_holds_r1 ++ (wsL_holds_r2 ++ (wsL_holds_r3 ++ (wsL_holds_r4 ++ (wsL_holds_r5 ++ (wsL_holds_r6 ++ (wsL_holds_r7 ++ (wsL_holds_r8 ++ (wsL_holds_r9 ++ (wsL_holds_r10 ++ (wsL_holds_r11 ++ (wsL_holds_r12 ++ (wsL_holds_r13 ++ (wsL_holds_r14 ++ wsL_holds_r15)))))))))))))) ++ wsX40 ++ wsX10 ++ wsX30 ++ wsX20 ++ wsX00 ++ (vx_atS RX4 42 "java/lang/IllegalArgumentException" ["java/lang/RuntimeException", "java/lang/Exception"]).filter goodWord ++ (vx_atS RX4 52 "java/lang/IllegalStateException" ["java/lang/RuntimeException", "java/lang/Exception"]).filter goodWord ++ (vx_atS RX4 201 "java/lang/IndexOutOfBoundsException" ["java/lang/RuntimeException", "java/lang/Exception"]).filter goodWord)
def wsL_isHeld_r1 : List Cond := [Cond.classLink RL 35 "java/lang/IndexOutOfBoundsException", Cond.classLink RL 69 "java/lang/IllegalArgumentException", Cond.classLink RL 64 "java/lang/IllegalStateException", Cond.methodLink RL 149 yL_holds, Cond.static yL_holds, Cond.initialized RL, Cond.code yL_holds cL_holds 9 (some .boolean), Cond.classLink RL 23 RX4, Cond.instantiable RX4 4, Cond.initialized RX4, Cond.arrayClass .int, Cond.constant RL 140 (10000000), Cond.methodLink RL 135 yX4_init, Cond.instanceMethod yX4_init, Cond.code yX4_init cX4_init 1 none, Cond.methodLink RX4 1 objectInit, Cond.instanceMethod objectInit, Cond.code objectInit ⟨#[0xb1]⟩ 1 none, Cond.classLink RX4 7 RX1, Cond.instantiable RX1 4, Cond.initialized RX1, Cond.fieldLink RX4 10 "DrillVault" "files" "LDrillVault$Files;", Cond.classLink RX4 16 RX3, Cond.instantiable RX3 5]
def wsL_isHeld_r2 : List Cond := [Cond.initialized RX3, Cond.fieldLink RX4 19 "DrillVault" "shelf" "LDrillVault$Shelf;", Cond.classLink RX4 23 RX2, Cond.instantiable RX2 1, Cond.initialized RX2, Cond.fieldLink RX4 26 "DrillVault" "rota" "LDrillVault$Rota;", Cond.fieldLink RX4 30 "DrillVault" "today" "I", Cond.instanceMethod yX1_init, Cond.code yX1_init cX1_init 1 none, Cond.methodLink RX1 3 objectInit, Cond.fieldLink RX1 9 "DrillVault$Files" "contents" "[I", Cond.fieldLink RX1 15 "DrillVault$Files" "changedFiles" "[I", Cond.fieldLink RX1 18 "DrillVault$Files" "changedTo" "[I", Cond.instanceMethod yX3_init, Cond.code yX3_init cX3_init 1 none, Cond.methodLink RX3 3 objectInit, Cond.classLink RX3 9 RX0, Cond.fieldLink RX3 11 "DrillVault$Shelf" "rows" "[LDrillVault$Copy;", Cond.fieldLink RX3 17 "DrillVault$Shelf" "daysRule" "I", Cond.fieldLink RX3 21 "DrillVault$Shelf" "weeksRule" "I", Cond.fieldLink RX3 24 "DrillVault$Shelf" "monthsRule" "I", Cond.methodLink RX4 25 yX2_init, Cond.instanceMethod yX2_init, Cond.code yX2_init cX2_init 2 none]
def wsL_isHeld_r3 : List Cond := [Cond.methodLink RX2 3 objectInit, Cond.fieldLink RX2 9 "DrillVault$Rota" "persons" "[I", Cond.methodLink RL 136 yL_from, Cond.static yL_from, Cond.code yL_from cL_from 4 (some .int), Cond.constant RL 7 (172787), Cond.constant RL 8 (2147483647), Cond.methodLink RL 141 yL_acts, Cond.static yL_acts, Cond.code yL_acts cL_acts 15 (some .boolean), Cond.methodLink RL 104 yX4_change, Cond.instanceMethod yX4_change, Cond.selects RX4 yX4_change yX4_change, Cond.code yX4_change cX4_change 4 (some .int), Cond.classLink RX4 38 "java/lang/IllegalArgumentException", Cond.initialized "java/lang/IllegalArgumentException", Cond.classLink RX4 48 "java/lang/IllegalStateException", Cond.initialized "java/lang/IllegalStateException", Cond.methodLink RX4 34 yX4_requireFile, Cond.static yX4_requireFile, Cond.code yX4_requireFile cX4_requireFile 1 none, Cond.classLink RX4 197 "java/lang/IndexOutOfBoundsException", Cond.initialized "java/lang/IndexOutOfBoundsException", Cond.methodLink RX4 53 yX1_contentNow]
def wsL_isHeld_r4 : List Cond := [Cond.instanceMethod yX1_contentNow, Cond.selects RX1 yX1_contentNow yX1_contentNow, Cond.code yX1_contentNow cX1_contentNow 2 (some .int), Cond.methodLink RX4 57 yX1_write, Cond.instanceMethod yX1_write, Cond.selects RX1 yX1_write yX1_write, Cond.code yX1_write cX1_write 3 none, Cond.fieldLink RX1 21 "DrillVault$Files" "changes" "I", Cond.methodLink RL 107 yX4_pass, Cond.instanceMethod yX4_pass, Cond.selects RX4 yX4_pass yX4_pass, Cond.code yX4_pass cX4_pass 2 (some .int), Cond.methodLink RL 110 yL_isCopied, Cond.static yL_isCopied, Cond.code yL_isCopied cL_isCopied 9 (some .boolean), Cond.methodLink RL 97 yL_incremented, Cond.static yL_incremented, Cond.codeWith yL_incremented cL_incremented 2 (some .int) [(0, 4, 5, 64)], Cond.methodLink RL 60 yX4_increment, Cond.instanceMethod yX4_increment, Cond.selects RX4 yX4_increment yX4_increment, Cond.code yX4_increment cX4_increment 3 (some .int), Cond.classLink RX4 70 RX0, Cond.instantiable RX0 11]
def wsL_isHeld_r5 : List Cond := [Cond.initialized RX0, Cond.methodLink RX4 85 yX3_latest, Cond.instanceMethod yX3_latest, Cond.selects RX3 yX3_latest yX3_latest, Cond.code yX3_latest cX3_latest 2 (some (.object "DrillVault$Copy")), Cond.methodLink RX4 72 yX0_init, Cond.instanceMethod yX0_init, Cond.code yX0_init cX0_init 6 none, Cond.methodLink RX0 3 objectInit, Cond.fieldLink RX0 9 "DrillVault$Copy" "kept" "[I", Cond.fieldLink RX0 15 "DrillVault$Copy" "number" "I", Cond.fieldLink RX0 19 "DrillVault$Copy" "madeOn" "I", Cond.fieldLink RX0 22 "DrillVault$Copy" "base" "LDrillVault$Copy;", Cond.fieldLink RX0 26 "DrillVault$Copy" "changesAhead" "I", Cond.methodLink RX4 94 yX1_keepChanged, Cond.instanceMethod yX1_keepChanged, Cond.selects RX1 yX1_keepChanged yX1_keepChanged, Cond.code yX1_keepChanged cX1_keepChanged 4 none, Cond.methodLink RX1 31 Lib.Math.max.name, Cond.static Lib.Math.max.name, Cond.initialized "java/lang/Math", Cond.code Lib.Math.max.name Lib.Math.max.code 2 (some .int), Cond.methodLink RX1 37 yX1_contentNow, Cond.methodLink RX1 25 yX0_keep]
def wsL_isHeld_r6 : List Cond := [Cond.instanceMethod yX0_keep, Cond.selects RX0 yX0_keep yX0_keep, Cond.code yX0_keep cX0_keep 3 none, Cond.fieldLink RX0 29 "DrillVault$Copy" "keptContents" "I", Cond.methodLink RX4 79 yX3_put, Cond.instanceMethod yX3_put, Cond.selects RX3 yX3_put yX3_put, Cond.code yX3_put cX3_put 2 none, Cond.fieldLink RX3 27 "DrillVault$Shelf" "made" "I", Cond.methodLink RL 77 yL_ones, Cond.static yL_ones, Cond.code yL_ones cL_ones 3 (some .int), Cond.methodLink RL 101 yX4_full, Cond.instanceMethod yX4_full, Cond.selects RX4 yX4_full yX4_full, Cond.code yX4_full cX4_full 2 (some .int), Cond.methodLink RX4 75 yX1_keepAll, Cond.instanceMethod yX1_keepAll, Cond.selects RX1 yX1_keepAll yX1_keepAll, Cond.code yX1_keepAll cX1_keepAll 3 none, Cond.methodLink RL 15 yL_chain, Cond.static yL_chain, Cond.code yL_chain cL_chain 4 (some .int), Cond.methodLink RL 114 yL_drilled]
def wsL_isHeld_r7 : List Cond := [Cond.static yL_drilled, Cond.codeWith yL_drilled cL_drilled 3 (some .int) [(0, 5, 6, 35)], Cond.methodLink RL 54 yX4_drill, Cond.instanceMethod yX4_drill, Cond.selects RX4 yX4_drill yX4_drill, Cond.code yX4_drill cX4_drill 4 (some .int), Cond.methodLink RX4 98 yX4_requireCopy, Cond.instanceMethod yX4_requireCopy, Cond.selects RX4 yX4_requireCopy yX4_requireCopy, Cond.code yX4_requireCopy cX4_requireCopy 3 (some (.object "DrillVault$Copy")), Cond.methodLink RX4 202 yX3_find, Cond.instanceMethod yX3_find, Cond.selects RX3 yX3_find yX3_find, Cond.code yX3_find cX3_find 2 (some (.object "DrillVault$Copy")), Cond.methodLink RX4 113 yX0_hasDamagedChain, Cond.instanceMethod yX0_hasDamagedChain, Cond.selects RX0 yX0_hasDamagedChain yX0_hasDamagedChain, Cond.code yX0_hasDamagedChain cX0_hasDamagedChain 2 (some .boolean), Cond.fieldLink RX0 32 "DrillVault$Copy" "damaged" "Z", Cond.methodLink RX4 117 yX0_proveChain, Cond.instanceMethod yX0_proveChain, Cond.selects RX0 yX0_proveChain yX0_proveChain, Cond.code yX0_proveChain cX0_proveChain 3 none, Cond.fieldLink RX0 36 "DrillVault$Copy" "proved" "Z"]
def wsL_isHeld_r8 : List Cond := [Cond.methodLink RX4 121 yX0_chainLength, Cond.instanceMethod yX0_chainLength, Cond.selects RX0 yX0_chainLength yX0_chainLength, Cond.code yX0_chainLength cX0_chainLength 3 (some .int), Cond.methodLink RL 9 yL_promised, Cond.static yL_promised, Cond.code yL_promised cL_promised 11 (some .int), Cond.methodLink RL 117 yL_damaged, Cond.static yL_damaged, Cond.codeWith yL_damaged cL_damaged 3 (some .int) [(0, 5, 6, 35)], Cond.methodLink RL 57 yX4_damage, Cond.instanceMethod yX4_damage, Cond.selects RX4 yX4_damage yX4_damage, Cond.code yX4_damage cX4_damage 3 (some .int), Cond.methodLink RX4 109 yX3_countPromisedButDamaged, Cond.instanceMethod yX3_countPromisedButDamaged, Cond.selects RX3 yX3_countPromisedButDamaged yX3_countPromisedButDamaged, Cond.code yX3_countPromisedButDamaged cX3_countPromisedButDamaged 6 (some .int), Cond.methodLink RX3 52 yX3_markGenerations, Cond.instanceMethod yX3_markGenerations, Cond.selects RX3 yX3_markGenerations yX3_markGenerations, Cond.code yX3_markGenerations cX3_markGenerations 5 none, Cond.methodLink RX3 41 yX3_promiseLatest, Cond.instanceMethod yX3_promiseLatest]
def wsL_isHeld_r9 : List Cond := [Cond.selects RX3 yX3_promiseLatest yX3_promiseLatest, Cond.code yX3_promiseLatest cX3_promiseLatest 7 none, Cond.methodLink RX3 48 yX0_periodOf, Cond.instanceMethod yX0_periodOf, Cond.selects RX0 yX0_periodOf yX0_periodOf, Cond.code yX0_periodOf cX0_periodOf 2 (some .int), Cond.methodLink RX3 45 yX0_markChainNeeded, Cond.instanceMethod yX0_markChainNeeded, Cond.selects RX0 yX0_markChainNeeded yX0_markChainNeeded, Cond.code yX0_markChainNeeded cX0_markChainNeeded 2 none, Cond.fieldLink RX0 39 "DrillVault$Copy" "needed" "Z", Cond.methodLink RX3 55 yX0_hasDamagedChain, Cond.methodLink RL 120 yX4_setRules, Cond.instanceMethod yX4_setRules, Cond.selects RX4 yX4_setRules yX4_setRules, Cond.code yX4_setRules cX4_setRules 4 (some .int), Cond.methodLink RX4 137 yX3_countPromised, Cond.instanceMethod yX3_countPromised, Cond.selects RX3 yX3_countPromised yX3_countPromised, Cond.code yX3_countPromised cX3_countPromised 6 (some .int), Cond.methodLink RL 124 yX4_thin, Cond.instanceMethod yX4_thin, Cond.selects RX4 yX4_thin yX4_thin, Cond.code yX4_thin cX4_thin 1 (some .int)]
def wsL_isHeld_r10 : List Cond := [Cond.methodLink RX4 140 yX3_takeOffLoose, Cond.instanceMethod yX3_takeOffLoose, Cond.selects RX3 yX3_takeOffLoose yX3_takeOffLoose, Cond.code yX3_takeOffLoose cX3_takeOffLoose 4 (some .int), Cond.methodLink RX3 59 yX3_latestProvedDay, Cond.instanceMethod yX3_latestProvedDay, Cond.selects RX3 yX3_latestProvedDay yX3_latestProvedDay, Cond.code yX3_latestProvedDay cX3_latestProvedDay 6 (some .int), Cond.methodLink RX3 75 Lib.Math.max.name, Cond.methodLink RX3 62 yX3_markHeld, Cond.instanceMethod yX3_markHeld, Cond.selects RX3 yX3_markHeld yX3_markHeld, Cond.code yX3_markHeld cX3_markHeld 6 none, Cond.methodLink RX3 30 yX0_spaceTaken, Cond.instanceMethod yX0_spaceTaken, Cond.selects RX0 yX0_spaceTaken yX0_spaceTaken, Cond.code yX0_spaceTaken cX0_spaceTaken 1 (some .int), Cond.methodLink RL 127 yL_thin, Cond.static yL_thin, Cond.code yL_thin cL_thin 7 (some .int), Cond.methodLink RL 19 yL_needed, Cond.static yL_needed, Cond.code yL_needed cL_needed 5 (some .int), Cond.methodLink RL 129 yL_swapped]
def wsL_isHeld_r11 : List Cond := [Cond.static yL_swapped, Cond.codeWith yL_swapped cL_swapped 4 (some .int) [(0, 6, 7, 69), (0, 6, 11, 64)], Cond.methodLink RL 66 yX4_swap, Cond.instanceMethod yX4_swap, Cond.selects RX4 yX4_swap yX4_swap, Cond.code yX4_swap cX4_swap 3 (some .int), Cond.methodLink RX4 180 yX4_isOpenForSwaps, Cond.instanceMethod yX4_isOpenForSwaps, Cond.selects RX4 yX4_isOpenForSwaps yX4_isOpenForSwaps, Cond.code yX4_isOpenForSwaps cX4_isOpenForSwaps 2 (some .boolean), Cond.methodLink RX4 186 yX2_exchangeIfRested, Cond.instanceMethod yX2_exchangeIfRested, Cond.selects RX2 yX2_exchangeIfRested yX2_exchangeIfRested, Cond.code yX2_exchangeIfRested cX2_exchangeIfRested 3 (some .boolean), Cond.methodLink RX2 15 yX2_exchange, Cond.instanceMethod yX2_exchange, Cond.selects RX2 yX2_exchange yX2_exchange, Cond.code yX2_exchange cX2_exchange 4 none, Cond.methodLink RX2 19 yX2_isRestedAround, Cond.instanceMethod yX2_isRestedAround, Cond.selects RX2 yX2_isRestedAround yX2_isRestedAround, Cond.code yX2_isRestedAround cX2_isRestedAround 3 (some .boolean), Cond.methodLink RX2 23 yX2_personOn, Cond.instanceMethod yX2_personOn]
def wsL_isHeld_r12 : List Cond := [Cond.selects RX2 yX2_personOn yX2_personOn, Cond.code yX2_personOn cX2_personOn 2 (some .int), Cond.methodLink RX4 177 yX2_personOn, Cond.methodLink RL 132 yX4_alarm, Cond.instanceMethod yX4_alarm, Cond.selects RX4 yX4_alarm yX4_alarm, Cond.code yX4_alarm cX4_alarm 2 (some .int), Cond.methodLink RX4 194 yX2_firstToAnswer, Cond.instanceMethod yX2_firstToAnswer, Cond.selects RX2 yX2_firstToAnswer yX2_firstToAnswer, Cond.code yX2_firstToAnswer cX2_firstToAnswer 5 (some .int), Cond.methodLink RL 145 yL_isTold, Cond.static yL_isTold, Cond.code yL_isTold cL_isTold 13 (some .boolean), Cond.constant RL 31 (100000), Cond.methodLink RL 71 yX4_day, Cond.instanceMethod yX4_day, Cond.selects RX4 yX4_day yX4_day, Cond.code yX4_day cX4_day 1 (some .int), Cond.methodLink RL 74 yX4_copies, Cond.instanceMethod yX4_copies, Cond.selects RX4 yX4_copies yX4_copies, Cond.code yX4_copies cX4_copies 1 (some .int), Cond.methodLink RX4 143 yX3_countThere]
def wsL_isHeld_r13 : List Cond := [Cond.instanceMethod yX3_countThere, Cond.selects RX3 yX3_countThere yX3_countThere, Cond.code yX3_countThere cX3_countThere 6 (some .int), Cond.methodLink RL 80 yL_based, Cond.static yL_based, Cond.codeWith yL_based cL_based 3 (some .int) [(0, 23, 24, 35)], Cond.methodLink RL 22 yX4_baseOf, Cond.instanceMethod yX4_baseOf, Cond.selects RX4 yX4_baseOf yX4_baseOf, Cond.code yX4_baseOf cX4_baseOf 3 (some .int), Cond.methodLink RL 28 yX4_dayOf, Cond.instanceMethod yX4_dayOf, Cond.selects RX4 yX4_dayOf yX4_dayOf, Cond.code yX4_dayOf cX4_dayOf 2 (some .int), Cond.methodLink RL 32 yX4_keeps, Cond.instanceMethod yX4_keeps, Cond.selects RX4 yX4_keeps yX4_keeps, Cond.code yX4_keeps cX4_keeps 2 (some .int), Cond.methodLink RL 84 yL_marked, Cond.static yL_marked, Cond.codeWith yL_marked cL_marked 3 (some .int) [(0, 41, 42, 35)], Cond.methodLink RL 37 yX4_isPromised, Cond.instanceMethod yX4_isPromised, Cond.selects RX4 yX4_isPromised yX4_isPromised]
def wsL_isHeld_r14 : List Cond := [Cond.code yX4_isPromised cX4_isPromised 3 (some .boolean), Cond.methodLink RX4 159 yX3_markGenerations, Cond.methodLink RL 41 yX4_isNeeded, Cond.instanceMethod yX4_isNeeded, Cond.selects RX4 yX4_isNeeded yX4_isNeeded, Cond.code yX4_isNeeded cX4_isNeeded 3 (some .boolean), Cond.methodLink RL 44 yX4_isProved, Cond.instanceMethod yX4_isProved, Cond.selects RX4 yX4_isProved yX4_isProved, Cond.code yX4_isProved cX4_isProved 2 (some .boolean), Cond.methodLink RL 87 yL_restored, Cond.static yL_restored, Cond.codeWith yL_restored cL_restored 4 (some .int) [(0, 26, 27, 35)], Cond.methodLink RL 47 yX4_restore, Cond.instanceMethod yX4_restore, Cond.selects RX4 yX4_restore yX4_restore, Cond.code yX4_restore cX4_restore 4 (some .int), Cond.methodLink RX4 168 yX0_contentByChain, Cond.instanceMethod yX0_contentByChain, Cond.selects RX0 yX0_contentByChain yX0_contentByChain, Cond.code yX0_contentByChain cX0_contentByChain 3 (some .int), Cond.methodLink RL 51 yX4_restoreByChanges, Cond.instanceMethod yX4_restoreByChanges, Cond.selects RX4 yX4_restoreByChanges yX4_restoreByChanges]
def wsL_isHeld_r15 : List Cond := [Cond.code yX4_restoreByChanges cX4_restoreByChanges 4 (some .int), Cond.methodLink RX4 171 yX1_contentAfter, Cond.instanceMethod yX1_contentAfter, Cond.selects RX1 yX1_contentAfter yX1_contentAfter, Cond.code yX1_contentAfter cX1_contentAfter 5 (some .int), Cond.methodLink RL 91 yX4_onCall, Cond.instanceMethod yX4_onCall, Cond.selects RX4 yX4_onCall yX4_onCall, Cond.code yX4_onCall cX4_onCall 2 (some .int), Cond.methodLink RL 94 yX4_space, Cond.instanceMethod yX4_space, Cond.selects RX4 yX4_space yX4_space, Cond.code yX4_space cX4_space 1 (some .int), Cond.methodLink RX4 146 yX3_spaceTaken, Cond.instanceMethod yX3_spaceTaken, Cond.selects RX3 yX3_spaceTaken yX3_spaceTaken, Cond.code yX3_spaceTaken cX3_spaceTaken 6 (some .int)]
def wsL_isHeld : List Cond := .codeWith yL_isHeld cL_isHeld 2 (some .boolean) [(0, 4, 5, 35), (0, 4, 8, 69), (0, 4, 11, 64)] :: ((wsL_isHeld_r1 ++ (wsL_isHeld_r2 ++ (wsL_isHeld_r3 ++ (wsL_isHeld_r4 ++ (wsL_isHeld_r5 ++ (wsL_isHeld_r6 ++ (wsL_isHeld_r7 ++ (wsL_isHeld_r8 ++ (wsL_isHeld_r9 ++ (wsL_isHeld_r10 ++ (wsL_isHeld_r11 ++ (wsL_isHeld_r12 ++ (wsL_isHeld_r13 ++ (wsL_isHeld_r14 ++ wsL_isHeld_r15)))))))))))))) ++ wsX40 ++ wsX10 ++ wsX30 ++ wsX20 ++ wsX00 ++ (vx_atS RX4 42 "java/lang/IllegalArgumentException" ["java/lang/RuntimeException", "java/lang/Exception"]).filter goodWord ++ (vx_atS RX4 52 "java/lang/IllegalStateException" ["java/lang/RuntimeException", "java/lang/Exception"]).filter goodWord ++ (vx_atS RX4 201 "java/lang/IndexOutOfBoundsException" ["java/lang/RuntimeException", "java/lang/Exception"]).filter goodWord)
theorem dL_from_0 : decode cL_from 0 = .ok (.aload_n 0, 1) := by decide +kernel
theorem dL_from_1 : decode cL_from 1 = .ok (.arraylength, 1) := by decide +kernel
theorem dL_from_2 : decode cL_from 2 = .ok (.ifCond .ne 15, 3) := by decide +kernel
theorem dL_from_5 : decode cL_from 5 = .ok (.sipush 211, 3) := by decide +kernel
theorem dL_from_8 : decode cL_from 8 = .ok (.iload_n 1, 1) := by decide +kernel
theorem dL_from_9 : decode cL_from 9 = .ok (.imul, 1) := by decide +kernel
theorem dL_from_10 : decode cL_from 10 = .ok (.sipush 181, 3) := by decide +kernel
theorem dL_from_13 : decode cL_from 13 = .ok (.iadd, 1) := by decide +kernel
theorem dL_from_14 : decode cL_from 14 = .ok (.goto 14, 3) := by decide +kernel
theorem dL_from_17 : decode cL_from 17 = .ok (.aload_n 0, 1) := by decide +kernel
theorem dL_from_18 : decode cL_from 18 = .ok (.iload_n 1, 1) := by decide +kernel
theorem dL_from_19 : decode cL_from 19 = .ok (.aload_n 0, 1) := by decide +kernel
theorem dL_from_20 : decode cL_from 20 = .ok (.arraylength, 1) := by decide +kernel
theorem dL_from_21 : decode cL_from 21 = .ok (.irem, 1) := by decide +kernel
theorem dL_from_22 : decode cL_from 22 = .ok (.iaload, 1) := by decide +kernel
theorem dL_from_23 : decode cL_from 23 = .ok (.ldc 7, 2) := by decide +kernel
theorem dL_from_25 : decode cL_from 25 = .ok (.iload_n 1, 1) := by decide +kernel
theorem dL_from_26 : decode cL_from 26 = .ok (.imul, 1) := by decide +kernel
theorem dL_from_27 : decode cL_from 27 = .ok (.ixor, 1) := by decide +kernel
theorem dL_from_28 : decode cL_from 28 = .ok (.istore_n 3, 1) := by decide +kernel
theorem dL_from_29 : decode cL_from 29 = .ok (.iload_n 3, 1) := by decide +kernel
theorem dL_from_30 : decode cL_from 30 = .ok (.ldc 8, 2) := by decide +kernel
theorem dL_from_32 : decode cL_from 32 = .ok (.iand, 1) := by decide +kernel
theorem dL_from_33 : decode cL_from 33 = .ok (.iload_n 2, 1) := by decide +kernel
theorem dL_from_34 : decode cL_from 34 = .ok (.irem, 1) := by decide +kernel
theorem dL_from_35 : decode cL_from 35 = .ok (.ireturn, 1) := by decide +kernel
theorem dL_promised_0 : decode cL_promised 0 = .ok (.iconst 0, 1) := by decide +kernel
theorem dL_promised_1 : decode cL_promised 1 = .ok (.istore_n 2, 1) := by decide +kernel
theorem dL_promised_2 : decode cL_promised 2 = .ok (.iconst 0, 1) := by decide +kernel
theorem dL_promised_3 : decode cL_promised 3 = .ok (.istore_n 3, 1) := by decide +kernel
theorem dL_promised_4 : decode cL_promised 4 = .ok (.iload_n 3, 1) := by decide +kernel
theorem dL_promised_5 : decode cL_promised 5 = .ok (.iconst 3, 1) := by decide +kernel
theorem dL_promised_6 : decode cL_promised 6 = .ok (.if_icmp .ge 181, 3) := by decide +kernel
theorem dL_promised_9 : decode cL_promised 9 = .ok (.iload_n 3, 1) := by decide +kernel
theorem dL_promised_10 : decode cL_promised 10 = .ok (.ifCond .ne 7, 3) := by decide +kernel
theorem dL_promised_13 : decode cL_promised 13 = .ok (.iconst 1, 1) := by decide +kernel
theorem dL_promised_14 : decode cL_promised 14 = .ok (.goto 15, 3) := by decide +kernel
theorem dL_promised_17 : decode cL_promised 17 = .ok (.iload_n 3, 1) := by decide +kernel
theorem dL_promised_18 : decode cL_promised 18 = .ok (.iconst 1, 1) := by decide +kernel
theorem dL_promised_19 : decode cL_promised 19 = .ok (.if_icmp .ne 8, 3) := by decide +kernel
theorem dL_promised_22 : decode cL_promised 22 = .ok (.bipush 7, 2) := by decide +kernel
theorem dL_promised_24 : decode cL_promised 24 = .ok (.goto 5, 3) := by decide +kernel
theorem dL_promised_27 : decode cL_promised 27 = .ok (.bipush 28, 2) := by decide +kernel
theorem dL_promised_29 : decode cL_promised 29 = .ok (.istore 4, 2) := by decide +kernel
theorem dL_promised_31 : decode cL_promised 31 = .ok (.iconst 0, 1) := by decide +kernel
theorem dL_promised_32 : decode cL_promised 32 = .ok (.istore 5, 2) := by decide +kernel
theorem dL_promised_34 : decode cL_promised 34 = .ok (.iload 5, 2) := by decide +kernel
theorem dL_promised_36 : decode cL_promised 36 = .ok (.aload_n 1, 1) := by decide +kernel
theorem dL_promised_37 : decode cL_promised 37 = .ok (.iconst 0, 1) := by decide +kernel
theorem dL_promised_38 : decode cL_promised 38 = .ok (.iaload, 1) := by decide +kernel
theorem dL_promised_39 : decode cL_promised 39 = .ok (.if_icmp .ge 142, 3) := by decide +kernel
theorem dL_promised_42 : decode cL_promised 42 = .ok (.iconst 0, 1) := by decide +kernel
theorem dL_promised_43 : decode cL_promised 43 = .ok (.istore 6, 2) := by decide +kernel
theorem dL_promised_45 : decode cL_promised 45 = .ok (.iconst (-1), 1) := by decide +kernel
theorem dL_promised_46 : decode cL_promised 46 = .ok (.istore 7, 2) := by decide +kernel
theorem dL_promised_48 : decode cL_promised 48 = .ok (.iconst 1, 1) := by decide +kernel
theorem dL_promised_49 : decode cL_promised 49 = .ok (.istore 8, 2) := by decide +kernel
theorem dL_promised_51 : decode cL_promised 51 = .ok (.iload 5, 2) := by decide +kernel
theorem dL_promised_53 : decode cL_promised 53 = .ok (.iconst 1, 1) := by decide +kernel
theorem dL_promised_54 : decode cL_promised 54 = .ok (.iadd, 1) := by decide +kernel
theorem dL_promised_55 : decode cL_promised 55 = .ok (.istore 9, 2) := by decide +kernel
theorem dL_promised_57 : decode cL_promised 57 = .ok (.iload 9, 2) := by decide +kernel
theorem dL_promised_59 : decode cL_promised 59 = .ok (.aload_n 1, 1) := by decide +kernel
theorem dL_promised_60 : decode cL_promised 60 = .ok (.iconst 0, 1) := by decide +kernel
theorem dL_promised_61 : decode cL_promised 61 = .ok (.iaload, 1) := by decide +kernel
theorem dL_promised_62 : decode cL_promised 62 = .ok (.if_icmp .ge 75, 3) := by decide +kernel
theorem dL_promised_65 : decode cL_promised 65 = .ok (.aload_n 1, 1) := by decide +kernel
theorem dL_promised_66 : decode cL_promised 66 = .ok (.iconst 2, 1) := by decide +kernel
theorem dL_promised_67 : decode cL_promised 67 = .ok (.iaload, 1) := by decide +kernel
theorem dL_promised_68 : decode cL_promised 68 = .ok (.iload 9, 2) := by decide +kernel
theorem dL_promised_70 : decode cL_promised 70 = .ok (.ishr, 1) := by decide +kernel
theorem dL_promised_71 : decode cL_promised 71 = .ok (.iconst 1, 1) := by decide +kernel
theorem dL_promised_72 : decode cL_promised 72 = .ok (.iand, 1) := by decide +kernel
theorem dL_promised_73 : decode cL_promised 73 = .ok (.iconst 1, 1) := by decide +kernel
theorem dL_promised_74 : decode cL_promised 74 = .ok (.if_icmp .ne 57, 3) := by decide +kernel
theorem dL_promised_77 : decode cL_promised 77 = .ok (.aload_n 0, 1) := by decide +kernel
theorem dL_promised_78 : decode cL_promised 78 = .ok (.iload 9, 2) := by decide +kernel
theorem dL_promised_80 : decode cL_promised 80 = .ok (.iaload, 1) := by decide +kernel
theorem dL_promised_81 : decode cL_promised 81 = .ok (.iload 4, 2) := by decide +kernel
theorem dL_promised_83 : decode cL_promised 83 = .ok (.idiv, 1) := by decide +kernel
theorem dL_promised_84 : decode cL_promised 84 = .ok (.istore 10, 2) := by decide +kernel
theorem dL_promised_86 : decode cL_promised 86 = .ok (.iload 8, 2) := by decide +kernel
theorem dL_promised_88 : decode cL_promised 88 = .ok (.ifCond .eq 19, 3) := by decide +kernel
theorem dL_promised_91 : decode cL_promised 91 = .ok (.iload 10, 2) := by decide +kernel
theorem dL_promised_93 : decode cL_promised 93 = .ok (.aload_n 0, 1) := by decide +kernel
theorem dL_promised_94 : decode cL_promised 94 = .ok (.iload 5, 2) := by decide +kernel
theorem dL_promised_96 : decode cL_promised 96 = .ok (.iaload, 1) := by decide +kernel
theorem dL_promised_97 : decode cL_promised 97 = .ok (.iload 4, 2) := by decide +kernel
theorem dL_promised_99 : decode cL_promised 99 = .ok (.idiv, 1) := by decide +kernel
theorem dL_promised_100 : decode cL_promised 100 = .ok (.if_icmp .eq 7, 3) := by decide +kernel
theorem dL_promised_103 : decode cL_promised 103 = .ok (.iconst 1, 1) := by decide +kernel
theorem dL_promised_104 : decode cL_promised 104 = .ok (.goto 4, 3) := by decide +kernel
theorem dL_promised_107 : decode cL_promised 107 = .ok (.iconst 0, 1) := by decide +kernel
theorem dL_promised_108 : decode cL_promised 108 = .ok (.istore 8, 2) := by decide +kernel
theorem dL_promised_110 : decode cL_promised 110 = .ok (.iload 6, 2) := by decide +kernel
theorem dL_promised_112 : decode cL_promised 112 = .ok (.iload 10, 2) := by decide +kernel
theorem dL_promised_114 : decode cL_promised 114 = .ok (.iload 7, 2) := by decide +kernel
theorem dL_promised_116 : decode cL_promised 116 = .ok (.if_icmp .eq 7, 3) := by decide +kernel
theorem dL_promised_119 : decode cL_promised 119 = .ok (.iconst 1, 1) := by decide +kernel
theorem dL_promised_120 : decode cL_promised 120 = .ok (.goto 4, 3) := by decide +kernel
theorem dL_promised_123 : decode cL_promised 123 = .ok (.iconst 0, 1) := by decide +kernel
theorem dL_promised_124 : decode cL_promised 124 = .ok (.iadd, 1) := by decide +kernel
theorem dL_promised_125 : decode cL_promised 125 = .ok (.istore 6, 2) := by decide +kernel
theorem dL_promised_127 : decode cL_promised 127 = .ok (.iload 10, 2) := by decide +kernel
theorem dL_promised_129 : decode cL_promised 129 = .ok (.istore 7, 2) := by decide +kernel
theorem dL_promised_131 : decode cL_promised 131 = .ok (.iinc 9 1, 3) := by decide +kernel
theorem dL_promised_134 : decode cL_promised 134 = .ok (.goto (-77), 3) := by decide +kernel
theorem dL_promised_137 : decode cL_promised 137 = .ok (.iload_n 2, 1) := by decide +kernel
theorem dL_promised_138 : decode cL_promised 138 = .ok (.aload_n 1, 1) := by decide +kernel
theorem dL_promised_139 : decode cL_promised 139 = .ok (.iconst 2, 1) := by decide +kernel
theorem dL_promised_140 : decode cL_promised 140 = .ok (.iaload, 1) := by decide +kernel
theorem dL_promised_141 : decode cL_promised 141 = .ok (.iload 5, 2) := by decide +kernel
theorem dL_promised_143 : decode cL_promised 143 = .ok (.ishr, 1) := by decide +kernel
theorem dL_promised_144 : decode cL_promised 144 = .ok (.iconst 1, 1) := by decide +kernel
theorem dL_promised_145 : decode cL_promised 145 = .ok (.iand, 1) := by decide +kernel
theorem dL_promised_146 : decode cL_promised 146 = .ok (.iconst 1, 1) := by decide +kernel
theorem dL_promised_147 : decode cL_promised 147 = .ok (.if_icmp .ne 25, 3) := by decide +kernel
theorem dL_promised_150 : decode cL_promised 150 = .ok (.iload 8, 2) := by decide +kernel
theorem dL_promised_152 : decode cL_promised 152 = .ok (.ifCond .eq 20, 3) := by decide +kernel
theorem dL_promised_155 : decode cL_promised 155 = .ok (.iload 6, 2) := by decide +kernel
theorem dL_promised_157 : decode cL_promised 157 = .ok (.aload_n 1, 1) := by decide +kernel
theorem dL_promised_158 : decode cL_promised 158 = .ok (.iconst 5, 1) := by decide +kernel
theorem dL_promised_159 : decode cL_promised 159 = .ok (.iload_n 3, 1) := by decide +kernel
theorem dL_promised_160 : decode cL_promised 160 = .ok (.iadd, 1) := by decide +kernel
theorem dL_promised_161 : decode cL_promised 161 = .ok (.iaload, 1) := by decide +kernel
theorem dL_promised_162 : decode cL_promised 162 = .ok (.if_icmp .ge 10, 3) := by decide +kernel
theorem dL_promised_165 : decode cL_promised 165 = .ok (.iconst 1, 1) := by decide +kernel
theorem dL_promised_166 : decode cL_promised 166 = .ok (.iload 5, 2) := by decide +kernel
theorem dL_promised_168 : decode cL_promised 168 = .ok (.ishl, 1) := by decide +kernel
theorem dL_promised_169 : decode cL_promised 169 = .ok (.goto 4, 3) := by decide +kernel
theorem dL_promised_172 : decode cL_promised 172 = .ok (.iconst 0, 1) := by decide +kernel
theorem dL_promised_173 : decode cL_promised 173 = .ok (.ior, 1) := by decide +kernel
theorem dL_promised_174 : decode cL_promised 174 = .ok (.istore_n 2, 1) := by decide +kernel
theorem dL_promised_175 : decode cL_promised 175 = .ok (.iinc 5 1, 3) := by decide +kernel
theorem dL_promised_178 : decode cL_promised 178 = .ok (.goto (-144), 3) := by decide +kernel
theorem dL_promised_181 : decode cL_promised 181 = .ok (.iinc 3 1, 3) := by decide +kernel
theorem dL_promised_184 : decode cL_promised 184 = .ok (.goto (-180), 3) := by decide +kernel
theorem dL_promised_187 : decode cL_promised 187 = .ok (.iload_n 2, 1) := by decide +kernel
theorem dL_promised_188 : decode cL_promised 188 = .ok (.ireturn, 1) := by decide +kernel
theorem dL_chain_0 : decode cL_chain 0 = .ok (.iconst 0, 1) := by decide +kernel
theorem dL_chain_1 : decode cL_chain 1 = .ok (.istore_n 2, 1) := by decide +kernel
theorem dL_chain_2 : decode cL_chain 2 = .ok (.iload_n 1, 1) := by decide +kernel
theorem dL_chain_3 : decode cL_chain 3 = .ok (.istore_n 3, 1) := by decide +kernel
theorem dL_chain_4 : decode cL_chain 4 = .ok (.iload_n 3, 1) := by decide +kernel
theorem dL_chain_5 : decode cL_chain 5 = .ok (.ifCond .lt 19, 3) := by decide +kernel
theorem dL_chain_8 : decode cL_chain 8 = .ok (.iload_n 2, 1) := by decide +kernel
theorem dL_chain_9 : decode cL_chain 9 = .ok (.iconst 1, 1) := by decide +kernel
theorem dL_chain_10 : decode cL_chain 10 = .ok (.iload_n 3, 1) := by decide +kernel
theorem dL_chain_11 : decode cL_chain 11 = .ok (.ishl, 1) := by decide +kernel
theorem dL_chain_12 : decode cL_chain 12 = .ok (.ior, 1) := by decide +kernel
theorem dL_chain_13 : decode cL_chain 13 = .ok (.istore_n 2, 1) := by decide +kernel
theorem dL_chain_14 : decode cL_chain 14 = .ok (.aload_n 0, 1) := by decide +kernel
theorem dL_chain_15 : decode cL_chain 15 = .ok (.bipush 14, 2) := by decide +kernel
theorem dL_chain_17 : decode cL_chain 17 = .ok (.iload_n 3, 1) := by decide +kernel
theorem dL_chain_18 : decode cL_chain 18 = .ok (.iadd, 1) := by decide +kernel
theorem dL_chain_19 : decode cL_chain 19 = .ok (.iaload, 1) := by decide +kernel
theorem dL_chain_20 : decode cL_chain 20 = .ok (.istore_n 3, 1) := by decide +kernel
theorem dL_chain_21 : decode cL_chain 21 = .ok (.goto (-17), 3) := by decide +kernel
theorem dL_chain_24 : decode cL_chain 24 = .ok (.iload_n 2, 1) := by decide +kernel
theorem dL_chain_25 : decode cL_chain 25 = .ok (.ireturn, 1) := by decide +kernel
set_option maxRecDepth 20000 in
theorem ggL_needed_L_promised : GoodIn wsL_needed wsL_promised := goodIn_r _ [4] (by decide +kernel) (by decide +kernel)
set_option maxRecDepth 20000 in
theorem gL_needed_L_promised : GoodIn wsL_needed (va_wsS RL 9 yL_promised wsL_promised) := goodIn_app (goodIn_of _ (by decide +kernel)) ggL_needed_L_promised
set_option maxRecDepth 20000 in
theorem ggL_needed_L_chain : GoodIn wsL_needed wsL_chain := goodIn_r _ [7] (by decide +kernel) (by decide +kernel)
set_option maxRecDepth 20000 in
theorem gL_needed_L_chain : GoodIn wsL_needed (va_wsS RL 15 yL_chain wsL_chain) := goodIn_app (goodIn_of _ (by decide +kernel)) ggL_needed_L_chain
theorem dL_needed_0 : decode cL_needed 0 = .ok (.aload_n 0, 1) := by decide +kernel
theorem dL_needed_1 : decode cL_needed 1 = .ok (.aload_n 1, 1) := by decide +kernel
theorem dL_needed_2 : decode cL_needed 2 = .ok (.invokestatic 9, 3) := by decide +kernel
theorem dL_needed_5 : decode cL_needed 5 = .ok (.istore_n 2, 1) := by decide +kernel
theorem dL_needed_6 : decode cL_needed 6 = .ok (.iconst 0, 1) := by decide +kernel
theorem dL_needed_7 : decode cL_needed 7 = .ok (.istore_n 3, 1) := by decide +kernel
theorem dL_needed_8 : decode cL_needed 8 = .ok (.iconst 0, 1) := by decide +kernel
theorem dL_needed_9 : decode cL_needed 9 = .ok (.istore 4, 2) := by decide +kernel
theorem dL_needed_11 : decode cL_needed 11 = .ok (.iload 4, 2) := by decide +kernel
theorem dL_needed_13 : decode cL_needed 13 = .ok (.aload_n 1, 1) := by decide +kernel
theorem dL_needed_14 : decode cL_needed 14 = .ok (.iconst 0, 1) := by decide +kernel
theorem dL_needed_15 : decode cL_needed 15 = .ok (.iaload, 1) := by decide +kernel
theorem dL_needed_16 : decode cL_needed 16 = .ok (.if_icmp .ge 32, 3) := by decide +kernel
theorem dL_needed_19 : decode cL_needed 19 = .ok (.iload_n 3, 1) := by decide +kernel
theorem dL_needed_20 : decode cL_needed 20 = .ok (.iload_n 2, 1) := by decide +kernel
theorem dL_needed_21 : decode cL_needed 21 = .ok (.iload 4, 2) := by decide +kernel
theorem dL_needed_23 : decode cL_needed 23 = .ok (.ishr, 1) := by decide +kernel
theorem dL_needed_24 : decode cL_needed 24 = .ok (.iconst 1, 1) := by decide +kernel
theorem dL_needed_25 : decode cL_needed 25 = .ok (.iand, 1) := by decide +kernel
theorem dL_needed_26 : decode cL_needed 26 = .ok (.iconst 1, 1) := by decide +kernel
theorem dL_needed_27 : decode cL_needed 27 = .ok (.if_icmp .ne 12, 3) := by decide +kernel
theorem dL_needed_30 : decode cL_needed 30 = .ok (.aload_n 0, 1) := by decide +kernel
theorem dL_needed_31 : decode cL_needed 31 = .ok (.iload 4, 2) := by decide +kernel
theorem dL_needed_33 : decode cL_needed 33 = .ok (.invokestatic 15, 3) := by decide +kernel
theorem dL_needed_36 : decode cL_needed 36 = .ok (.goto 4, 3) := by decide +kernel
theorem dL_needed_39 : decode cL_needed 39 = .ok (.iconst 0, 1) := by decide +kernel
theorem dL_needed_40 : decode cL_needed 40 = .ok (.ior, 1) := by decide +kernel
theorem dL_needed_41 : decode cL_needed 41 = .ok (.istore_n 3, 1) := by decide +kernel
theorem dL_needed_42 : decode cL_needed 42 = .ok (.iinc 4 1, 3) := by decide +kernel
theorem dL_needed_45 : decode cL_needed 45 = .ok (.goto (-34), 3) := by decide +kernel
theorem dL_needed_48 : decode cL_needed 48 = .ok (.iload_n 3, 1) := by decide +kernel
theorem dL_needed_49 : decode cL_needed 49 = .ok (.ireturn, 1) := by decide +kernel
theorem dL_ones_0 : decode cL_ones 0 = .ok (.iconst 0, 1) := by decide +kernel
theorem dL_ones_1 : decode cL_ones 1 = .ok (.istore_n 1, 1) := by decide +kernel
theorem dL_ones_2 : decode cL_ones 2 = .ok (.iload_n 0, 1) := by decide +kernel
theorem dL_ones_3 : decode cL_ones 3 = .ok (.istore_n 2, 1) := by decide +kernel
theorem dL_ones_4 : decode cL_ones 4 = .ok (.iload_n 2, 1) := by decide +kernel
theorem dL_ones_5 : decode cL_ones 5 = .ok (.ifCond .eq 15, 3) := by decide +kernel
theorem dL_ones_8 : decode cL_ones 8 = .ok (.iinc 1 1, 3) := by decide +kernel
theorem dL_ones_11 : decode cL_ones 11 = .ok (.iload_n 2, 1) := by decide +kernel
theorem dL_ones_12 : decode cL_ones 12 = .ok (.iload_n 2, 1) := by decide +kernel
theorem dL_ones_13 : decode cL_ones 13 = .ok (.iconst 1, 1) := by decide +kernel
theorem dL_ones_14 : decode cL_ones 14 = .ok (.isub, 1) := by decide +kernel
theorem dL_ones_15 : decode cL_ones 15 = .ok (.iand, 1) := by decide +kernel
theorem dL_ones_16 : decode cL_ones 16 = .ok (.istore_n 2, 1) := by decide +kernel
theorem dL_ones_17 : decode cL_ones 17 = .ok (.goto (-13), 3) := by decide +kernel
theorem dL_ones_20 : decode cL_ones 20 = .ok (.iload_n 1, 1) := by decide +kernel
theorem dL_ones_21 : decode cL_ones 21 = .ok (.ireturn, 1) := by decide +kernel
set_option maxRecDepth 20000 in
theorem ggL_thin_L_needed : GoodIn wsL_thin wsL_needed := goodIn_r _ [4, 5, 6, 3, 7, 8, 9, 10] (by decide +kernel) (by decide +kernel)
set_option maxRecDepth 20000 in
theorem gL_thin_L_needed : GoodIn wsL_thin (va_wsS RL 19 yL_needed wsL_needed) := goodIn_app (goodIn_of _ (by decide +kernel)) ggL_thin_L_needed
set_option maxRecDepth 20000 in
theorem ggL_thin_L_chain : GoodIn wsL_thin wsL_chain := goodIn_r _ [10] (by decide +kernel) (by decide +kernel)
set_option maxRecDepth 20000 in
theorem gL_thin_L_chain : GoodIn wsL_thin (va_wsS RL 15 yL_chain wsL_chain) := goodIn_app (goodIn_of _ (by decide +kernel)) ggL_thin_L_chain
theorem dL_thin_0 : decode cL_thin 0 = .ok (.iconst (-1), 1) := by decide +kernel
theorem dL_thin_1 : decode cL_thin 1 = .ok (.istore_n 2, 1) := by decide +kernel
theorem dL_thin_2 : decode cL_thin 2 = .ok (.iconst 0, 1) := by decide +kernel
theorem dL_thin_3 : decode cL_thin 3 = .ok (.istore_n 3, 1) := by decide +kernel
theorem dL_thin_4 : decode cL_thin 4 = .ok (.aload_n 0, 1) := by decide +kernel
theorem dL_thin_5 : decode cL_thin 5 = .ok (.aload_n 1, 1) := by decide +kernel
theorem dL_thin_6 : decode cL_thin 6 = .ok (.invokestatic 19, 3) := by decide +kernel
theorem dL_thin_9 : decode cL_thin 9 = .ok (.istore 4, 2) := by decide +kernel
theorem dL_thin_11 : decode cL_thin 11 = .ok (.iconst 0, 1) := by decide +kernel
theorem dL_thin_12 : decode cL_thin 12 = .ok (.istore 5, 2) := by decide +kernel
theorem dL_thin_14 : decode cL_thin 14 = .ok (.iload 5, 2) := by decide +kernel
theorem dL_thin_16 : decode cL_thin 16 = .ok (.aload_n 1, 1) := by decide +kernel
theorem dL_thin_17 : decode cL_thin 17 = .ok (.iconst 0, 1) := by decide +kernel
theorem dL_thin_18 : decode cL_thin 18 = .ok (.iaload, 1) := by decide +kernel
theorem dL_thin_19 : decode cL_thin 19 = .ok (.if_icmp .ge 37, 3) := by decide +kernel
theorem dL_thin_22 : decode cL_thin 22 = .ok (.aload_n 1, 1) := by decide +kernel
theorem dL_thin_23 : decode cL_thin 23 = .ok (.iconst 2, 1) := by decide +kernel
theorem dL_thin_24 : decode cL_thin 24 = .ok (.iaload, 1) := by decide +kernel
theorem dL_thin_25 : decode cL_thin 25 = .ok (.iload 5, 2) := by decide +kernel
theorem dL_thin_27 : decode cL_thin 27 = .ok (.ishr, 1) := by decide +kernel
theorem dL_thin_28 : decode cL_thin 28 = .ok (.aload_n 1, 1) := by decide +kernel
theorem dL_thin_29 : decode cL_thin 29 = .ok (.iconst 4, 1) := by decide +kernel
theorem dL_thin_30 : decode cL_thin 30 = .ok (.iaload, 1) := by decide +kernel
theorem dL_thin_31 : decode cL_thin 31 = .ok (.iload 5, 2) := by decide +kernel
theorem dL_thin_33 : decode cL_thin 33 = .ok (.ishr, 1) := by decide +kernel
theorem dL_thin_34 : decode cL_thin 34 = .ok (.iand, 1) := by decide +kernel
theorem dL_thin_35 : decode cL_thin 35 = .ok (.iconst 1, 1) := by decide +kernel
theorem dL_thin_36 : decode cL_thin 36 = .ok (.iand, 1) := by decide +kernel
theorem dL_thin_37 : decode cL_thin 37 = .ok (.iconst 1, 1) := by decide +kernel
theorem dL_thin_38 : decode cL_thin 38 = .ok (.if_icmp .ne 10, 3) := by decide +kernel
theorem dL_thin_41 : decode cL_thin 41 = .ok (.aload_n 0, 1) := by decide +kernel
theorem dL_thin_42 : decode cL_thin 42 = .ok (.iload 5, 2) := by decide +kernel
theorem dL_thin_44 : decode cL_thin 44 = .ok (.iaload, 1) := by decide +kernel
theorem dL_thin_45 : decode cL_thin 45 = .ok (.goto 4, 3) := by decide +kernel
theorem dL_thin_48 : decode cL_thin 48 = .ok (.iload_n 2, 1) := by decide +kernel
theorem dL_thin_49 : decode cL_thin 49 = .ok (.istore_n 2, 1) := by decide +kernel
theorem dL_thin_50 : decode cL_thin 50 = .ok (.iinc 5 1, 3) := by decide +kernel
theorem dL_thin_53 : decode cL_thin 53 = .ok (.goto (-39), 3) := by decide +kernel
theorem dL_thin_56 : decode cL_thin 56 = .ok (.iconst 0, 1) := by decide +kernel
theorem dL_thin_57 : decode cL_thin 57 = .ok (.istore 5, 2) := by decide +kernel
theorem dL_thin_59 : decode cL_thin 59 = .ok (.iload 5, 2) := by decide +kernel
theorem dL_thin_61 : decode cL_thin 61 = .ok (.aload_n 1, 1) := by decide +kernel
theorem dL_thin_62 : decode cL_thin 62 = .ok (.iconst 0, 1) := by decide +kernel
theorem dL_thin_63 : decode cL_thin 63 = .ok (.iaload, 1) := by decide +kernel
theorem dL_thin_64 : decode cL_thin 64 = .ok (.if_icmp .ge 76, 3) := by decide +kernel
theorem dL_thin_67 : decode cL_thin 67 = .ok (.aload_n 1, 1) := by decide +kernel
theorem dL_thin_68 : decode cL_thin 68 = .ok (.iconst 2, 1) := by decide +kernel
theorem dL_thin_69 : decode cL_thin 69 = .ok (.iaload, 1) := by decide +kernel
theorem dL_thin_70 : decode cL_thin 70 = .ok (.iload 5, 2) := by decide +kernel
theorem dL_thin_72 : decode cL_thin 72 = .ok (.ishr, 1) := by decide +kernel
theorem dL_thin_73 : decode cL_thin 73 = .ok (.iconst 1, 1) := by decide +kernel
theorem dL_thin_74 : decode cL_thin 74 = .ok (.iand, 1) := by decide +kernel
theorem dL_thin_75 : decode cL_thin 75 = .ok (.iconst 1, 1) := by decide +kernel
theorem dL_thin_76 : decode cL_thin 76 = .ok (.if_icmp .ne 25, 3) := by decide +kernel
theorem dL_thin_79 : decode cL_thin 79 = .ok (.iload 4, 2) := by decide +kernel
theorem dL_thin_81 : decode cL_thin 81 = .ok (.iload 5, 2) := by decide +kernel
theorem dL_thin_83 : decode cL_thin 83 = .ok (.ishr, 1) := by decide +kernel
theorem dL_thin_84 : decode cL_thin 84 = .ok (.iconst 1, 1) := by decide +kernel
theorem dL_thin_85 : decode cL_thin 85 = .ok (.iand, 1) := by decide +kernel
theorem dL_thin_86 : decode cL_thin 86 = .ok (.ifCond .ne 15, 3) := by decide +kernel
theorem dL_thin_89 : decode cL_thin 89 = .ok (.aload_n 0, 1) := by decide +kernel
theorem dL_thin_90 : decode cL_thin 90 = .ok (.iload 5, 2) := by decide +kernel
theorem dL_thin_92 : decode cL_thin 92 = .ok (.iaload, 1) := by decide +kernel
theorem dL_thin_93 : decode cL_thin 93 = .ok (.iload_n 2, 1) := by decide +kernel
theorem dL_thin_94 : decode cL_thin 94 = .ok (.if_icmp .ge 7, 3) := by decide +kernel
theorem dL_thin_97 : decode cL_thin 97 = .ok (.iconst 1, 1) := by decide +kernel
theorem dL_thin_98 : decode cL_thin 98 = .ok (.goto 4, 3) := by decide +kernel
theorem dL_thin_101 : decode cL_thin 101 = .ok (.iconst 0, 1) := by decide +kernel
theorem dL_thin_102 : decode cL_thin 102 = .ok (.istore 6, 2) := by decide +kernel
theorem dL_thin_104 : decode cL_thin 104 = .ok (.iload 4, 2) := by decide +kernel
theorem dL_thin_106 : decode cL_thin 106 = .ok (.aload_n 1, 1) := by decide +kernel
theorem dL_thin_107 : decode cL_thin 107 = .ok (.iconst 2, 1) := by decide +kernel
theorem dL_thin_108 : decode cL_thin 108 = .ok (.iaload, 1) := by decide +kernel
theorem dL_thin_109 : decode cL_thin 109 = .ok (.iload 5, 2) := by decide +kernel
theorem dL_thin_111 : decode cL_thin 111 = .ok (.ishr, 1) := by decide +kernel
theorem dL_thin_112 : decode cL_thin 112 = .ok (.iconst 1, 1) := by decide +kernel
theorem dL_thin_113 : decode cL_thin 113 = .ok (.iand, 1) := by decide +kernel
theorem dL_thin_114 : decode cL_thin 114 = .ok (.iconst 1, 1) := by decide +kernel
theorem dL_thin_115 : decode cL_thin 115 = .ok (.if_icmp .ne 15, 3) := by decide +kernel
theorem dL_thin_118 : decode cL_thin 118 = .ok (.iload 6, 2) := by decide +kernel
theorem dL_thin_120 : decode cL_thin 120 = .ok (.ifCond .ne 10, 3) := by decide +kernel
theorem dL_thin_123 : decode cL_thin 123 = .ok (.iconst 1, 1) := by decide +kernel
theorem dL_thin_124 : decode cL_thin 124 = .ok (.iload 5, 2) := by decide +kernel
theorem dL_thin_126 : decode cL_thin 126 = .ok (.ishl, 1) := by decide +kernel
theorem dL_thin_127 : decode cL_thin 127 = .ok (.goto 4, 3) := by decide +kernel
theorem dL_thin_130 : decode cL_thin 130 = .ok (.iconst 0, 1) := by decide +kernel
theorem dL_thin_131 : decode cL_thin 131 = .ok (.ior, 1) := by decide +kernel
theorem dL_thin_132 : decode cL_thin 132 = .ok (.istore 4, 2) := by decide +kernel
theorem dL_thin_134 : decode cL_thin 134 = .ok (.iinc 5 1, 3) := by decide +kernel
theorem dL_thin_137 : decode cL_thin 137 = .ok (.goto (-78), 3) := by decide +kernel
theorem dL_thin_140 : decode cL_thin 140 = .ok (.iconst 0, 1) := by decide +kernel
theorem dL_thin_141 : decode cL_thin 141 = .ok (.istore 5, 2) := by decide +kernel
theorem dL_thin_143 : decode cL_thin 143 = .ok (.iconst 0, 1) := by decide +kernel
theorem dL_thin_144 : decode cL_thin 144 = .ok (.istore 6, 2) := by decide +kernel
theorem dL_thin_146 : decode cL_thin 146 = .ok (.iload 6, 2) := by decide +kernel
theorem dL_thin_148 : decode cL_thin 148 = .ok (.aload_n 1, 1) := by decide +kernel
theorem dL_thin_149 : decode cL_thin 149 = .ok (.iconst 0, 1) := by decide +kernel
theorem dL_thin_150 : decode cL_thin 150 = .ok (.iaload, 1) := by decide +kernel
theorem dL_thin_151 : decode cL_thin 151 = .ok (.if_icmp .ge 35, 3) := by decide +kernel
theorem dL_thin_154 : decode cL_thin 154 = .ok (.iload 5, 2) := by decide +kernel
theorem dL_thin_156 : decode cL_thin 156 = .ok (.iload 4, 2) := by decide +kernel
theorem dL_thin_158 : decode cL_thin 158 = .ok (.iload 6, 2) := by decide +kernel
theorem dL_thin_160 : decode cL_thin 160 = .ok (.ishr, 1) := by decide +kernel
theorem dL_thin_161 : decode cL_thin 161 = .ok (.iconst 1, 1) := by decide +kernel
theorem dL_thin_162 : decode cL_thin 162 = .ok (.iand, 1) := by decide +kernel
theorem dL_thin_163 : decode cL_thin 163 = .ok (.iconst 1, 1) := by decide +kernel
theorem dL_thin_164 : decode cL_thin 164 = .ok (.if_icmp .ne 12, 3) := by decide +kernel
theorem dL_thin_167 : decode cL_thin 167 = .ok (.aload_n 0, 1) := by decide +kernel
theorem dL_thin_168 : decode cL_thin 168 = .ok (.iload 6, 2) := by decide +kernel
theorem dL_thin_170 : decode cL_thin 170 = .ok (.invokestatic 15, 3) := by decide +kernel
theorem dL_thin_173 : decode cL_thin 173 = .ok (.goto 4, 3) := by decide +kernel
theorem dL_thin_176 : decode cL_thin 176 = .ok (.iconst 0, 1) := by decide +kernel
theorem dL_thin_177 : decode cL_thin 177 = .ok (.ior, 1) := by decide +kernel
theorem dL_thin_178 : decode cL_thin 178 = .ok (.istore 5, 2) := by decide +kernel
theorem dL_thin_180 : decode cL_thin 180 = .ok (.iinc 6 1, 3) := by decide +kernel
theorem dL_thin_183 : decode cL_thin 183 = .ok (.goto (-37), 3) := by decide +kernel
theorem dL_thin_186 : decode cL_thin 186 = .ok (.iconst 0, 1) := by decide +kernel
theorem dL_thin_187 : decode cL_thin 187 = .ok (.istore 6, 2) := by decide +kernel
theorem dL_thin_189 : decode cL_thin 189 = .ok (.iload 6, 2) := by decide +kernel
theorem dL_thin_191 : decode cL_thin 191 = .ok (.aload_n 1, 1) := by decide +kernel
theorem dL_thin_192 : decode cL_thin 192 = .ok (.iconst 0, 1) := by decide +kernel
theorem dL_thin_193 : decode cL_thin 193 = .ok (.iaload, 1) := by decide +kernel
theorem dL_thin_194 : decode cL_thin 194 = .ok (.if_icmp .ge 47, 3) := by decide +kernel
theorem dL_thin_197 : decode cL_thin 197 = .ok (.iload_n 3, 1) := by decide +kernel
theorem dL_thin_198 : decode cL_thin 198 = .ok (.aload_n 1, 1) := by decide +kernel
theorem dL_thin_199 : decode cL_thin 199 = .ok (.iconst 2, 1) := by decide +kernel
theorem dL_thin_200 : decode cL_thin 200 = .ok (.iaload, 1) := by decide +kernel
theorem dL_thin_201 : decode cL_thin 201 = .ok (.iload 6, 2) := by decide +kernel
theorem dL_thin_203 : decode cL_thin 203 = .ok (.ishr, 1) := by decide +kernel
theorem dL_thin_204 : decode cL_thin 204 = .ok (.iconst 1, 1) := by decide +kernel
theorem dL_thin_205 : decode cL_thin 205 = .ok (.iand, 1) := by decide +kernel
theorem dL_thin_206 : decode cL_thin 206 = .ok (.iconst 1, 1) := by decide +kernel
theorem dL_thin_207 : decode cL_thin 207 = .ok (.if_icmp .ne 25, 3) := by decide +kernel
theorem dL_thin_210 : decode cL_thin 210 = .ok (.iload 5, 2) := by decide +kernel
theorem dL_thin_212 : decode cL_thin 212 = .ok (.iload 6, 2) := by decide +kernel
theorem dL_thin_214 : decode cL_thin 214 = .ok (.ishr, 1) := by decide +kernel
theorem dL_thin_215 : decode cL_thin 215 = .ok (.iconst 1, 1) := by decide +kernel
theorem dL_thin_216 : decode cL_thin 216 = .ok (.iand, 1) := by decide +kernel
theorem dL_thin_217 : decode cL_thin 217 = .ok (.ifCond .ne 15, 3) := by decide +kernel
theorem dL_thin_220 : decode cL_thin 220 = .ok (.aload_n 0, 1) := by decide +kernel
theorem dL_thin_221 : decode cL_thin 221 = .ok (.bipush 28, 2) := by decide +kernel
theorem dL_thin_223 : decode cL_thin 223 = .ok (.iload 6, 2) := by decide +kernel
theorem dL_thin_225 : decode cL_thin 225 = .ok (.iadd, 1) := by decide +kernel
theorem dL_thin_226 : decode cL_thin 226 = .ok (.iaload, 1) := by decide +kernel
theorem dL_thin_227 : decode cL_thin 227 = .ok (.iconst 1, 1) := by decide +kernel
theorem dL_thin_228 : decode cL_thin 228 = .ok (.iadd, 1) := by decide +kernel
theorem dL_thin_229 : decode cL_thin 229 = .ok (.goto 4, 3) := by decide +kernel
theorem dL_thin_232 : decode cL_thin 232 = .ok (.iconst 0, 1) := by decide +kernel
theorem dL_thin_233 : decode cL_thin 233 = .ok (.iadd, 1) := by decide +kernel
theorem dL_thin_234 : decode cL_thin 234 = .ok (.istore_n 3, 1) := by decide +kernel
theorem dL_thin_235 : decode cL_thin 235 = .ok (.iinc 6 1, 3) := by decide +kernel
theorem dL_thin_238 : decode cL_thin 238 = .ok (.goto (-49), 3) := by decide +kernel
theorem dL_thin_241 : decode cL_thin 241 = .ok (.aload_n 1, 1) := by decide +kernel
theorem dL_thin_242 : decode cL_thin 242 = .ok (.iconst 2, 1) := by decide +kernel
theorem dL_thin_243 : decode cL_thin 243 = .ok (.dup2, 1) := by decide +kernel
theorem dL_thin_244 : decode cL_thin 244 = .ok (.iaload, 1) := by decide +kernel
theorem dL_thin_245 : decode cL_thin 245 = .ok (.iload 5, 2) := by decide +kernel
theorem dL_thin_247 : decode cL_thin 247 = .ok (.iand, 1) := by decide +kernel
theorem dL_thin_248 : decode cL_thin 248 = .ok (.iastore, 1) := by decide +kernel
theorem dL_thin_249 : decode cL_thin 249 = .ok (.iload_n 3, 1) := by decide +kernel
theorem dL_thin_250 : decode cL_thin 250 = .ok (.ireturn, 1) := by decide +kernel
set_option maxRecDepth 20000 in
theorem ggL_based_X4_baseOf : GoodIn wsL_based wsX4_baseOf := goodIn_ca (goodIn_r _ [7, 8, 9, 10, 6, 11, 12, 13, 14, 15, 16, 17, 18, 19, 20, 29, 30, 31, 32, 33, 34, 35, 36, 37, 38, 39, 40, 41, 42, 43, 44, 45, 46, 47, 48] (by decide +kernel) (by decide +kernel)) (goodIn_sub (fun _ h => List.mem_cons_of_mem _ (List.mem_append_right _ h)) (by decide +kernel))
set_option maxRecDepth 20000 in
theorem gL_based_X4_baseOf : GoodIn wsL_based (wsV RL 22 RX4 yX4_baseOf wsX4_baseOf) := goodIn_app (goodIn_of _ (by decide +kernel)) ggL_based_X4_baseOf
set_option maxRecDepth 20000 in
theorem ggL_based_X4_dayOf : GoodIn wsL_based wsX4_dayOf := goodIn_ca (goodIn_r _ [24, 8, 9, 10, 6, 11, 12, 13, 14, 15, 16, 17, 18, 19, 20, 29, 30, 31, 32, 33, 34, 35, 36, 37, 38, 39, 40, 41, 42, 43, 44, 45, 46, 47, 48] (by decide +kernel) (by decide +kernel)) (goodIn_sub (fun _ h => List.mem_cons_of_mem _ (List.mem_append_right _ h)) (by decide +kernel))
set_option maxRecDepth 20000 in
theorem gL_based_X4_dayOf : GoodIn wsL_based (wsV RL 28 RX4 yX4_dayOf wsX4_dayOf) := goodIn_app (goodIn_of _ (by decide +kernel)) ggL_based_X4_dayOf
set_option maxRecDepth 20000 in
theorem ggL_based_X4_keeps : GoodIn wsL_based wsX4_keeps := goodIn_ca (goodIn_r _ [28, 8, 9, 10, 6, 11, 12, 13, 14, 15, 16, 17, 18, 19, 20, 29, 30, 31, 32, 33, 34, 35, 36, 37, 38, 39, 40, 41, 42, 43, 44, 45, 46, 47, 48] (by decide +kernel) (by decide +kernel)) (goodIn_sub (fun _ h => List.mem_cons_of_mem _ (List.mem_append_right _ h)) (by decide +kernel))
set_option maxRecDepth 20000 in
theorem gL_based_X4_keeps : GoodIn wsL_based (wsV RL 32 RX4 yX4_keeps wsX4_keeps) := goodIn_app (goodIn_of _ (by decide +kernel)) ggL_based_X4_keeps
theorem dL_based_0 : decode cL_based 0 = .ok (.aload_n 0, 1) := by decide +kernel
theorem dL_based_1 : decode cL_based 1 = .ok (.iload_n 1, 1) := by decide +kernel
theorem dL_based_2 : decode cL_based 2 = .ok (.invokevirtual 22, 3) := by decide +kernel
theorem dL_based_5 : decode cL_based 5 = .ok (.bipush 100, 2) := by decide +kernel
theorem dL_based_7 : decode cL_based 7 = .ok (.aload_n 0, 1) := by decide +kernel
theorem dL_based_8 : decode cL_based 8 = .ok (.iload_n 1, 1) := by decide +kernel
theorem dL_based_9 : decode cL_based 9 = .ok (.invokevirtual 28, 3) := by decide +kernel
theorem dL_based_12 : decode cL_based 12 = .ok (.imul, 1) := by decide +kernel
theorem dL_based_13 : decode cL_based 13 = .ok (.iadd, 1) := by decide +kernel
theorem dL_based_14 : decode cL_based 14 = .ok (.ldc 31, 2) := by decide +kernel
theorem dL_based_16 : decode cL_based 16 = .ok (.aload_n 0, 1) := by decide +kernel
theorem dL_based_17 : decode cL_based 17 = .ok (.iload_n 1, 1) := by decide +kernel
theorem dL_based_18 : decode cL_based 18 = .ok (.invokevirtual 32, 3) := by decide +kernel
theorem dL_based_21 : decode cL_based 21 = .ok (.imul, 1) := by decide +kernel
theorem dL_based_22 : decode cL_based 22 = .ok (.iadd, 1) := by decide +kernel
theorem dL_based_23 : decode cL_based 23 = .ok (.ireturn, 1) := by decide +kernel
theorem dL_based_24 : decode cL_based 24 = .ok (.astore_n 2, 1) := by decide +kernel
theorem dL_based_25 : decode cL_based 25 = .ok (.bipush (-5), 2) := by decide +kernel
theorem dL_based_27 : decode cL_based 27 = .ok (.ireturn, 1) := by decide +kernel
set_option maxRecDepth 20000 in
theorem ggL_marked_X4_isPromised : GoodIn wsL_marked wsX4_isPromised := goodIn_ca (goodIn_r _ [6, 7, 8, 9, 10, 5, 11, 12, 13, 14, 15, 16, 17, 18, 19, 20, 21, 22, 23, 24, 25, 26, 27, 28, 29, 30, 31, 32, 33, 34, 35, 36, 37, 38, 39, 40, 41, 42, 51, 52, 53, 54, 55, 56, 57, 58, 59, 60, 61, 62, 63, 64, 65, 66, 67, 68, 69, 70] (by decide +kernel) (by decide +kernel)) (goodIn_sub (fun _ h => List.mem_cons_of_mem _ (List.mem_append_right _ h)) (by decide +kernel))
set_option maxRecDepth 20000 in
theorem gL_marked_X4_isPromised : GoodIn wsL_marked (wsV RL 37 RX4 yX4_isPromised wsX4_isPromised) := goodIn_app (goodIn_of _ (by decide +kernel)) ggL_marked_X4_isPromised
set_option maxRecDepth 20000 in
theorem ggL_marked_X4_isNeeded : GoodIn wsL_marked wsX4_isNeeded := goodIn_ca (goodIn_r _ [46, 7, 8, 9, 10, 5, 11, 12, 13, 14, 15, 16, 17, 18, 19, 20, 21, 22, 23, 24, 25, 26, 27, 28, 29, 30, 31, 32, 33, 34, 35, 36, 37, 38, 39, 40, 41, 42, 51, 52, 53, 54, 55, 56, 57, 58, 59, 60, 61, 62, 63, 64, 65, 66, 67, 68, 69, 70] (by decide +kernel) (by decide +kernel)) (goodIn_sub (fun _ h => List.mem_cons_of_mem _ (List.mem_append_right _ h)) (by decide +kernel))
set_option maxRecDepth 20000 in
theorem gL_marked_X4_isNeeded : GoodIn wsL_marked (wsV RL 41 RX4 yX4_isNeeded wsX4_isNeeded) := goodIn_app (goodIn_of _ (by decide +kernel)) ggL_marked_X4_isNeeded
set_option maxRecDepth 20000 in
theorem ggL_marked_X4_isProved : GoodIn wsL_marked wsX4_isProved := goodIn_ca (goodIn_r _ [50, 8, 9, 10, 5, 11, 12, 13, 7, 14, 15, 16, 17, 18, 19, 55, 56, 57, 58, 59, 60, 61, 62, 63, 64, 65, 51, 52, 53, 54, 66, 67, 68, 69, 70] (by decide +kernel) (by decide +kernel)) (goodIn_sub (fun _ h => List.mem_cons_of_mem _ (List.mem_append_right _ h)) (by decide +kernel))
set_option maxRecDepth 20000 in
theorem gL_marked_X4_isProved : GoodIn wsL_marked (wsV RL 44 RX4 yX4_isProved wsX4_isProved) := goodIn_app (goodIn_of _ (by decide +kernel)) ggL_marked_X4_isProved
theorem dL_marked_0 : decode cL_marked 0 = .ok (.aload_n 0, 1) := by decide +kernel
theorem dL_marked_1 : decode cL_marked 1 = .ok (.iload_n 1, 1) := by decide +kernel
theorem dL_marked_2 : decode cL_marked 2 = .ok (.invokevirtual 37, 3) := by decide +kernel
theorem dL_marked_5 : decode cL_marked 5 = .ok (.ifCond .eq 7, 3) := by decide +kernel
theorem dL_marked_8 : decode cL_marked 8 = .ok (.iconst 1, 1) := by decide +kernel
theorem dL_marked_9 : decode cL_marked 9 = .ok (.goto 4, 3) := by decide +kernel
theorem dL_marked_12 : decode cL_marked 12 = .ok (.iconst 0, 1) := by decide +kernel
theorem dL_marked_13 : decode cL_marked 13 = .ok (.aload_n 0, 1) := by decide +kernel
theorem dL_marked_14 : decode cL_marked 14 = .ok (.iload_n 1, 1) := by decide +kernel
theorem dL_marked_15 : decode cL_marked 15 = .ok (.invokevirtual 41, 3) := by decide +kernel
theorem dL_marked_18 : decode cL_marked 18 = .ok (.ifCond .eq 7, 3) := by decide +kernel
theorem dL_marked_21 : decode cL_marked 21 = .ok (.iconst 2, 1) := by decide +kernel
theorem dL_marked_22 : decode cL_marked 22 = .ok (.goto 4, 3) := by decide +kernel
theorem dL_marked_25 : decode cL_marked 25 = .ok (.iconst 0, 1) := by decide +kernel
theorem dL_marked_26 : decode cL_marked 26 = .ok (.iadd, 1) := by decide +kernel
theorem dL_marked_27 : decode cL_marked 27 = .ok (.aload_n 0, 1) := by decide +kernel
theorem dL_marked_28 : decode cL_marked 28 = .ok (.iload_n 1, 1) := by decide +kernel
theorem dL_marked_29 : decode cL_marked 29 = .ok (.invokevirtual 44, 3) := by decide +kernel
theorem dL_marked_32 : decode cL_marked 32 = .ok (.ifCond .eq 7, 3) := by decide +kernel
theorem dL_marked_35 : decode cL_marked 35 = .ok (.iconst 4, 1) := by decide +kernel
theorem dL_marked_36 : decode cL_marked 36 = .ok (.goto 4, 3) := by decide +kernel
theorem dL_marked_39 : decode cL_marked 39 = .ok (.iconst 0, 1) := by decide +kernel
theorem dL_marked_40 : decode cL_marked 40 = .ok (.iadd, 1) := by decide +kernel
theorem dL_marked_41 : decode cL_marked 41 = .ok (.ireturn, 1) := by decide +kernel
theorem dL_marked_42 : decode cL_marked 42 = .ok (.astore_n 2, 1) := by decide +kernel
theorem dL_marked_43 : decode cL_marked 43 = .ok (.bipush (-5), 2) := by decide +kernel
theorem dL_marked_45 : decode cL_marked 45 = .ok (.ireturn, 1) := by decide +kernel
set_option maxRecDepth 20000 in
theorem ggL_restored_X4_restore : GoodIn wsL_restored wsX4_restore := goodIn_ca (goodIn_r _ [6, 7, 8, 9, 5, 10, 11, 12, 13, 14, 15, 16, 17, 18, 19, 20, 21, 22, 23, 24, 25, 26, 27, 28, 29, 42, 43, 44, 45, 46, 47, 48, 49, 50, 51, 52, 53, 54, 55, 56, 57, 58, 59, 60, 61] (by decide +kernel) (by decide +kernel)) (goodIn_sub (fun _ h => List.mem_cons_of_mem _ (List.mem_append_right _ h)) (by decide +kernel))
set_option maxRecDepth 20000 in
theorem gL_restored_X4_restore : GoodIn wsL_restored (wsV RL 47 RX4 yX4_restore wsX4_restore) := goodIn_app (goodIn_of _ (by decide +kernel)) ggL_restored_X4_restore
set_option maxRecDepth 20000 in
theorem ggL_restored_X4_restoreByChanges : GoodIn wsL_restored wsX4_restoreByChanges := goodIn_ca (goodIn_r _ [33, 34, 7, 8, 9, 5, 10, 11, 12, 13, 14, 15, 16, 17, 18, 19, 20, 21, 22, 35, 36, 37, 38, 39, 40, 41, 42, 43, 44, 45, 51, 52, 53, 54, 55, 56, 57, 58, 59, 60, 61, 46, 47, 48, 49, 50, 62, 63, 64, 65] (by decide +kernel) (by decide +kernel)) (goodIn_sub (fun _ h => List.mem_cons_of_mem _ (List.mem_append_right _ h)) (by decide +kernel))
set_option maxRecDepth 20000 in
theorem gL_restored_X4_restoreByChanges : GoodIn wsL_restored (wsV RL 51 RX4 yX4_restoreByChanges wsX4_restoreByChanges) := goodIn_app (goodIn_of _ (by decide +kernel)) ggL_restored_X4_restoreByChanges
theorem dL_restored_0 : decode cL_restored 0 = .ok (.aload_n 0, 1) := by decide +kernel
theorem dL_restored_1 : decode cL_restored 1 = .ok (.iload_n 1, 1) := by decide +kernel
theorem dL_restored_2 : decode cL_restored 2 = .ok (.iload_n 2, 1) := by decide +kernel
theorem dL_restored_3 : decode cL_restored 3 = .ok (.invokevirtual 47, 3) := by decide +kernel
theorem dL_restored_6 : decode cL_restored 6 = .ok (.aload_n 0, 1) := by decide +kernel
theorem dL_restored_7 : decode cL_restored 7 = .ok (.iload_n 1, 1) := by decide +kernel
theorem dL_restored_8 : decode cL_restored 8 = .ok (.iload_n 2, 1) := by decide +kernel
theorem dL_restored_9 : decode cL_restored 9 = .ok (.invokevirtual 51, 3) := by decide +kernel
theorem dL_restored_12 : decode cL_restored 12 = .ok (.if_icmp .ne 12, 3) := by decide +kernel
theorem dL_restored_15 : decode cL_restored 15 = .ok (.aload_n 0, 1) := by decide +kernel
theorem dL_restored_16 : decode cL_restored 16 = .ok (.iload_n 1, 1) := by decide +kernel
theorem dL_restored_17 : decode cL_restored 17 = .ok (.iload_n 2, 1) := by decide +kernel
theorem dL_restored_18 : decode cL_restored 18 = .ok (.invokevirtual 47, 3) := by decide +kernel
theorem dL_restored_21 : decode cL_restored 21 = .ok (.goto 5, 3) := by decide +kernel
theorem dL_restored_24 : decode cL_restored 24 = .ok (.bipush (-9), 2) := by decide +kernel
theorem dL_restored_26 : decode cL_restored 26 = .ok (.ireturn, 1) := by decide +kernel
theorem dL_restored_27 : decode cL_restored 27 = .ok (.astore_n 3, 1) := by decide +kernel
theorem dL_restored_28 : decode cL_restored 28 = .ok (.bipush (-5), 2) := by decide +kernel
theorem dL_restored_30 : decode cL_restored 30 = .ok (.ireturn, 1) := by decide +kernel
set_option maxRecDepth 20000 in
theorem ggL_drilled_X4_drill : GoodIn wsL_drilled wsX4_drill := goodIn_ca (goodIn_r _ [6, 7, 8, 9, 5, 10, 11, 12, 13, 14, 15, 16, 17, 18, 19, 20, 21, 22, 23, 24, 25, 26, 27, 28, 29, 30, 31, 32, 33, 34, 35, 36, 37, 38, 39, 40, 41, 42, 43, 44, 45, 46, 47, 48, 49, 50, 51, 52, 53, 54, 55] (by decide +kernel) (by decide +kernel)) (goodIn_sub (fun _ h => List.mem_cons_of_mem _ (List.mem_append_right _ h)) (by decide +kernel))
set_option maxRecDepth 20000 in
theorem gL_drilled_X4_drill : GoodIn wsL_drilled (wsV RL 54 RX4 yX4_drill wsX4_drill) := goodIn_app (goodIn_of _ (by decide +kernel)) ggL_drilled_X4_drill
theorem dL_drilled_0 : decode cL_drilled 0 = .ok (.aload_n 0, 1) := by decide +kernel
theorem dL_drilled_1 : decode cL_drilled 1 = .ok (.iload_n 1, 1) := by decide +kernel
theorem dL_drilled_2 : decode cL_drilled 2 = .ok (.invokevirtual 54, 3) := by decide +kernel
theorem dL_drilled_5 : decode cL_drilled 5 = .ok (.ireturn, 1) := by decide +kernel
theorem dL_drilled_6 : decode cL_drilled 6 = .ok (.astore_n 2, 1) := by decide +kernel
theorem dL_drilled_7 : decode cL_drilled 7 = .ok (.bipush (-5), 2) := by decide +kernel
theorem dL_drilled_9 : decode cL_drilled 9 = .ok (.ireturn, 1) := by decide +kernel
set_option maxRecDepth 20000 in
theorem ggL_damaged_X4_damage : GoodIn wsL_damaged wsX4_damage := goodIn_ca (goodIn_r _ [6, 7, 8, 9, 10, 5, 11, 12, 13, 14, 15, 16, 17, 18, 19, 20, 21, 22, 23, 24, 25, 26, 27, 28, 29, 30, 31, 32, 33, 34, 35, 36, 37, 38, 39, 40, 41, 42, 43, 44, 45, 46, 47, 48, 49, 50, 51, 52, 53, 54, 55, 56, 57, 58, 59, 60, 61, 62, 63, 64, 65, 66, 67, 68, 69, 70, 71] (by decide +kernel) (by decide +kernel)) (goodIn_sub (fun _ h => List.mem_cons_of_mem _ (List.mem_append_right _ h)) (by decide +kernel))
set_option maxRecDepth 20000 in
theorem gL_damaged_X4_damage : GoodIn wsL_damaged (wsV RL 57 RX4 yX4_damage wsX4_damage) := goodIn_app (goodIn_of _ (by decide +kernel)) ggL_damaged_X4_damage
theorem dL_damaged_0 : decode cL_damaged 0 = .ok (.aload_n 0, 1) := by decide +kernel
theorem dL_damaged_1 : decode cL_damaged 1 = .ok (.iload_n 1, 1) := by decide +kernel
theorem dL_damaged_2 : decode cL_damaged 2 = .ok (.invokevirtual 57, 3) := by decide +kernel
theorem dL_damaged_5 : decode cL_damaged 5 = .ok (.ireturn, 1) := by decide +kernel
theorem dL_damaged_6 : decode cL_damaged 6 = .ok (.astore_n 2, 1) := by decide +kernel
theorem dL_damaged_7 : decode cL_damaged 7 = .ok (.bipush (-5), 2) := by decide +kernel
theorem dL_damaged_9 : decode cL_damaged 9 = .ok (.ireturn, 1) := by decide +kernel
set_option maxRecDepth 20000 in
theorem ggL_incremented_X4_increment : GoodIn wsL_incremented wsX4_increment := goodIn_ca (goodIn_r _ [6, 7, 8, 9, 10, 11, 12, 13, 14, 15, 16, 17, 18, 19, 20, 21, 22, 23, 24, 25, 26, 27, 28, 29, 30, 31, 32, 33, 34, 35, 36, 37, 38, 39, 40, 41, 42, 43, 44, 45, 46, 47, 48, 49, 50, 51, 52, 53, 54, 55, 56, 57, 58, 59, 60, 61, 62, 63, 64, 65, 66, 67, 68, 69, 70, 71, 72, 73, 74, 75, 76, 77, 78, 79, 80, 81, 82] (by decide +kernel) (by decide +kernel)) (goodIn_sub (fun _ h => List.mem_cons_of_mem _ (List.mem_append_right _ h)) (by decide +kernel))
set_option maxRecDepth 20000 in
theorem gL_incremented_X4_increment : GoodIn wsL_incremented (wsV RL 60 RX4 yX4_increment wsX4_increment) := goodIn_app (goodIn_of _ (by decide +kernel)) ggL_incremented_X4_increment
theorem dL_incremented_0 : decode cL_incremented 0 = .ok (.aload_n 0, 1) := by decide +kernel
theorem dL_incremented_1 : decode cL_incremented 1 = .ok (.invokevirtual 60, 3) := by decide +kernel
theorem dL_incremented_4 : decode cL_incremented 4 = .ok (.ireturn, 1) := by decide +kernel
theorem dL_incremented_5 : decode cL_incremented 5 = .ok (.astore_n 1, 1) := by decide +kernel
theorem dL_incremented_6 : decode cL_incremented 6 = .ok (.bipush (-5), 2) := by decide +kernel
theorem dL_incremented_8 : decode cL_incremented 8 = .ok (.ireturn, 1) := by decide +kernel
set_option maxRecDepth 20000 in
theorem ggL_swapped_X4_swap : GoodIn wsL_swapped wsX4_swap := goodIn_ca (goodIn_ca (goodIn_r _ [7, 8, 9, 10, 11, 12, 13, 14, 15, 6, 16, 17, 18, 19, 20, 21, 22, 23, 24, 25, 26, 27, 28, 29, 30, 31, 32, 33, 34, 35, 36, 37, 38, 39, 40, 41] (by decide +kernel) (by decide +kernel)) (goodIn_sub (fun _ h => List.mem_cons_of_mem _ (List.mem_append_left _ (List.mem_append_right _ h))) (by decide +kernel))) (goodIn_sub (fun _ h => List.mem_cons_of_mem _ (List.mem_append_right _ h)) (by decide +kernel))
set_option maxRecDepth 20000 in
theorem gL_swapped_X4_swap : GoodIn wsL_swapped (wsV RL 66 RX4 yX4_swap wsX4_swap) := goodIn_app (goodIn_of _ (by decide +kernel)) ggL_swapped_X4_swap
theorem dL_swapped_0 : decode cL_swapped 0 = .ok (.aload_n 0, 1) := by decide +kernel
theorem dL_swapped_1 : decode cL_swapped 1 = .ok (.iload_n 1, 1) := by decide +kernel
theorem dL_swapped_2 : decode cL_swapped 2 = .ok (.iload_n 2, 1) := by decide +kernel
theorem dL_swapped_3 : decode cL_swapped 3 = .ok (.invokevirtual 66, 3) := by decide +kernel
theorem dL_swapped_6 : decode cL_swapped 6 = .ok (.ireturn, 1) := by decide +kernel
theorem dL_swapped_7 : decode cL_swapped 7 = .ok (.astore_n 3, 1) := by decide +kernel
theorem dL_swapped_8 : decode cL_swapped 8 = .ok (.bipush (-4), 2) := by decide +kernel
theorem dL_swapped_10 : decode cL_swapped 10 = .ok (.ireturn, 1) := by decide +kernel
theorem dL_swapped_11 : decode cL_swapped 11 = .ok (.astore_n 3, 1) := by decide +kernel
theorem dL_swapped_12 : decode cL_swapped 12 = .ok (.bipush (-5), 2) := by decide +kernel
theorem dL_swapped_14 : decode cL_swapped 14 = .ok (.ireturn, 1) := by decide +kernel
set_option maxRecDepth 20000 in
theorem ggL_isTold_L_promised : GoodIn wsL_isTold wsL_promised := goodIn_r _ [5] (by decide +kernel) (by decide +kernel)
set_option maxRecDepth 20000 in
theorem gL_isTold_L_promised : GoodIn wsL_isTold (va_wsS RL 9 yL_promised wsL_promised) := goodIn_app (goodIn_of _ (by decide +kernel)) ggL_isTold_L_promised
set_option maxRecDepth 20000 in
theorem ggL_isTold_L_needed : GoodIn wsL_isTold wsL_needed := goodIn_r _ [8, 2, 3, 4, 5, 9, 10, 11] (by decide +kernel) (by decide +kernel)
set_option maxRecDepth 20000 in
theorem gL_isTold_L_needed : GoodIn wsL_isTold (va_wsS RL 19 yL_needed wsL_needed) := goodIn_app (goodIn_of _ (by decide +kernel)) ggL_isTold_L_needed
set_option maxRecDepth 20000 in
theorem ggL_isTold_X4_day : GoodIn wsL_isTold wsX4_day := goodIn_r _ [16, 17, 149, 150, 151, 152] (by decide +kernel) (by decide +kernel)
set_option maxRecDepth 20000 in
theorem gL_isTold_X4_day : GoodIn wsL_isTold (wsV RL 71 RX4 yX4_day wsX4_day) := goodIn_app (goodIn_of _ (by decide +kernel)) ggL_isTold_X4_day
set_option maxRecDepth 20000 in
theorem ggL_isTold_X4_copies : GoodIn wsL_isTold wsX4_copies := goodIn_r _ [21, 22, 23, 24, 25, 26, 27, 28, 149, 150, 151, 152, 153, 154, 155, 156, 157] (by decide +kernel) (by decide +kernel)
set_option maxRecDepth 20000 in
theorem gL_isTold_X4_copies : GoodIn wsL_isTold (wsV RL 74 RX4 yX4_copies wsX4_copies) := goodIn_app (goodIn_of _ (by decide +kernel)) ggL_isTold_X4_copies
set_option maxRecDepth 20000 in
theorem ggL_isTold_L_ones : GoodIn wsL_isTold wsL_ones := goodIn_r _ [31] (by decide +kernel) (by decide +kernel)
set_option maxRecDepth 20000 in
theorem gL_isTold_L_ones : GoodIn wsL_isTold (va_wsS RL 77 yL_ones wsL_ones) := goodIn_app (goodIn_of _ (by decide +kernel)) ggL_isTold_L_ones
set_option maxRecDepth 20000 in
theorem ggL_isTold_L_based : GoodIn wsL_isTold wsL_based := goodIn_ca (goodIn_r _ [34, 35, 1, 36, 37, 38, 15, 39, 40, 41, 42, 43, 44, 45, 22, 46, 47, 48, 26, 49, 28, 50, 51, 52, 53, 54, 55, 56, 57, 158, 159, 160, 161, 162, 163, 164, 165, 166, 167, 168, 149, 150, 151, 152, 153, 154, 155, 156, 157] (by decide +kernel) (by decide +kernel)) (goodIn_sub (fun _ h => List.mem_cons_of_mem _ (List.mem_append_left _ (List.mem_append_right _ h))) (by decide +kernel))
set_option maxRecDepth 20000 in
theorem gL_isTold_L_based : GoodIn wsL_isTold (va_wsS RL 80 yL_based wsL_based) := goodIn_app (goodIn_of _ (by decide +kernel)) ggL_isTold_L_based
set_option maxRecDepth 20000 in
theorem ggL_isTold_L_marked : GoodIn wsL_isTold wsL_marked := goodIn_ca (goodIn_r _ [60, 35, 61, 62, 63, 15, 64, 22, 40, 41, 42, 43, 44, 45, 46, 47, 48, 26, 49, 28, 65, 66, 67, 68, 69, 70, 71, 72, 73, 74, 75, 76, 77, 78, 79, 80, 81, 82, 83, 84, 85, 86, 87, 88, 89, 90, 91, 92, 93, 94, 95, 149, 150, 151, 152, 158, 159, 160, 161, 162, 163, 164, 165, 166, 167, 168, 153, 154, 155, 156, 157] (by decide +kernel) (by decide +kernel)) (goodIn_sub (fun _ h => List.mem_cons_of_mem _ (List.mem_append_left _ (List.mem_append_right _ h))) (by decide +kernel))
set_option maxRecDepth 20000 in
theorem gL_isTold_L_marked : GoodIn wsL_isTold (va_wsS RL 84 yL_marked wsL_marked) := goodIn_app (goodIn_of _ (by decide +kernel)) ggL_isTold_L_marked
set_option maxRecDepth 20000 in
theorem ggL_isTold_L_restored : GoodIn wsL_isTold wsL_restored := goodIn_ca (goodIn_r _ [98, 35, 99, 100, 101, 15, 102, 40, 41, 42, 43, 44, 45, 22, 46, 47, 48, 26, 49, 28, 103, 104, 105, 106, 107, 108, 79, 109, 110, 87, 111, 112, 113, 114, 115, 116, 117, 118, 119, 120, 121, 122, 149, 150, 151, 152, 153, 154, 155, 156, 157, 158, 159, 160, 161, 162, 163, 164, 165, 166, 167, 168, 169, 170, 171, 172] (by decide +kernel) (by decide +kernel)) (goodIn_sub (fun _ h => List.mem_cons_of_mem _ (List.mem_append_left _ (List.mem_append_right _ h))) (by decide +kernel))
set_option maxRecDepth 20000 in
theorem gL_isTold_L_restored : GoodIn wsL_isTold (va_wsS RL 87 yL_restored wsL_restored) := goodIn_app (goodIn_of _ (by decide +kernel)) ggL_isTold_L_restored
set_option maxRecDepth 20000 in
theorem ggL_isTold_X4_onCall : GoodIn wsL_isTold wsX4_onCall := goodIn_ca (goodIn_r _ [126, 127, 128, 129, 130, 131, 132, 133, 134, 135, 149, 150, 151, 152, 173] (by decide +kernel) (by decide +kernel)) (goodIn_sub (fun _ h => List.mem_cons_of_mem _ (List.mem_append_right _ h)) (by decide +kernel))
set_option maxRecDepth 20000 in
theorem gL_isTold_X4_onCall : GoodIn wsL_isTold (wsV RL 91 RX4 yX4_onCall wsX4_onCall) := goodIn_app (goodIn_of _ (by decide +kernel)) ggL_isTold_X4_onCall
set_option maxRecDepth 20000 in
theorem ggL_isTold_X4_space : GoodIn wsL_isTold wsX4_space := goodIn_r _ [139, 22, 140, 141, 142, 26, 143, 28, 144, 145, 146, 79, 147, 148, 149, 150, 151, 152, 153, 154, 155, 156, 157, 158, 159, 160, 161, 162, 163, 164, 165, 166, 167, 168] (by decide +kernel) (by decide +kernel)
set_option maxRecDepth 20000 in
theorem gL_isTold_X4_space : GoodIn wsL_isTold (wsV RL 94 RX4 yX4_space wsX4_space) := goodIn_app (goodIn_of _ (by decide +kernel)) ggL_isTold_X4_space
theorem dL_isTold_0 : decode cL_isTold 0 = .ok (.aload_n 1, 1) := by decide +kernel
theorem dL_isTold_1 : decode cL_isTold 1 = .ok (.aload_n 3, 1) := by decide +kernel
theorem dL_isTold_2 : decode cL_isTold 2 = .ok (.invokestatic 9, 3) := by decide +kernel
theorem dL_isTold_5 : decode cL_isTold 5 = .ok (.istore 5, 2) := by decide +kernel
theorem dL_isTold_7 : decode cL_isTold 7 = .ok (.aload_n 1, 1) := by decide +kernel
theorem dL_isTold_8 : decode cL_isTold 8 = .ok (.aload_n 3, 1) := by decide +kernel
theorem dL_isTold_9 : decode cL_isTold 9 = .ok (.invokestatic 19, 3) := by decide +kernel
theorem dL_isTold_12 : decode cL_isTold 12 = .ok (.istore 6, 2) := by decide +kernel
theorem dL_isTold_14 : decode cL_isTold 14 = .ok (.iconst 0, 1) := by decide +kernel
theorem dL_isTold_15 : decode cL_isTold 15 = .ok (.istore 7, 2) := by decide +kernel
theorem dL_isTold_17 : decode cL_isTold 17 = .ok (.aload_n 0, 1) := by decide +kernel
theorem dL_isTold_18 : decode cL_isTold 18 = .ok (.invokevirtual 71, 3) := by decide +kernel
theorem dL_isTold_21 : decode cL_isTold 21 = .ok (.aload_n 3, 1) := by decide +kernel
theorem dL_isTold_22 : decode cL_isTold 22 = .ok (.iconst 1, 1) := by decide +kernel
theorem dL_isTold_23 : decode cL_isTold 23 = .ok (.iaload, 1) := by decide +kernel
theorem dL_isTold_24 : decode cL_isTold 24 = .ok (.if_icmp .ne 20, 3) := by decide +kernel
theorem dL_isTold_27 : decode cL_isTold 27 = .ok (.aload_n 0, 1) := by decide +kernel
theorem dL_isTold_28 : decode cL_isTold 28 = .ok (.invokevirtual 74, 3) := by decide +kernel
theorem dL_isTold_31 : decode cL_isTold 31 = .ok (.aload_n 3, 1) := by decide +kernel
theorem dL_isTold_32 : decode cL_isTold 32 = .ok (.iconst 2, 1) := by decide +kernel
theorem dL_isTold_33 : decode cL_isTold 33 = .ok (.iaload, 1) := by decide +kernel
theorem dL_isTold_34 : decode cL_isTold 34 = .ok (.invokestatic 77, 3) := by decide +kernel
theorem dL_isTold_37 : decode cL_isTold 37 = .ok (.if_icmp .ne 7, 3) := by decide +kernel
theorem dL_isTold_40 : decode cL_isTold 40 = .ok (.iconst 1, 1) := by decide +kernel
theorem dL_isTold_41 : decode cL_isTold 41 = .ok (.goto 4, 3) := by decide +kernel
theorem dL_isTold_44 : decode cL_isTold 44 = .ok (.iconst 0, 1) := by decide +kernel
theorem dL_isTold_45 : decode cL_isTold 45 = .ok (.istore 8, 2) := by decide +kernel
theorem dL_isTold_47 : decode cL_isTold 47 = .ok (.iconst 0, 1) := by decide +kernel
theorem dL_isTold_48 : decode cL_isTold 48 = .ok (.istore 9, 2) := by decide +kernel
theorem dL_isTold_50 : decode cL_isTold 50 = .ok (.iload 9, 2) := by decide +kernel
theorem dL_isTold_52 : decode cL_isTold 52 = .ok (.aload_n 3, 1) := by decide +kernel
theorem dL_isTold_53 : decode cL_isTold 53 = .ok (.iconst 0, 1) := by decide +kernel
theorem dL_isTold_54 : decode cL_isTold 54 = .ok (.iaload, 1) := by decide +kernel
theorem dL_isTold_55 : decode cL_isTold 55 = .ok (.iconst 1, 1) := by decide +kernel
theorem dL_isTold_56 : decode cL_isTold 56 = .ok (.iadd, 1) := by decide +kernel
theorem dL_isTold_57 : decode cL_isTold 57 = .ok (.if_icmp .ge 234, 3) := by decide +kernel
theorem dL_isTold_60 : decode cL_isTold 60 = .ok (.iload 8, 2) := by decide +kernel
theorem dL_isTold_62 : decode cL_isTold 62 = .ok (.ifCond .eq 229, 3) := by decide +kernel
theorem dL_isTold_65 : decode cL_isTold 65 = .ok (.iload 9, 2) := by decide +kernel
theorem dL_isTold_67 : decode cL_isTold 67 = .ok (.aload_n 3, 1) := by decide +kernel
theorem dL_isTold_68 : decode cL_isTold 68 = .ok (.iconst 0, 1) := by decide +kernel
theorem dL_isTold_69 : decode cL_isTold 69 = .ok (.iaload, 1) := by decide +kernel
theorem dL_isTold_70 : decode cL_isTold 70 = .ok (.if_icmp .ge 19, 3) := by decide +kernel
theorem dL_isTold_73 : decode cL_isTold 73 = .ok (.aload_n 3, 1) := by decide +kernel
theorem dL_isTold_74 : decode cL_isTold 74 = .ok (.iconst 2, 1) := by decide +kernel
theorem dL_isTold_75 : decode cL_isTold 75 = .ok (.iaload, 1) := by decide +kernel
theorem dL_isTold_76 : decode cL_isTold 76 = .ok (.iload 9, 2) := by decide +kernel
theorem dL_isTold_78 : decode cL_isTold 78 = .ok (.ishr, 1) := by decide +kernel
theorem dL_isTold_79 : decode cL_isTold 79 = .ok (.iconst 1, 1) := by decide +kernel
theorem dL_isTold_80 : decode cL_isTold 80 = .ok (.iand, 1) := by decide +kernel
theorem dL_isTold_81 : decode cL_isTold 81 = .ok (.iconst 1, 1) := by decide +kernel
theorem dL_isTold_82 : decode cL_isTold 82 = .ok (.if_icmp .ne 7, 3) := by decide +kernel
theorem dL_isTold_85 : decode cL_isTold 85 = .ok (.iconst 1, 1) := by decide +kernel
theorem dL_isTold_86 : decode cL_isTold 86 = .ok (.goto 4, 3) := by decide +kernel
theorem dL_isTold_89 : decode cL_isTold 89 = .ok (.iconst 0, 1) := by decide +kernel
theorem dL_isTold_90 : decode cL_isTold 90 = .ok (.istore 10, 2) := by decide +kernel
theorem dL_isTold_92 : decode cL_isTold 92 = .ok (.iload 7, 2) := by decide +kernel
theorem dL_isTold_94 : decode cL_isTold 94 = .ok (.iload 10, 2) := by decide +kernel
theorem dL_isTold_96 : decode cL_isTold 96 = .ok (.ifCond .eq 15, 3) := by decide +kernel
theorem dL_isTold_99 : decode cL_isTold 99 = .ok (.aload_n 1, 1) := by decide +kernel
theorem dL_isTold_100 : decode cL_isTold 100 = .ok (.bipush 28, 2) := by decide +kernel
theorem dL_isTold_102 : decode cL_isTold 102 = .ok (.iload 9, 2) := by decide +kernel
theorem dL_isTold_104 : decode cL_isTold 104 = .ok (.iadd, 1) := by decide +kernel
theorem dL_isTold_105 : decode cL_isTold 105 = .ok (.iaload, 1) := by decide +kernel
theorem dL_isTold_106 : decode cL_isTold 106 = .ok (.iconst 1, 1) := by decide +kernel
theorem dL_isTold_107 : decode cL_isTold 107 = .ok (.iadd, 1) := by decide +kernel
theorem dL_isTold_108 : decode cL_isTold 108 = .ok (.goto 4, 3) := by decide +kernel
theorem dL_isTold_111 : decode cL_isTold 111 = .ok (.iconst 0, 1) := by decide +kernel
theorem dL_isTold_112 : decode cL_isTold 112 = .ok (.iadd, 1) := by decide +kernel
theorem dL_isTold_113 : decode cL_isTold 113 = .ok (.istore 7, 2) := by decide +kernel
theorem dL_isTold_115 : decode cL_isTold 115 = .ok (.iload 10, 2) := by decide +kernel
theorem dL_isTold_117 : decode cL_isTold 117 = .ok (.ifCond .ne 8, 3) := by decide +kernel
theorem dL_isTold_120 : decode cL_isTold 120 = .ok (.bipush (-5), 2) := by decide +kernel
theorem dL_isTold_122 : decode cL_isTold 122 = .ok (.goto 31, 3) := by decide +kernel
theorem dL_isTold_125 : decode cL_isTold 125 = .ok (.iload 5, 2) := by decide +kernel
theorem dL_isTold_127 : decode cL_isTold 127 = .ok (.iload 9, 2) := by decide +kernel
theorem dL_isTold_129 : decode cL_isTold 129 = .ok (.ishr, 1) := by decide +kernel
theorem dL_isTold_130 : decode cL_isTold 130 = .ok (.iconst 1, 1) := by decide +kernel
theorem dL_isTold_131 : decode cL_isTold 131 = .ok (.iand, 1) := by decide +kernel
theorem dL_isTold_132 : decode cL_isTold 132 = .ok (.iconst 2, 1) := by decide +kernel
theorem dL_isTold_133 : decode cL_isTold 133 = .ok (.iload 6, 2) := by decide +kernel
theorem dL_isTold_135 : decode cL_isTold 135 = .ok (.iload 9, 2) := by decide +kernel
theorem dL_isTold_137 : decode cL_isTold 137 = .ok (.ishr, 1) := by decide +kernel
theorem dL_isTold_138 : decode cL_isTold 138 = .ok (.iconst 1, 1) := by decide +kernel
theorem dL_isTold_139 : decode cL_isTold 139 = .ok (.iand, 1) := by decide +kernel
theorem dL_isTold_140 : decode cL_isTold 140 = .ok (.imul, 1) := by decide +kernel
theorem dL_isTold_141 : decode cL_isTold 141 = .ok (.iadd, 1) := by decide +kernel
theorem dL_isTold_142 : decode cL_isTold 142 = .ok (.iconst 4, 1) := by decide +kernel
theorem dL_isTold_143 : decode cL_isTold 143 = .ok (.aload_n 3, 1) := by decide +kernel
theorem dL_isTold_144 : decode cL_isTold 144 = .ok (.iconst 4, 1) := by decide +kernel
theorem dL_isTold_145 : decode cL_isTold 145 = .ok (.iaload, 1) := by decide +kernel
theorem dL_isTold_146 : decode cL_isTold 146 = .ok (.iload 9, 2) := by decide +kernel
theorem dL_isTold_148 : decode cL_isTold 148 = .ok (.ishr, 1) := by decide +kernel
theorem dL_isTold_149 : decode cL_isTold 149 = .ok (.iconst 1, 1) := by decide +kernel
theorem dL_isTold_150 : decode cL_isTold 150 = .ok (.iand, 1) := by decide +kernel
theorem dL_isTold_151 : decode cL_isTold 151 = .ok (.imul, 1) := by decide +kernel
theorem dL_isTold_152 : decode cL_isTold 152 = .ok (.iadd, 1) := by decide +kernel
theorem dL_isTold_153 : decode cL_isTold 153 = .ok (.istore 11, 2) := by decide +kernel
theorem dL_isTold_155 : decode cL_isTold 155 = .ok (.aload_n 0, 1) := by decide +kernel
theorem dL_isTold_156 : decode cL_isTold 156 = .ok (.iload 9, 2) := by decide +kernel
theorem dL_isTold_158 : decode cL_isTold 158 = .ok (.invokestatic 80, 3) := by decide +kernel
theorem dL_isTold_161 : decode cL_isTold 161 = .ok (.iload 10, 2) := by decide +kernel
theorem dL_isTold_163 : decode cL_isTold 163 = .ok (.ifCond .eq 32, 3) := by decide +kernel
theorem dL_isTold_166 : decode cL_isTold 166 = .ok (.aload_n 1, 1) := by decide +kernel
theorem dL_isTold_167 : decode cL_isTold 167 = .ok (.bipush 14, 2) := by decide +kernel
theorem dL_isTold_169 : decode cL_isTold 169 = .ok (.iload 9, 2) := by decide +kernel
theorem dL_isTold_171 : decode cL_isTold 171 = .ok (.iadd, 1) := by decide +kernel
theorem dL_isTold_172 : decode cL_isTold 172 = .ok (.iaload, 1) := by decide +kernel
theorem dL_isTold_173 : decode cL_isTold 173 = .ok (.bipush 100, 2) := by decide +kernel
theorem dL_isTold_175 : decode cL_isTold 175 = .ok (.aload_n 1, 1) := by decide +kernel
theorem dL_isTold_176 : decode cL_isTold 176 = .ok (.iload 9, 2) := by decide +kernel
theorem dL_isTold_178 : decode cL_isTold 178 = .ok (.iaload, 1) := by decide +kernel
theorem dL_isTold_179 : decode cL_isTold 179 = .ok (.imul, 1) := by decide +kernel
theorem dL_isTold_180 : decode cL_isTold 180 = .ok (.iadd, 1) := by decide +kernel
theorem dL_isTold_181 : decode cL_isTold 181 = .ok (.ldc 31, 2) := by decide +kernel
theorem dL_isTold_183 : decode cL_isTold 183 = .ok (.aload_n 1, 1) := by decide +kernel
theorem dL_isTold_184 : decode cL_isTold 184 = .ok (.bipush 28, 2) := by decide +kernel
theorem dL_isTold_186 : decode cL_isTold 186 = .ok (.iload 9, 2) := by decide +kernel
theorem dL_isTold_188 : decode cL_isTold 188 = .ok (.iadd, 1) := by decide +kernel
theorem dL_isTold_189 : decode cL_isTold 189 = .ok (.iaload, 1) := by decide +kernel
theorem dL_isTold_190 : decode cL_isTold 190 = .ok (.imul, 1) := by decide +kernel
theorem dL_isTold_191 : decode cL_isTold 191 = .ok (.iadd, 1) := by decide +kernel
theorem dL_isTold_192 : decode cL_isTold 192 = .ok (.goto 5, 3) := by decide +kernel
theorem dL_isTold_195 : decode cL_isTold 195 = .ok (.bipush (-5), 2) := by decide +kernel
theorem dL_isTold_197 : decode cL_isTold 197 = .ok (.if_icmp .ne 18, 3) := by decide +kernel
theorem dL_isTold_200 : decode cL_isTold 200 = .ok (.aload_n 0, 1) := by decide +kernel
theorem dL_isTold_201 : decode cL_isTold 201 = .ok (.iload 9, 2) := by decide +kernel
theorem dL_isTold_203 : decode cL_isTold 203 = .ok (.invokestatic 84, 3) := by decide +kernel
theorem dL_isTold_206 : decode cL_isTold 206 = .ok (.iload 11, 2) := by decide +kernel
theorem dL_isTold_208 : decode cL_isTold 208 = .ok (.if_icmp .ne 7, 3) := by decide +kernel
theorem dL_isTold_211 : decode cL_isTold 211 = .ok (.iconst 1, 1) := by decide +kernel
theorem dL_isTold_212 : decode cL_isTold 212 = .ok (.goto 4, 3) := by decide +kernel
theorem dL_isTold_215 : decode cL_isTold 215 = .ok (.iconst 0, 1) := by decide +kernel
theorem dL_isTold_216 : decode cL_isTold 216 = .ok (.istore 8, 2) := by decide +kernel
theorem dL_isTold_218 : decode cL_isTold 218 = .ok (.iconst 0, 1) := by decide +kernel
theorem dL_isTold_219 : decode cL_isTold 219 = .ok (.istore 12, 2) := by decide +kernel
theorem dL_isTold_221 : decode cL_isTold 221 = .ok (.iload 12, 2) := by decide +kernel
theorem dL_isTold_223 : decode cL_isTold 223 = .ok (.iconst 5, 1) := by decide +kernel
theorem dL_isTold_224 : decode cL_isTold 224 = .ok (.if_icmp .ge 61, 3) := by decide +kernel
theorem dL_isTold_227 : decode cL_isTold 227 = .ok (.iload 8, 2) := by decide +kernel
theorem dL_isTold_229 : decode cL_isTold 229 = .ok (.ifCond .eq 56, 3) := by decide +kernel
theorem dL_isTold_232 : decode cL_isTold 232 = .ok (.aload_n 0, 1) := by decide +kernel
theorem dL_isTold_233 : decode cL_isTold 233 = .ok (.iload 9, 2) := by decide +kernel
theorem dL_isTold_235 : decode cL_isTold 235 = .ok (.iload 12, 2) := by decide +kernel
theorem dL_isTold_237 : decode cL_isTold 237 = .ok (.invokestatic 87, 3) := by decide +kernel
theorem dL_isTold_240 : decode cL_isTold 240 = .ok (.iload 10, 2) := by decide +kernel
theorem dL_isTold_242 : decode cL_isTold 242 = .ok (.ifCond .ne 8, 3) := by decide +kernel
theorem dL_isTold_245 : decode cL_isTold 245 = .ok (.bipush (-5), 2) := by decide +kernel
theorem dL_isTold_247 : decode cL_isTold 247 = .ok (.goto 22, 3) := by decide +kernel
theorem dL_isTold_250 : decode cL_isTold 250 = .ok (.iload 12, 2) := by decide +kernel
theorem dL_isTold_252 : decode cL_isTold 252 = .ok (.iconst 4, 1) := by decide +kernel
theorem dL_isTold_253 : decode cL_isTold 253 = .ok (.if_icmp .ne 7, 3) := by decide +kernel
theorem dL_isTold_256 : decode cL_isTold 256 = .ok (.iconst 0, 1) := by decide +kernel
theorem dL_isTold_257 : decode cL_isTold 257 = .ok (.goto 12, 3) := by decide +kernel
theorem dL_isTold_260 : decode cL_isTold 260 = .ok (.aload_n 2, 1) := by decide +kernel
theorem dL_isTold_261 : decode cL_isTold 261 = .ok (.iconst 4, 1) := by decide +kernel
theorem dL_isTold_262 : decode cL_isTold 262 = .ok (.iload 9, 2) := by decide +kernel
theorem dL_isTold_264 : decode cL_isTold 264 = .ok (.imul, 1) := by decide +kernel
theorem dL_isTold_265 : decode cL_isTold 265 = .ok (.iload 12, 2) := by decide +kernel
theorem dL_isTold_267 : decode cL_isTold 267 = .ok (.iadd, 1) := by decide +kernel
theorem dL_isTold_268 : decode cL_isTold 268 = .ok (.iaload, 1) := by decide +kernel
theorem dL_isTold_269 : decode cL_isTold 269 = .ok (.if_icmp .ne 7, 3) := by decide +kernel
theorem dL_isTold_272 : decode cL_isTold 272 = .ok (.iconst 1, 1) := by decide +kernel
theorem dL_isTold_273 : decode cL_isTold 273 = .ok (.goto 4, 3) := by decide +kernel
theorem dL_isTold_276 : decode cL_isTold 276 = .ok (.iconst 0, 1) := by decide +kernel
theorem dL_isTold_277 : decode cL_isTold 277 = .ok (.istore 8, 2) := by decide +kernel
theorem dL_isTold_279 : decode cL_isTold 279 = .ok (.iinc 12 1, 3) := by decide +kernel
theorem dL_isTold_282 : decode cL_isTold 282 = .ok (.goto (-61), 3) := by decide +kernel
theorem dL_isTold_285 : decode cL_isTold 285 = .ok (.iinc 9 1, 3) := by decide +kernel
theorem dL_isTold_288 : decode cL_isTold 288 = .ok (.goto (-238), 3) := by decide +kernel
theorem dL_isTold_291 : decode cL_isTold 291 = .ok (.iconst 0, 1) := by decide +kernel
theorem dL_isTold_292 : decode cL_isTold 292 = .ok (.istore 9, 2) := by decide +kernel
theorem dL_isTold_294 : decode cL_isTold 294 = .ok (.iload 9, 2) := by decide +kernel
theorem dL_isTold_296 : decode cL_isTold 296 = .ok (.bipush 64, 2) := by decide +kernel
theorem dL_isTold_298 : decode cL_isTold 298 = .ok (.if_icmp .ge 35, 3) := by decide +kernel
theorem dL_isTold_301 : decode cL_isTold 301 = .ok (.iload 8, 2) := by decide +kernel
theorem dL_isTold_303 : decode cL_isTold 303 = .ok (.ifCond .eq 30, 3) := by decide +kernel
theorem dL_isTold_306 : decode cL_isTold 306 = .ok (.aload_n 0, 1) := by decide +kernel
theorem dL_isTold_307 : decode cL_isTold 307 = .ok (.iload 9, 2) := by decide +kernel
theorem dL_isTold_309 : decode cL_isTold 309 = .ok (.invokevirtual 91, 3) := by decide +kernel
theorem dL_isTold_312 : decode cL_isTold 312 = .ok (.aload 4, 2) := by decide +kernel
theorem dL_isTold_314 : decode cL_isTold 314 = .ok (.iload 9, 2) := by decide +kernel
theorem dL_isTold_316 : decode cL_isTold 316 = .ok (.iaload, 1) := by decide +kernel
theorem dL_isTold_317 : decode cL_isTold 317 = .ok (.if_icmp .ne 7, 3) := by decide +kernel
theorem dL_isTold_320 : decode cL_isTold 320 = .ok (.iconst 1, 1) := by decide +kernel
theorem dL_isTold_321 : decode cL_isTold 321 = .ok (.goto 4, 3) := by decide +kernel
theorem dL_isTold_324 : decode cL_isTold 324 = .ok (.iconst 0, 1) := by decide +kernel
theorem dL_isTold_325 : decode cL_isTold 325 = .ok (.istore 8, 2) := by decide +kernel
theorem dL_isTold_327 : decode cL_isTold 327 = .ok (.iinc 9 1, 3) := by decide +kernel
theorem dL_isTold_330 : decode cL_isTold 330 = .ok (.goto (-36), 3) := by decide +kernel
theorem dL_isTold_333 : decode cL_isTold 333 = .ok (.iload 8, 2) := by decide +kernel
theorem dL_isTold_335 : decode cL_isTold 335 = .ok (.ifCond .eq 16, 3) := by decide +kernel
theorem dL_isTold_338 : decode cL_isTold 338 = .ok (.aload_n 0, 1) := by decide +kernel
theorem dL_isTold_339 : decode cL_isTold 339 = .ok (.invokevirtual 94, 3) := by decide +kernel
theorem dL_isTold_342 : decode cL_isTold 342 = .ok (.iload 7, 2) := by decide +kernel
theorem dL_isTold_344 : decode cL_isTold 344 = .ok (.if_icmp .ne 7, 3) := by decide +kernel
theorem dL_isTold_347 : decode cL_isTold 347 = .ok (.iconst 1, 1) := by decide +kernel
theorem dL_isTold_348 : decode cL_isTold 348 = .ok (.goto 4, 3) := by decide +kernel
theorem dL_isTold_351 : decode cL_isTold 351 = .ok (.iconst 0, 1) := by decide +kernel
theorem dL_isTold_352 : decode cL_isTold 352 = .ok (.ireturn, 1) := by decide +kernel
set_option maxRecDepth 20000 in
theorem ggL_isCopied_L_incremented : GoodIn wsL_isCopied wsL_incremented := goodIn_ca (goodIn_r _ [4, 5, 6, 7, 8, 9, 10, 11, 12, 13, 14, 15, 16, 17, 18, 19, 20, 21, 22, 23, 24, 25, 26, 27, 28, 29, 30, 31, 32, 33, 34, 35, 36, 37, 38, 39, 40, 41, 42, 43, 44, 45, 46, 47, 48, 49, 50, 51, 52, 53, 54, 55, 56, 57, 58, 59, 60, 61, 62, 74, 75, 76, 77, 78, 79, 80, 81, 82, 83, 84, 85, 86, 87, 88, 89, 90, 91, 92, 93, 94, 95, 96, 97] (by decide +kernel) (by decide +kernel)) (goodIn_sub (fun _ h => List.mem_cons_of_mem _ (List.mem_append_right _ h)) (by decide +kernel))
set_option maxRecDepth 20000 in
theorem gL_isCopied_L_incremented : GoodIn wsL_isCopied (va_wsS RL 97 yL_incremented wsL_incremented) := goodIn_app (goodIn_of _ (by decide +kernel)) ggL_isCopied_L_incremented
set_option maxRecDepth 20000 in
theorem ggL_isCopied_L_ones : GoodIn wsL_isCopied wsL_ones := goodIn_r _ [65] (by decide +kernel) (by decide +kernel)
set_option maxRecDepth 20000 in
theorem gL_isCopied_L_ones : GoodIn wsL_isCopied (va_wsS RL 77 yL_ones wsL_ones) := goodIn_app (goodIn_of _ (by decide +kernel)) ggL_isCopied_L_ones
set_option maxRecDepth 20000 in
theorem ggL_isCopied_X4_full : GoodIn wsL_isCopied wsX4_full := goodIn_ca (goodIn_r _ [69, 11, 12, 13, 14, 15, 16, 17, 18, 25, 26, 27, 28, 29, 30, 31, 32, 33, 34, 35, 36, 70, 71, 72, 40, 73, 52, 53, 54, 55, 56, 57, 58, 59, 60, 22, 61, 62, 24, 74, 75, 76, 77, 78, 79, 80, 81, 82, 83, 84, 85, 86, 87, 88, 89, 90, 91, 92, 93, 94, 95, 96, 97] (by decide +kernel) (by decide +kernel)) (goodIn_sub (fun _ h => List.mem_cons_of_mem _ (List.mem_append_right _ h)) (by decide +kernel))
set_option maxRecDepth 20000 in
theorem gL_isCopied_X4_full : GoodIn wsL_isCopied (wsV RL 101 RX4 yX4_full wsX4_full) := goodIn_app (goodIn_of _ (by decide +kernel)) ggL_isCopied_X4_full
theorem dL_isCopied_0 : decode cL_isCopied 0 = .ok (.iconst (-1), 1) := by decide +kernel
theorem dL_isCopied_1 : decode cL_isCopied 1 = .ok (.istore 6, 2) := by decide +kernel
theorem dL_isCopied_3 : decode cL_isCopied 3 = .ok (.iconst 0, 1) := by decide +kernel
theorem dL_isCopied_4 : decode cL_isCopied 4 = .ok (.istore 7, 2) := by decide +kernel
theorem dL_isCopied_6 : decode cL_isCopied 6 = .ok (.iload 7, 2) := by decide +kernel
theorem dL_isCopied_8 : decode cL_isCopied 8 = .ok (.aload 4, 2) := by decide +kernel
theorem dL_isCopied_10 : decode cL_isCopied 10 = .ok (.iconst 0, 1) := by decide +kernel
theorem dL_isCopied_11 : decode cL_isCopied 11 = .ok (.iaload, 1) := by decide +kernel
theorem dL_isCopied_12 : decode cL_isCopied 12 = .ok (.if_icmp .ge 31, 3) := by decide +kernel
theorem dL_isCopied_15 : decode cL_isCopied 15 = .ok (.aload 4, 2) := by decide +kernel
theorem dL_isCopied_17 : decode cL_isCopied 17 = .ok (.iconst 2, 1) := by decide +kernel
theorem dL_isCopied_18 : decode cL_isCopied 18 = .ok (.iaload, 1) := by decide +kernel
theorem dL_isCopied_19 : decode cL_isCopied 19 = .ok (.iload 7, 2) := by decide +kernel
theorem dL_isCopied_21 : decode cL_isCopied 21 = .ok (.ishr, 1) := by decide +kernel
theorem dL_isCopied_22 : decode cL_isCopied 22 = .ok (.iconst 1, 1) := by decide +kernel
theorem dL_isCopied_23 : decode cL_isCopied 23 = .ok (.iand, 1) := by decide +kernel
theorem dL_isCopied_24 : decode cL_isCopied 24 = .ok (.iconst 1, 1) := by decide +kernel
theorem dL_isCopied_25 : decode cL_isCopied 25 = .ok (.if_icmp .ne 8, 3) := by decide +kernel
theorem dL_isCopied_28 : decode cL_isCopied 28 = .ok (.iload 7, 2) := by decide +kernel
theorem dL_isCopied_30 : decode cL_isCopied 30 = .ok (.goto 5, 3) := by decide +kernel
theorem dL_isCopied_33 : decode cL_isCopied 33 = .ok (.iload 6, 2) := by decide +kernel
theorem dL_isCopied_35 : decode cL_isCopied 35 = .ok (.istore 6, 2) := by decide +kernel
theorem dL_isCopied_37 : decode cL_isCopied 37 = .ok (.iinc 7 1, 3) := by decide +kernel
theorem dL_isCopied_40 : decode cL_isCopied 40 = .ok (.goto (-34), 3) := by decide +kernel
theorem dL_isCopied_43 : decode cL_isCopied 43 = .ok (.iload 5, 2) := by decide +kernel
theorem dL_isCopied_45 : decode cL_isCopied 45 = .ok (.ifCond .ne 23, 3) := by decide +kernel
theorem dL_isCopied_48 : decode cL_isCopied 48 = .ok (.iload 6, 2) := by decide +kernel
theorem dL_isCopied_50 : decode cL_isCopied 50 = .ok (.ifCond .ge 18, 3) := by decide +kernel
theorem dL_isCopied_53 : decode cL_isCopied 53 = .ok (.aload_n 0, 1) := by decide +kernel
theorem dL_isCopied_54 : decode cL_isCopied 54 = .ok (.invokestatic 97, 3) := by decide +kernel
theorem dL_isCopied_57 : decode cL_isCopied 57 = .ok (.bipush (-5), 2) := by decide +kernel
theorem dL_isCopied_59 : decode cL_isCopied 59 = .ok (.if_icmp .ne 7, 3) := by decide +kernel
theorem dL_isCopied_62 : decode cL_isCopied 62 = .ok (.iconst 1, 1) := by decide +kernel
theorem dL_isCopied_63 : decode cL_isCopied 63 = .ok (.goto 4, 3) := by decide +kernel
theorem dL_isCopied_66 : decode cL_isCopied 66 = .ok (.iconst 0, 1) := by decide +kernel
theorem dL_isCopied_67 : decode cL_isCopied 67 = .ok (.ireturn, 1) := by decide +kernel
theorem dL_isCopied_68 : decode cL_isCopied 68 = .ok (.aload 4, 2) := by decide +kernel
theorem dL_isCopied_70 : decode cL_isCopied 70 = .ok (.iconst 0, 1) := by decide +kernel
theorem dL_isCopied_71 : decode cL_isCopied 71 = .ok (.iaload, 1) := by decide +kernel
theorem dL_isCopied_72 : decode cL_isCopied 72 = .ok (.istore 7, 2) := by decide +kernel
theorem dL_isCopied_74 : decode cL_isCopied 74 = .ok (.aload_n 1, 1) := by decide +kernel
theorem dL_isCopied_75 : decode cL_isCopied 75 = .ok (.iload 7, 2) := by decide +kernel
theorem dL_isCopied_77 : decode cL_isCopied 77 = .ok (.aload 4, 2) := by decide +kernel
theorem dL_isCopied_79 : decode cL_isCopied 79 = .ok (.iconst 1, 1) := by decide +kernel
theorem dL_isCopied_80 : decode cL_isCopied 80 = .ok (.iaload, 1) := by decide +kernel
theorem dL_isCopied_81 : decode cL_isCopied 81 = .ok (.iastore, 1) := by decide +kernel
theorem dL_isCopied_82 : decode cL_isCopied 82 = .ok (.aload_n 1, 1) := by decide +kernel
theorem dL_isCopied_83 : decode cL_isCopied 83 = .ok (.bipush 14, 2) := by decide +kernel
theorem dL_isCopied_85 : decode cL_isCopied 85 = .ok (.iload 7, 2) := by decide +kernel
theorem dL_isCopied_87 : decode cL_isCopied 87 = .ok (.iadd, 1) := by decide +kernel
theorem dL_isCopied_88 : decode cL_isCopied 88 = .ok (.iload 5, 2) := by decide +kernel
theorem dL_isCopied_90 : decode cL_isCopied 90 = .ok (.ifCond .eq 7, 3) := by decide +kernel
theorem dL_isCopied_93 : decode cL_isCopied 93 = .ok (.iconst (-1), 1) := by decide +kernel
theorem dL_isCopied_94 : decode cL_isCopied 94 = .ok (.goto 5, 3) := by decide +kernel
theorem dL_isCopied_97 : decode cL_isCopied 97 = .ok (.iload 6, 2) := by decide +kernel
theorem dL_isCopied_99 : decode cL_isCopied 99 = .ok (.iastore, 1) := by decide +kernel
theorem dL_isCopied_100 : decode cL_isCopied 100 = .ok (.aload_n 1, 1) := by decide +kernel
theorem dL_isCopied_101 : decode cL_isCopied 101 = .ok (.bipush 28, 2) := by decide +kernel
theorem dL_isCopied_103 : decode cL_isCopied 103 = .ok (.iload 7, 2) := by decide +kernel
theorem dL_isCopied_105 : decode cL_isCopied 105 = .ok (.iadd, 1) := by decide +kernel
theorem dL_isCopied_106 : decode cL_isCopied 106 = .ok (.iload 5, 2) := by decide +kernel
theorem dL_isCopied_108 : decode cL_isCopied 108 = .ok (.ifCond .eq 8, 3) := by decide +kernel
theorem dL_isCopied_111 : decode cL_isCopied 111 = .ok (.bipush 10, 2) := by decide +kernel
theorem dL_isCopied_113 : decode cL_isCopied 113 = .ok (.goto 13, 3) := by decide +kernel
theorem dL_isCopied_116 : decode cL_isCopied 116 = .ok (.aload_n 1, 1) := by decide +kernel
theorem dL_isCopied_117 : decode cL_isCopied 117 = .ok (.bipush 42, 2) := by decide +kernel
theorem dL_isCopied_119 : decode cL_isCopied 119 = .ok (.iload 6, 2) := by decide +kernel
theorem dL_isCopied_121 : decode cL_isCopied 121 = .ok (.iadd, 1) := by decide +kernel
theorem dL_isCopied_122 : decode cL_isCopied 122 = .ok (.iaload, 1) := by decide +kernel
theorem dL_isCopied_123 : decode cL_isCopied 123 = .ok (.invokestatic 77, 3) := by decide +kernel
theorem dL_isCopied_126 : decode cL_isCopied 126 = .ok (.iastore, 1) := by decide +kernel
theorem dL_isCopied_127 : decode cL_isCopied 127 = .ok (.aload_n 1, 1) := by decide +kernel
theorem dL_isCopied_128 : decode cL_isCopied 128 = .ok (.bipush 42, 2) := by decide +kernel
theorem dL_isCopied_130 : decode cL_isCopied 130 = .ok (.iload 7, 2) := by decide +kernel
theorem dL_isCopied_132 : decode cL_isCopied 132 = .ok (.iadd, 1) := by decide +kernel
theorem dL_isCopied_133 : decode cL_isCopied 133 = .ok (.iconst 0, 1) := by decide +kernel
theorem dL_isCopied_134 : decode cL_isCopied 134 = .ok (.iastore, 1) := by decide +kernel
theorem dL_isCopied_135 : decode cL_isCopied 135 = .ok (.iconst 0, 1) := by decide +kernel
theorem dL_isCopied_136 : decode cL_isCopied 136 = .ok (.istore 8, 2) := by decide +kernel
theorem dL_isCopied_138 : decode cL_isCopied 138 = .ok (.iload 8, 2) := by decide +kernel
theorem dL_isCopied_140 : decode cL_isCopied 140 = .ok (.iconst 4, 1) := by decide +kernel
theorem dL_isCopied_141 : decode cL_isCopied 141 = .ok (.if_icmp .ge 22, 3) := by decide +kernel
theorem dL_isCopied_144 : decode cL_isCopied 144 = .ok (.aload_n 2, 1) := by decide +kernel
theorem dL_isCopied_145 : decode cL_isCopied 145 = .ok (.iconst 4, 1) := by decide +kernel
theorem dL_isCopied_146 : decode cL_isCopied 146 = .ok (.iload 7, 2) := by decide +kernel
theorem dL_isCopied_148 : decode cL_isCopied 148 = .ok (.imul, 1) := by decide +kernel
theorem dL_isCopied_149 : decode cL_isCopied 149 = .ok (.iload 8, 2) := by decide +kernel
theorem dL_isCopied_151 : decode cL_isCopied 151 = .ok (.iadd, 1) := by decide +kernel
theorem dL_isCopied_152 : decode cL_isCopied 152 = .ok (.aload_n 3, 1) := by decide +kernel
theorem dL_isCopied_153 : decode cL_isCopied 153 = .ok (.iload 8, 2) := by decide +kernel
theorem dL_isCopied_155 : decode cL_isCopied 155 = .ok (.iaload, 1) := by decide +kernel
theorem dL_isCopied_156 : decode cL_isCopied 156 = .ok (.iastore, 1) := by decide +kernel
theorem dL_isCopied_157 : decode cL_isCopied 157 = .ok (.iinc 8 1, 3) := by decide +kernel
theorem dL_isCopied_160 : decode cL_isCopied 160 = .ok (.goto (-22), 3) := by decide +kernel
theorem dL_isCopied_163 : decode cL_isCopied 163 = .ok (.aload 4, 2) := by decide +kernel
theorem dL_isCopied_165 : decode cL_isCopied 165 = .ok (.iconst 2, 1) := by decide +kernel
theorem dL_isCopied_166 : decode cL_isCopied 166 = .ok (.dup2, 1) := by decide +kernel
theorem dL_isCopied_167 : decode cL_isCopied 167 = .ok (.iaload, 1) := by decide +kernel
theorem dL_isCopied_168 : decode cL_isCopied 168 = .ok (.iconst 1, 1) := by decide +kernel
theorem dL_isCopied_169 : decode cL_isCopied 169 = .ok (.iload 7, 2) := by decide +kernel
theorem dL_isCopied_171 : decode cL_isCopied 171 = .ok (.ishl, 1) := by decide +kernel
theorem dL_isCopied_172 : decode cL_isCopied 172 = .ok (.ior, 1) := by decide +kernel
theorem dL_isCopied_173 : decode cL_isCopied 173 = .ok (.iastore, 1) := by decide +kernel
theorem dL_isCopied_174 : decode cL_isCopied 174 = .ok (.aload 4, 2) := by decide +kernel
theorem dL_isCopied_176 : decode cL_isCopied 176 = .ok (.iconst 0, 1) := by decide +kernel
theorem dL_isCopied_177 : decode cL_isCopied 177 = .ok (.dup2, 1) := by decide +kernel
theorem dL_isCopied_178 : decode cL_isCopied 178 = .ok (.iaload, 1) := by decide +kernel
theorem dL_isCopied_179 : decode cL_isCopied 179 = .ok (.iconst 1, 1) := by decide +kernel
theorem dL_isCopied_180 : decode cL_isCopied 180 = .ok (.iadd, 1) := by decide +kernel
theorem dL_isCopied_181 : decode cL_isCopied 181 = .ok (.iastore, 1) := by decide +kernel
theorem dL_isCopied_182 : decode cL_isCopied 182 = .ok (.iload 5, 2) := by decide +kernel
theorem dL_isCopied_184 : decode cL_isCopied 184 = .ok (.ifCond .eq 10, 3) := by decide +kernel
theorem dL_isCopied_187 : decode cL_isCopied 187 = .ok (.aload_n 0, 1) := by decide +kernel
theorem dL_isCopied_188 : decode cL_isCopied 188 = .ok (.invokevirtual 101, 3) := by decide +kernel
theorem dL_isCopied_191 : decode cL_isCopied 191 = .ok (.goto 7, 3) := by decide +kernel
theorem dL_isCopied_194 : decode cL_isCopied 194 = .ok (.aload_n 0, 1) := by decide +kernel
theorem dL_isCopied_195 : decode cL_isCopied 195 = .ok (.invokestatic 97, 3) := by decide +kernel
theorem dL_isCopied_198 : decode cL_isCopied 198 = .ok (.iload 7, 2) := by decide +kernel
theorem dL_isCopied_200 : decode cL_isCopied 200 = .ok (.if_icmp .ne 7, 3) := by decide +kernel
theorem dL_isCopied_203 : decode cL_isCopied 203 = .ok (.iconst 1, 1) := by decide +kernel
theorem dL_isCopied_204 : decode cL_isCopied 204 = .ok (.goto 4, 3) := by decide +kernel
theorem dL_isCopied_207 : decode cL_isCopied 207 = .ok (.iconst 0, 1) := by decide +kernel
theorem dL_isCopied_208 : decode cL_isCopied 208 = .ok (.ireturn, 1) := by decide +kernel
set_option maxRecDepth 20000 in
theorem ggL_acts_X4_change : GoodIn wsL_acts wsX4_change := goodIn_ca (goodIn_ca (goodIn_ca (goodIn_r _ [5, 6, 7, 8, 9, 10, 11, 12, 4, 13, 14, 15, 16, 17, 18, 19, 20, 21, 22, 23, 24, 25, 26, 27, 28, 241, 242, 243, 244, 245, 246, 247, 248] (by decide +kernel) (by decide +kernel)) (goodIn_sub (fun _ h => List.mem_cons_of_mem _ (List.mem_append_left _ (List.mem_append_left _ (List.mem_append_right _ h)))) (by decide +kernel))) (goodIn_sub (fun _ h => List.mem_cons_of_mem _ (List.mem_append_left _ (List.mem_append_right _ h))) (by decide +kernel))) (goodIn_sub (fun _ h => List.mem_cons_of_mem _ (List.mem_append_right _ h)) (by decide +kernel))
set_option maxRecDepth 20000 in
theorem gL_acts_X4_change : GoodIn wsL_acts (wsV RL 104 RX4 yX4_change wsX4_change) := goodIn_app (goodIn_of _ (by decide +kernel)) ggL_acts_X4_change
set_option maxRecDepth 20000 in
theorem ggL_acts_X4_pass : GoodIn wsL_acts wsX4_pass := goodIn_ca (goodIn_ca (goodIn_r _ [32, 6, 7, 8, 9, 33, 241, 242, 243, 244] (by decide +kernel) (by decide +kernel)) (goodIn_sub (fun _ h => List.mem_cons_of_mem _ (List.mem_append_left _ (List.mem_append_left _ (List.mem_append_right _ h)))) (by decide +kernel))) (goodIn_sub (fun _ h => List.mem_cons_of_mem _ (List.mem_append_left _ (List.mem_append_right _ h))) (by decide +kernel))
set_option maxRecDepth 20000 in
theorem gL_acts_X4_pass : GoodIn wsL_acts (wsV RL 107 RX4 yX4_pass wsX4_pass) := goodIn_app (goodIn_of _ (by decide +kernel)) ggL_acts_X4_pass
set_option maxRecDepth 20000 in
theorem ggL_acts_L_isCopied : GoodIn wsL_acts wsL_isCopied := goodIn_ca (goodIn_r _ [37, 38, 39, 36, 40, 41, 42, 43, 44, 4, 45, 8, 9, 46, 47, 48, 49, 33, 10, 50, 51, 52, 53, 54, 55, 56, 57, 58, 59, 60, 61, 62, 63, 64, 65, 66, 67, 68, 69, 70, 19, 71, 72, 73, 74, 75, 26, 27, 76, 17, 18, 20, 21, 77, 78, 79, 80, 81, 82, 83, 84, 85, 86, 87, 88, 89, 90, 91, 92, 93, 94, 95, 96, 97, 241, 242, 243, 244, 249, 250, 251, 252, 253, 254, 255, 256, 257, 258, 259, 260, 261, 262, 263, 264, 245, 246, 247, 248] (by decide +kernel) (by decide +kernel)) (goodIn_sub (fun _ h => List.mem_cons_of_mem _ (List.mem_append_left _ (List.mem_append_right _ h))) (by decide +kernel))
set_option maxRecDepth 20000 in
theorem gL_acts_L_isCopied : GoodIn wsL_acts (va_wsS RL 110 yL_isCopied wsL_isCopied) := goodIn_app (goodIn_of _ (by decide +kernel)) ggL_acts_L_isCopied
set_option maxRecDepth 20000 in
theorem ggL_acts_L_chain : GoodIn wsL_acts wsL_chain := goodIn_r _ [100] (by decide +kernel) (by decide +kernel)
set_option maxRecDepth 20000 in
theorem gL_acts_L_chain : GoodIn wsL_acts (va_wsS RL 15 yL_chain wsL_chain) := goodIn_app (goodIn_of _ (by decide +kernel)) ggL_acts_L_chain
set_option maxRecDepth 20000 in
theorem ggL_acts_L_drilled : GoodIn wsL_acts wsL_drilled := goodIn_ca (goodIn_r _ [103, 104, 105, 106, 107, 4, 108, 109, 110, 111, 112, 14, 15, 46, 113, 114, 115, 53, 116, 55, 117, 118, 119, 49, 120, 121, 66, 122, 123, 124, 125, 126, 127, 128, 129, 130, 241, 242, 243, 244, 249, 250, 251, 252, 253, 254, 255, 256, 257, 258, 259, 260, 261, 262, 263, 264] (by decide +kernel) (by decide +kernel)) (goodIn_sub (fun _ h => List.mem_cons_of_mem _ (List.mem_append_right _ h)) (by decide +kernel))
set_option maxRecDepth 20000 in
theorem gL_acts_L_drilled : GoodIn wsL_acts (va_wsS RL 114 yL_drilled wsL_drilled) := goodIn_app (goodIn_of _ (by decide +kernel)) ggL_acts_L_drilled
set_option maxRecDepth 20000 in
theorem ggL_acts_L_ones : GoodIn wsL_acts wsL_ones := goodIn_r _ [89] (by decide +kernel) (by decide +kernel)
set_option maxRecDepth 20000 in
theorem gL_acts_L_ones : GoodIn wsL_acts (va_wsS RL 77 yL_ones wsL_ones) := goodIn_app (goodIn_of _ (by decide +kernel)) ggL_acts_L_ones
set_option maxRecDepth 20000 in
theorem ggL_acts_L_promised : GoodIn wsL_acts wsL_promised := goodIn_r _ [133] (by decide +kernel) (by decide +kernel)
set_option maxRecDepth 20000 in
theorem gL_acts_L_promised : GoodIn wsL_acts (va_wsS RL 9 yL_promised wsL_promised) := goodIn_app (goodIn_of _ (by decide +kernel)) ggL_acts_L_promised
set_option maxRecDepth 20000 in
theorem ggL_acts_L_damaged : GoodIn wsL_acts wsL_damaged := goodIn_ca (goodIn_r _ [136, 104, 137, 138, 139, 4, 140, 46, 109, 110, 111, 112, 14, 15, 113, 114, 115, 53, 116, 55, 141, 142, 143, 144, 145, 146, 147, 148, 149, 150, 151, 152, 153, 154, 155, 156, 157, 158, 49, 159, 65, 160, 161, 162, 163, 164, 66, 165, 118, 119, 120, 121, 254, 255, 256, 257, 258, 259, 260, 261, 262, 263, 264, 241, 242, 243, 244, 249, 250, 251, 252, 253] (by decide +kernel) (by decide +kernel)) (goodIn_sub (fun _ h => List.mem_cons_of_mem _ (List.mem_append_right _ h)) (by decide +kernel))
set_option maxRecDepth 20000 in
theorem gL_acts_L_damaged : GoodIn wsL_acts (va_wsS RL 117 yL_damaged wsL_damaged) := goodIn_app (goodIn_of _ (by decide +kernel)) ggL_acts_L_damaged
set_option maxRecDepth 20000 in
theorem ggL_acts_X4_setRules : GoodIn wsL_acts wsX4_setRules := goodIn_ca (goodIn_r _ [169, 6, 7, 46, 170, 171, 172, 53, 173, 55, 145, 146, 147, 148, 149, 150, 151, 152, 153, 154, 155, 156, 157, 158, 49, 159, 65, 160, 161, 162, 163, 164, 66, 241, 242, 243, 244, 249, 250, 251, 252, 253, 254, 255, 256, 257, 258, 259, 260, 261, 262, 263, 264] (by decide +kernel) (by decide +kernel)) (goodIn_sub (fun _ h => List.mem_cons_of_mem _ (List.mem_append_left _ (List.mem_append_left _ (List.mem_append_right _ h)))) (by decide +kernel))
set_option maxRecDepth 20000 in
theorem gL_acts_X4_setRules : GoodIn wsL_acts (wsV RL 120 RX4 yX4_setRules wsX4_setRules) := goodIn_app (goodIn_of _ (by decide +kernel)) ggL_acts_X4_setRules
set_option maxRecDepth 20000 in
theorem ggL_acts_X4_thin : GoodIn wsL_acts wsX4_thin := goodIn_r _ [177, 46, 178, 179, 180, 53, 181, 55, 145, 146, 147, 148, 149, 150, 151, 152, 153, 154, 155, 156, 157, 158, 49, 159, 65, 160, 161, 162, 163, 164, 66, 182, 183, 184, 185, 186, 73, 74, 75, 187, 188, 189, 190, 191, 192, 193, 194, 81, 241, 242, 243, 244, 249, 250, 251, 252, 253, 254, 255, 256, 257, 258, 259, 260, 261, 262, 263, 264] (by decide +kernel) (by decide +kernel)
set_option maxRecDepth 20000 in
theorem gL_acts_X4_thin : GoodIn wsL_acts (wsV RL 124 RX4 yX4_thin wsX4_thin) := goodIn_app (goodIn_of _ (by decide +kernel)) ggL_acts_X4_thin
set_option maxRecDepth 20000 in
theorem ggL_acts_L_thin : GoodIn wsL_acts wsL_thin := goodIn_r _ [197, 198, 199, 36, 200, 131, 132, 133, 98, 99, 100] (by decide +kernel) (by decide +kernel)
set_option maxRecDepth 20000 in
theorem gL_acts_L_thin : GoodIn wsL_acts (va_wsS RL 127 yL_thin wsL_thin) := goodIn_app (goodIn_of _ (by decide +kernel)) ggL_acts_L_thin
set_option maxRecDepth 20000 in
theorem ggL_acts_L_swapped : GoodIn wsL_acts wsL_swapped := goodIn_ca (goodIn_ca (goodIn_r _ [203, 204, 41, 205, 206, 207, 4, 208, 6, 7, 8, 9, 209, 210, 211, 212, 213, 33, 214, 215, 216, 217, 218, 219, 220, 221, 222, 223, 224, 225, 226, 227, 228, 229, 230, 231, 232, 241, 242, 243, 244, 265] (by decide +kernel) (by decide +kernel)) (goodIn_sub (fun _ h => List.mem_cons_of_mem _ (List.mem_append_left _ (List.mem_append_left _ (List.mem_append_right _ h)))) (by decide +kernel))) (goodIn_sub (fun _ h => List.mem_cons_of_mem _ (List.mem_append_left _ (List.mem_append_right _ h))) (by decide +kernel))
set_option maxRecDepth 20000 in
theorem gL_acts_L_swapped : GoodIn wsL_acts (va_wsS RL 129 yL_swapped wsL_swapped) := goodIn_app (goodIn_of _ (by decide +kernel)) ggL_acts_L_swapped
set_option maxRecDepth 20000 in
theorem ggL_acts_X4_alarm : GoodIn wsL_acts wsX4_alarm := goodIn_ca (goodIn_r _ [236, 6, 7, 209, 33, 237, 238, 239, 217, 240, 228, 229, 230, 231, 223, 241, 242, 243, 244, 265] (by decide +kernel) (by decide +kernel)) (goodIn_sub (fun _ h => List.mem_cons_of_mem _ (List.mem_append_left _ (List.mem_append_left _ (List.mem_append_right _ h)))) (by decide +kernel))
set_option maxRecDepth 20000 in
theorem gL_acts_X4_alarm : GoodIn wsL_acts (wsV RL 132 RX4 yX4_alarm wsX4_alarm) := goodIn_app (goodIn_of _ (by decide +kernel)) ggL_acts_X4_alarm
theorem dL_acts_0 : decode cL_acts 0 = .ok (.iload 6, 2) := by decide +kernel
theorem dL_acts_2 : decode cL_acts 2 = .ok (.iconst 5, 1) := by decide +kernel
theorem dL_acts_3 : decode cL_acts 3 = .ok (.if_icmp .ge 94, 3) := by decide +kernel
theorem dL_acts_6 : decode cL_acts 6 = .ok (.iload 7, 2) := by decide +kernel
theorem dL_acts_8 : decode cL_acts 8 = .ok (.iconst 4, 1) := by decide +kernel
theorem dL_acts_9 : decode cL_acts 9 = .ok (.irem, 1) := by decide +kernel
theorem dL_acts_10 : decode cL_acts 10 = .ok (.istore 8, 2) := by decide +kernel
theorem dL_acts_12 : decode cL_acts 12 = .ok (.aload_n 3, 1) := by decide +kernel
theorem dL_acts_13 : decode cL_acts 13 = .ok (.iload 8, 2) := by decide +kernel
theorem dL_acts_15 : decode cL_acts 15 = .ok (.iaload, 1) := by decide +kernel
theorem dL_acts_16 : decode cL_acts 16 = .ok (.istore 9, 2) := by decide +kernel
theorem dL_acts_18 : decode cL_acts 18 = .ok (.aload_n 3, 1) := by decide +kernel
theorem dL_acts_19 : decode cL_acts 19 = .ok (.iload 8, 2) := by decide +kernel
theorem dL_acts_21 : decode cL_acts 21 = .ok (.iload 7, 2) := by decide +kernel
theorem dL_acts_23 : decode cL_acts 23 = .ok (.iconst 4, 1) := by decide +kernel
theorem dL_acts_24 : decode cL_acts 24 = .ok (.idiv, 1) := by decide +kernel
theorem dL_acts_25 : decode cL_acts 25 = .ok (.iconst 3, 1) := by decide +kernel
theorem dL_acts_26 : decode cL_acts 26 = .ok (.irem, 1) := by decide +kernel
theorem dL_acts_27 : decode cL_acts 27 = .ok (.ifCond .ne 8, 3) := by decide +kernel
theorem dL_acts_30 : decode cL_acts 30 = .ok (.iload 9, 2) := by decide +kernel
theorem dL_acts_32 : decode cL_acts 32 = .ok (.goto 11, 3) := by decide +kernel
theorem dL_acts_35 : decode cL_acts 35 = .ok (.iload 7, 2) := by decide +kernel
theorem dL_acts_37 : decode cL_acts 37 = .ok (.bipush 12, 2) := by decide +kernel
theorem dL_acts_39 : decode cL_acts 39 = .ok (.idiv, 1) := by decide +kernel
theorem dL_acts_40 : decode cL_acts 40 = .ok (.bipush 100, 2) := by decide +kernel
theorem dL_acts_42 : decode cL_acts 42 = .ok (.irem, 1) := by decide +kernel
theorem dL_acts_43 : decode cL_acts 43 = .ok (.iastore, 1) := by decide +kernel
theorem dL_acts_44 : decode cL_acts 44 = .ok (.iconst 0, 1) := by decide +kernel
theorem dL_acts_45 : decode cL_acts 45 = .ok (.istore 10, 2) := by decide +kernel
theorem dL_acts_47 : decode cL_acts 47 = .ok (.iload 10, 2) := by decide +kernel
theorem dL_acts_49 : decode cL_acts 49 = .ok (.aload 4, 2) := by decide +kernel
theorem dL_acts_51 : decode cL_acts 51 = .ok (.iconst 0, 1) := by decide +kernel
theorem dL_acts_52 : decode cL_acts 52 = .ok (.iaload, 1) := by decide +kernel
theorem dL_acts_53 : decode cL_acts 53 = .ok (.if_icmp .ge 23, 3) := by decide +kernel
theorem dL_acts_56 : decode cL_acts 56 = .ok (.aload_n 1, 1) := by decide +kernel
theorem dL_acts_57 : decode cL_acts 57 = .ok (.bipush 42, 2) := by decide +kernel
theorem dL_acts_59 : decode cL_acts 59 = .ok (.iload 10, 2) := by decide +kernel
theorem dL_acts_61 : decode cL_acts 61 = .ok (.iadd, 1) := by decide +kernel
theorem dL_acts_62 : decode cL_acts 62 = .ok (.dup2, 1) := by decide +kernel
theorem dL_acts_63 : decode cL_acts 63 = .ok (.iaload, 1) := by decide +kernel
theorem dL_acts_64 : decode cL_acts 64 = .ok (.iconst 1, 1) := by decide +kernel
theorem dL_acts_65 : decode cL_acts 65 = .ok (.iload 8, 2) := by decide +kernel
theorem dL_acts_67 : decode cL_acts 67 = .ok (.ishl, 1) := by decide +kernel
theorem dL_acts_68 : decode cL_acts 68 = .ok (.ior, 1) := by decide +kernel
theorem dL_acts_69 : decode cL_acts 69 = .ok (.iastore, 1) := by decide +kernel
theorem dL_acts_70 : decode cL_acts 70 = .ok (.iinc 10 1, 3) := by decide +kernel
theorem dL_acts_73 : decode cL_acts 73 = .ok (.goto (-26), 3) := by decide +kernel
theorem dL_acts_76 : decode cL_acts 76 = .ok (.aload_n 0, 1) := by decide +kernel
theorem dL_acts_77 : decode cL_acts 77 = .ok (.iload 8, 2) := by decide +kernel
theorem dL_acts_79 : decode cL_acts 79 = .ok (.aload_n 3, 1) := by decide +kernel
theorem dL_acts_80 : decode cL_acts 80 = .ok (.iload 8, 2) := by decide +kernel
theorem dL_acts_82 : decode cL_acts 82 = .ok (.iaload, 1) := by decide +kernel
theorem dL_acts_83 : decode cL_acts 83 = .ok (.invokevirtual 104, 3) := by decide +kernel
theorem dL_acts_86 : decode cL_acts 86 = .ok (.iload 9, 2) := by decide +kernel
theorem dL_acts_88 : decode cL_acts 88 = .ok (.if_icmp .ne 7, 3) := by decide +kernel
theorem dL_acts_91 : decode cL_acts 91 = .ok (.iconst 1, 1) := by decide +kernel
theorem dL_acts_92 : decode cL_acts 92 = .ok (.goto 4, 3) := by decide +kernel
theorem dL_acts_95 : decode cL_acts 95 = .ok (.iconst 0, 1) := by decide +kernel
theorem dL_acts_96 : decode cL_acts 96 = .ok (.ireturn, 1) := by decide +kernel
theorem dL_acts_97 : decode cL_acts 97 = .ok (.iload 6, 2) := by decide +kernel
theorem dL_acts_99 : decode cL_acts 99 = .ok (.bipush 8, 2) := by decide +kernel
theorem dL_acts_101 : decode cL_acts 101 = .ok (.if_icmp .ge 80, 3) := by decide +kernel
theorem dL_acts_104 : decode cL_acts 104 = .ok (.aload 4, 2) := by decide +kernel
theorem dL_acts_106 : decode cL_acts 106 = .ok (.iconst 1, 1) := by decide +kernel
theorem dL_acts_107 : decode cL_acts 107 = .ok (.iaload, 1) := by decide +kernel
theorem dL_acts_108 : decode cL_acts 108 = .ok (.bipush 49, 2) := by decide +kernel
theorem dL_acts_110 : decode cL_acts 110 = .ok (.if_icmp .le 5, 3) := by decide +kernel
theorem dL_acts_113 : decode cL_acts 113 = .ok (.iconst 1, 1) := by decide +kernel
theorem dL_acts_114 : decode cL_acts 114 = .ok (.ireturn, 1) := by decide +kernel
theorem dL_acts_115 : decode cL_acts 115 = .ok (.aload 4, 2) := by decide +kernel
theorem dL_acts_117 : decode cL_acts 117 = .ok (.iconst 1, 1) := by decide +kernel
theorem dL_acts_118 : decode cL_acts 118 = .ok (.dup2, 1) := by decide +kernel
theorem dL_acts_119 : decode cL_acts 119 = .ok (.iaload, 1) := by decide +kernel
theorem dL_acts_120 : decode cL_acts 120 = .ok (.iconst 1, 1) := by decide +kernel
theorem dL_acts_121 : decode cL_acts 121 = .ok (.iload 7, 2) := by decide +kernel
theorem dL_acts_123 : decode cL_acts 123 = .ok (.iload 7, 2) := by decide +kernel
theorem dL_acts_125 : decode cL_acts 125 = .ok (.bipush 7, 2) := by decide +kernel
theorem dL_acts_127 : decode cL_acts 127 = .ok (.irem, 1) := by decide +kernel
theorem dL_acts_128 : decode cL_acts 128 = .ok (.ifCond .ne 8, 3) := by decide +kernel
theorem dL_acts_131 : decode cL_acts 131 = .ok (.bipush 9, 2) := by decide +kernel
theorem dL_acts_133 : decode cL_acts 133 = .ok (.goto 4, 3) := by decide +kernel
theorem dL_acts_136 : decode cL_acts 136 = .ok (.iconst 2, 1) := by decide +kernel
theorem dL_acts_137 : decode cL_acts 137 = .ok (.irem, 1) := by decide +kernel
theorem dL_acts_138 : decode cL_acts 138 = .ok (.iadd, 1) := by decide +kernel
theorem dL_acts_139 : decode cL_acts 139 = .ok (.iadd, 1) := by decide +kernel
theorem dL_acts_140 : decode cL_acts 140 = .ok (.iastore, 1) := by decide +kernel
theorem dL_acts_141 : decode cL_acts 141 = .ok (.iconst 1, 1) := by decide +kernel
theorem dL_acts_142 : decode cL_acts 142 = .ok (.iload 7, 2) := by decide +kernel
theorem dL_acts_144 : decode cL_acts 144 = .ok (.iload 7, 2) := by decide +kernel
theorem dL_acts_146 : decode cL_acts 146 = .ok (.bipush 7, 2) := by decide +kernel
theorem dL_acts_148 : decode cL_acts 148 = .ok (.irem, 1) := by decide +kernel
theorem dL_acts_149 : decode cL_acts 149 = .ok (.ifCond .ne 8, 3) := by decide +kernel
theorem dL_acts_152 : decode cL_acts 152 = .ok (.bipush 9, 2) := by decide +kernel
theorem dL_acts_154 : decode cL_acts 154 = .ok (.goto 4, 3) := by decide +kernel
theorem dL_acts_157 : decode cL_acts 157 = .ok (.iconst 2, 1) := by decide +kernel
theorem dL_acts_158 : decode cL_acts 158 = .ok (.irem, 1) := by decide +kernel
theorem dL_acts_159 : decode cL_acts 159 = .ok (.iadd, 1) := by decide +kernel
theorem dL_acts_160 : decode cL_acts 160 = .ok (.istore 8, 2) := by decide +kernel
theorem dL_acts_162 : decode cL_acts 162 = .ok (.aload_n 0, 1) := by decide +kernel
theorem dL_acts_163 : decode cL_acts 163 = .ok (.iload 8, 2) := by decide +kernel
theorem dL_acts_165 : decode cL_acts 165 = .ok (.invokevirtual 107, 3) := by decide +kernel
theorem dL_acts_168 : decode cL_acts 168 = .ok (.aload 4, 2) := by decide +kernel
theorem dL_acts_170 : decode cL_acts 170 = .ok (.iconst 1, 1) := by decide +kernel
theorem dL_acts_171 : decode cL_acts 171 = .ok (.iaload, 1) := by decide +kernel
theorem dL_acts_172 : decode cL_acts 172 = .ok (.if_icmp .ne 7, 3) := by decide +kernel
theorem dL_acts_175 : decode cL_acts 175 = .ok (.iconst 1, 1) := by decide +kernel
theorem dL_acts_176 : decode cL_acts 176 = .ok (.goto 4, 3) := by decide +kernel
theorem dL_acts_179 : decode cL_acts 179 = .ok (.iconst 0, 1) := by decide +kernel
theorem dL_acts_180 : decode cL_acts 180 = .ok (.ireturn, 1) := by decide +kernel
theorem dL_acts_181 : decode cL_acts 181 = .ok (.iload 6, 2) := by decide +kernel
theorem dL_acts_183 : decode cL_acts 183 = .ok (.bipush 12, 2) := by decide +kernel
theorem dL_acts_185 : decode cL_acts 185 = .ok (.if_icmp .ge 42, 3) := by decide +kernel
theorem dL_acts_188 : decode cL_acts 188 = .ok (.aload 4, 2) := by decide +kernel
theorem dL_acts_190 : decode cL_acts 190 = .ok (.iconst 0, 1) := by decide +kernel
theorem dL_acts_191 : decode cL_acts 191 = .ok (.iaload, 1) := by decide +kernel
theorem dL_acts_192 : decode cL_acts 192 = .ok (.bipush 14, 2) := by decide +kernel
theorem dL_acts_194 : decode cL_acts 194 = .ok (.if_icmp .eq 27, 3) := by decide +kernel
theorem dL_acts_197 : decode cL_acts 197 = .ok (.aload_n 0, 1) := by decide +kernel
theorem dL_acts_198 : decode cL_acts 198 = .ok (.aload_n 1, 1) := by decide +kernel
theorem dL_acts_199 : decode cL_acts 199 = .ok (.aload_n 2, 1) := by decide +kernel
theorem dL_acts_200 : decode cL_acts 200 = .ok (.aload_n 3, 1) := by decide +kernel
theorem dL_acts_201 : decode cL_acts 201 = .ok (.aload 4, 2) := by decide +kernel
theorem dL_acts_203 : decode cL_acts 203 = .ok (.iload 7, 2) := by decide +kernel
theorem dL_acts_205 : decode cL_acts 205 = .ok (.iconst 4, 1) := by decide +kernel
theorem dL_acts_206 : decode cL_acts 206 = .ok (.irem, 1) := by decide +kernel
theorem dL_acts_207 : decode cL_acts 207 = .ok (.ifCond .ne 7, 3) := by decide +kernel
theorem dL_acts_210 : decode cL_acts 210 = .ok (.iconst 1, 1) := by decide +kernel
theorem dL_acts_211 : decode cL_acts 211 = .ok (.goto 4, 3) := by decide +kernel
theorem dL_acts_214 : decode cL_acts 214 = .ok (.iconst 0, 1) := by decide +kernel
theorem dL_acts_215 : decode cL_acts 215 = .ok (.invokestatic 110, 3) := by decide +kernel
theorem dL_acts_218 : decode cL_acts 218 = .ok (.ifCond .eq 7, 3) := by decide +kernel
theorem dL_acts_221 : decode cL_acts 221 = .ok (.iconst 1, 1) := by decide +kernel
theorem dL_acts_222 : decode cL_acts 222 = .ok (.goto 4, 3) := by decide +kernel
theorem dL_acts_225 : decode cL_acts 225 = .ok (.iconst 0, 1) := by decide +kernel
theorem dL_acts_226 : decode cL_acts 226 = .ok (.ireturn, 1) := by decide +kernel
theorem dL_acts_227 : decode cL_acts 227 = .ok (.iload 7, 2) := by decide +kernel
theorem dL_acts_229 : decode cL_acts 229 = .ok (.aload 4, 2) := by decide +kernel
theorem dL_acts_231 : decode cL_acts 231 = .ok (.iconst 0, 1) := by decide +kernel
theorem dL_acts_232 : decode cL_acts 232 = .ok (.iaload, 1) := by decide +kernel
theorem dL_acts_233 : decode cL_acts 233 = .ok (.iconst 1, 1) := by decide +kernel
theorem dL_acts_234 : decode cL_acts 234 = .ok (.iadd, 1) := by decide +kernel
theorem dL_acts_235 : decode cL_acts 235 = .ok (.irem, 1) := by decide +kernel
theorem dL_acts_236 : decode cL_acts 236 = .ok (.istore 8, 2) := by decide +kernel
theorem dL_acts_238 : decode cL_acts 238 = .ok (.iload 8, 2) := by decide +kernel
theorem dL_acts_240 : decode cL_acts 240 = .ok (.aload 4, 2) := by decide +kernel
theorem dL_acts_242 : decode cL_acts 242 = .ok (.iconst 0, 1) := by decide +kernel
theorem dL_acts_243 : decode cL_acts 243 = .ok (.iaload, 1) := by decide +kernel
theorem dL_acts_244 : decode cL_acts 244 = .ok (.if_icmp .ge 20, 3) := by decide +kernel
theorem dL_acts_247 : decode cL_acts 247 = .ok (.aload 4, 2) := by decide +kernel
theorem dL_acts_249 : decode cL_acts 249 = .ok (.iconst 2, 1) := by decide +kernel
theorem dL_acts_250 : decode cL_acts 250 = .ok (.iaload, 1) := by decide +kernel
theorem dL_acts_251 : decode cL_acts 251 = .ok (.iload 8, 2) := by decide +kernel
theorem dL_acts_253 : decode cL_acts 253 = .ok (.ishr, 1) := by decide +kernel
theorem dL_acts_254 : decode cL_acts 254 = .ok (.iconst 1, 1) := by decide +kernel
theorem dL_acts_255 : decode cL_acts 255 = .ok (.iand, 1) := by decide +kernel
theorem dL_acts_256 : decode cL_acts 256 = .ok (.iconst 1, 1) := by decide +kernel
theorem dL_acts_257 : decode cL_acts 257 = .ok (.if_icmp .ne 7, 3) := by decide +kernel
theorem dL_acts_260 : decode cL_acts 260 = .ok (.iconst 1, 1) := by decide +kernel
theorem dL_acts_261 : decode cL_acts 261 = .ok (.goto 4, 3) := by decide +kernel
theorem dL_acts_264 : decode cL_acts 264 = .ok (.iconst 0, 1) := by decide +kernel
theorem dL_acts_265 : decode cL_acts 265 = .ok (.istore 9, 2) := by decide +kernel
theorem dL_acts_267 : decode cL_acts 267 = .ok (.iload 6, 2) := by decide +kernel
theorem dL_acts_269 : decode cL_acts 269 = .ok (.bipush 14, 2) := by decide +kernel
theorem dL_acts_271 : decode cL_acts 271 = .ok (.if_icmp .ge 120, 3) := by decide +kernel
theorem dL_acts_274 : decode cL_acts 274 = .ok (.iload 9, 2) := by decide +kernel
theorem dL_acts_276 : decode cL_acts 276 = .ok (.ifCond .eq 21, 3) := by decide +kernel
theorem dL_acts_279 : decode cL_acts 279 = .ok (.aload_n 1, 1) := by decide +kernel
theorem dL_acts_280 : decode cL_acts 280 = .ok (.iload 8, 2) := by decide +kernel
theorem dL_acts_282 : decode cL_acts 282 = .ok (.invokestatic 15, 3) := by decide +kernel
theorem dL_acts_285 : decode cL_acts 285 = .ok (.aload 4, 2) := by decide +kernel
theorem dL_acts_287 : decode cL_acts 287 = .ok (.iconst 3, 1) := by decide +kernel
theorem dL_acts_288 : decode cL_acts 288 = .ok (.iaload, 1) := by decide +kernel
theorem dL_acts_289 : decode cL_acts 289 = .ok (.iand, 1) := by decide +kernel
theorem dL_acts_290 : decode cL_acts 290 = .ok (.ifCond .eq 7, 3) := by decide +kernel
theorem dL_acts_293 : decode cL_acts 293 = .ok (.iconst 1, 1) := by decide +kernel
theorem dL_acts_294 : decode cL_acts 294 = .ok (.goto 4, 3) := by decide +kernel
theorem dL_acts_297 : decode cL_acts 297 = .ok (.iconst 0, 1) := by decide +kernel
theorem dL_acts_298 : decode cL_acts 298 = .ok (.istore 10, 2) := by decide +kernel
theorem dL_acts_300 : decode cL_acts 300 = .ok (.aload 4, 2) := by decide +kernel
theorem dL_acts_302 : decode cL_acts 302 = .ok (.iconst 4, 1) := by decide +kernel
theorem dL_acts_303 : decode cL_acts 303 = .ok (.iload 9, 2) := by decide +kernel
theorem dL_acts_305 : decode cL_acts 305 = .ok (.ifCond .ne 10, 3) := by decide +kernel
theorem dL_acts_308 : decode cL_acts 308 = .ok (.aload 4, 2) := by decide +kernel
theorem dL_acts_310 : decode cL_acts 310 = .ok (.iconst 4, 1) := by decide +kernel
theorem dL_acts_311 : decode cL_acts 311 = .ok (.iaload, 1) := by decide +kernel
theorem dL_acts_312 : decode cL_acts 312 = .ok (.goto 35, 3) := by decide +kernel
theorem dL_acts_315 : decode cL_acts 315 = .ok (.iload 10, 2) := by decide +kernel
theorem dL_acts_317 : decode cL_acts 317 = .ok (.ifCond .eq 19, 3) := by decide +kernel
theorem dL_acts_320 : decode cL_acts 320 = .ok (.aload 4, 2) := by decide +kernel
theorem dL_acts_322 : decode cL_acts 322 = .ok (.iconst 4, 1) := by decide +kernel
theorem dL_acts_323 : decode cL_acts 323 = .ok (.iaload, 1) := by decide +kernel
theorem dL_acts_324 : decode cL_acts 324 = .ok (.aload_n 1, 1) := by decide +kernel
theorem dL_acts_325 : decode cL_acts 325 = .ok (.iload 8, 2) := by decide +kernel
theorem dL_acts_327 : decode cL_acts 327 = .ok (.invokestatic 15, 3) := by decide +kernel
theorem dL_acts_330 : decode cL_acts 330 = .ok (.iconst (-1), 1) := by decide +kernel
theorem dL_acts_331 : decode cL_acts 331 = .ok (.ixor, 1) := by decide +kernel
theorem dL_acts_332 : decode cL_acts 332 = .ok (.iand, 1) := by decide +kernel
theorem dL_acts_333 : decode cL_acts 333 = .ok (.goto 14, 3) := by decide +kernel
theorem dL_acts_336 : decode cL_acts 336 = .ok (.aload 4, 2) := by decide +kernel
theorem dL_acts_338 : decode cL_acts 338 = .ok (.iconst 4, 1) := by decide +kernel
theorem dL_acts_339 : decode cL_acts 339 = .ok (.iaload, 1) := by decide +kernel
theorem dL_acts_340 : decode cL_acts 340 = .ok (.aload_n 1, 1) := by decide +kernel
theorem dL_acts_341 : decode cL_acts 341 = .ok (.iload 8, 2) := by decide +kernel
theorem dL_acts_343 : decode cL_acts 343 = .ok (.invokestatic 15, 3) := by decide +kernel
theorem dL_acts_346 : decode cL_acts 346 = .ok (.ior, 1) := by decide +kernel
theorem dL_acts_347 : decode cL_acts 347 = .ok (.iastore, 1) := by decide +kernel
theorem dL_acts_348 : decode cL_acts 348 = .ok (.aload_n 0, 1) := by decide +kernel
theorem dL_acts_349 : decode cL_acts 349 = .ok (.iload 8, 2) := by decide +kernel
theorem dL_acts_351 : decode cL_acts 351 = .ok (.invokestatic 114, 3) := by decide +kernel
theorem dL_acts_354 : decode cL_acts 354 = .ok (.iload 9, 2) := by decide +kernel
theorem dL_acts_356 : decode cL_acts 356 = .ok (.ifCond .ne 8, 3) := by decide +kernel
theorem dL_acts_359 : decode cL_acts 359 = .ok (.bipush (-5), 2) := by decide +kernel
theorem dL_acts_361 : decode cL_acts 361 = .ok (.goto 21, 3) := by decide +kernel
theorem dL_acts_364 : decode cL_acts 364 = .ok (.iload 10, 2) := by decide +kernel
theorem dL_acts_366 : decode cL_acts 366 = .ok (.ifCond .eq 7, 3) := by decide +kernel
theorem dL_acts_369 : decode cL_acts 369 = .ok (.iconst (-1), 1) := by decide +kernel
theorem dL_acts_370 : decode cL_acts 370 = .ok (.goto 12, 3) := by decide +kernel
theorem dL_acts_373 : decode cL_acts 373 = .ok (.aload_n 1, 1) := by decide +kernel
theorem dL_acts_374 : decode cL_acts 374 = .ok (.iload 8, 2) := by decide +kernel
theorem dL_acts_376 : decode cL_acts 376 = .ok (.invokestatic 15, 3) := by decide +kernel
theorem dL_acts_379 : decode cL_acts 379 = .ok (.invokestatic 77, 3) := by decide +kernel
theorem dL_acts_382 : decode cL_acts 382 = .ok (.if_icmp .ne 7, 3) := by decide +kernel
theorem dL_acts_385 : decode cL_acts 385 = .ok (.iconst 1, 1) := by decide +kernel
theorem dL_acts_386 : decode cL_acts 386 = .ok (.goto 4, 3) := by decide +kernel
theorem dL_acts_389 : decode cL_acts 389 = .ok (.iconst 0, 1) := by decide +kernel
theorem dL_acts_390 : decode cL_acts 390 = .ok (.ireturn, 1) := by decide +kernel
theorem dL_acts_391 : decode cL_acts 391 = .ok (.iload 6, 2) := by decide +kernel
theorem dL_acts_393 : decode cL_acts 393 = .ok (.bipush 14, 2) := by decide +kernel
theorem dL_acts_395 : decode cL_acts 395 = .ok (.if_icmp .ne 149, 3) := by decide +kernel
theorem dL_acts_398 : decode cL_acts 398 = .ok (.iload 9, 2) := by decide +kernel
theorem dL_acts_400 : decode cL_acts 400 = .ok (.ifCond .eq 15, 3) := by decide +kernel
theorem dL_acts_403 : decode cL_acts 403 = .ok (.iload 7, 2) := by decide +kernel
theorem dL_acts_405 : decode cL_acts 405 = .ok (.bipush 16, 2) := by decide +kernel
theorem dL_acts_407 : decode cL_acts 407 = .ok (.idiv, 1) := by decide +kernel
theorem dL_acts_408 : decode cL_acts 408 = .ok (.iconst 3, 1) := by decide +kernel
theorem dL_acts_409 : decode cL_acts 409 = .ok (.irem, 1) := by decide +kernel
theorem dL_acts_410 : decode cL_acts 410 = .ok (.ifCond .le 5, 3) := by decide +kernel
theorem dL_acts_413 : decode cL_acts 413 = .ok (.iconst 1, 1) := by decide +kernel
theorem dL_acts_414 : decode cL_acts 414 = .ok (.ireturn, 1) := by decide +kernel
theorem dL_acts_415 : decode cL_acts 415 = .ok (.aload 4, 2) := by decide +kernel
theorem dL_acts_417 : decode cL_acts 417 = .ok (.iconst 3, 1) := by decide +kernel
theorem dL_acts_418 : decode cL_acts 418 = .ok (.dup2, 1) := by decide +kernel
theorem dL_acts_419 : decode cL_acts 419 = .ok (.iaload, 1) := by decide +kernel
theorem dL_acts_420 : decode cL_acts 420 = .ok (.iload 9, 2) := by decide +kernel
theorem dL_acts_422 : decode cL_acts 422 = .ok (.ifCond .eq 10, 3) := by decide +kernel
theorem dL_acts_425 : decode cL_acts 425 = .ok (.iconst 1, 1) := by decide +kernel
theorem dL_acts_426 : decode cL_acts 426 = .ok (.iload 8, 2) := by decide +kernel
theorem dL_acts_428 : decode cL_acts 428 = .ok (.ishl, 1) := by decide +kernel
theorem dL_acts_429 : decode cL_acts 429 = .ok (.goto 4, 3) := by decide +kernel
theorem dL_acts_432 : decode cL_acts 432 = .ok (.iconst 0, 1) := by decide +kernel
theorem dL_acts_433 : decode cL_acts 433 = .ok (.ior, 1) := by decide +kernel
theorem dL_acts_434 : decode cL_acts 434 = .ok (.iastore, 1) := by decide +kernel
theorem dL_acts_435 : decode cL_acts 435 = .ok (.aload 4, 2) := by decide +kernel
theorem dL_acts_437 : decode cL_acts 437 = .ok (.iconst 4, 1) := by decide +kernel
theorem dL_acts_438 : decode cL_acts 438 = .ok (.dup2, 1) := by decide +kernel
theorem dL_acts_439 : decode cL_acts 439 = .ok (.iaload, 1) := by decide +kernel
theorem dL_acts_440 : decode cL_acts 440 = .ok (.iload 9, 2) := by decide +kernel
theorem dL_acts_442 : decode cL_acts 442 = .ok (.ifCond .eq 12, 3) := by decide +kernel
theorem dL_acts_445 : decode cL_acts 445 = .ok (.iconst 1, 1) := by decide +kernel
theorem dL_acts_446 : decode cL_acts 446 = .ok (.iload 8, 2) := by decide +kernel
theorem dL_acts_448 : decode cL_acts 448 = .ok (.ishl, 1) := by decide +kernel
theorem dL_acts_449 : decode cL_acts 449 = .ok (.iconst (-1), 1) := by decide +kernel
theorem dL_acts_450 : decode cL_acts 450 = .ok (.ixor, 1) := by decide +kernel
theorem dL_acts_451 : decode cL_acts 451 = .ok (.goto 4, 3) := by decide +kernel
theorem dL_acts_454 : decode cL_acts 454 = .ok (.iconst (-1), 1) := by decide +kernel
theorem dL_acts_455 : decode cL_acts 455 = .ok (.iand, 1) := by decide +kernel
theorem dL_acts_456 : decode cL_acts 456 = .ok (.iastore, 1) := by decide +kernel
theorem dL_acts_457 : decode cL_acts 457 = .ok (.iconst 0, 1) := by decide +kernel
theorem dL_acts_458 : decode cL_acts 458 = .ok (.istore 10, 2) := by decide +kernel
theorem dL_acts_460 : decode cL_acts 460 = .ok (.iconst 0, 1) := by decide +kernel
theorem dL_acts_461 : decode cL_acts 461 = .ok (.istore 11, 2) := by decide +kernel
theorem dL_acts_463 : decode cL_acts 463 = .ok (.iload 11, 2) := by decide +kernel
theorem dL_acts_465 : decode cL_acts 465 = .ok (.aload 4, 2) := by decide +kernel
theorem dL_acts_467 : decode cL_acts 467 = .ok (.iconst 0, 1) := by decide +kernel
theorem dL_acts_468 : decode cL_acts 468 = .ok (.iaload, 1) := by decide +kernel
theorem dL_acts_469 : decode cL_acts 469 = .ok (.if_icmp .ge 48, 3) := by decide +kernel
theorem dL_acts_472 : decode cL_acts 472 = .ok (.iload 10, 2) := by decide +kernel
theorem dL_acts_474 : decode cL_acts 474 = .ok (.aload_n 1, 1) := by decide +kernel
theorem dL_acts_475 : decode cL_acts 475 = .ok (.aload 4, 2) := by decide +kernel
theorem dL_acts_477 : decode cL_acts 477 = .ok (.invokestatic 9, 3) := by decide +kernel
theorem dL_acts_480 : decode cL_acts 480 = .ok (.iload 11, 2) := by decide +kernel
theorem dL_acts_482 : decode cL_acts 482 = .ok (.ishr, 1) := by decide +kernel
theorem dL_acts_483 : decode cL_acts 483 = .ok (.iconst 1, 1) := by decide +kernel
theorem dL_acts_484 : decode cL_acts 484 = .ok (.iand, 1) := by decide +kernel
theorem dL_acts_485 : decode cL_acts 485 = .ok (.iconst 1, 1) := by decide +kernel
theorem dL_acts_486 : decode cL_acts 486 = .ok (.if_icmp .ne 21, 3) := by decide +kernel
theorem dL_acts_489 : decode cL_acts 489 = .ok (.aload_n 1, 1) := by decide +kernel
theorem dL_acts_490 : decode cL_acts 490 = .ok (.iload 11, 2) := by decide +kernel
theorem dL_acts_492 : decode cL_acts 492 = .ok (.invokestatic 15, 3) := by decide +kernel
theorem dL_acts_495 : decode cL_acts 495 = .ok (.aload 4, 2) := by decide +kernel
theorem dL_acts_497 : decode cL_acts 497 = .ok (.iconst 3, 1) := by decide +kernel
theorem dL_acts_498 : decode cL_acts 498 = .ok (.iaload, 1) := by decide +kernel
theorem dL_acts_499 : decode cL_acts 499 = .ok (.iand, 1) := by decide +kernel
theorem dL_acts_500 : decode cL_acts 500 = .ok (.ifCond .eq 7, 3) := by decide +kernel
theorem dL_acts_503 : decode cL_acts 503 = .ok (.iconst 1, 1) := by decide +kernel
theorem dL_acts_504 : decode cL_acts 504 = .ok (.goto 4, 3) := by decide +kernel
theorem dL_acts_507 : decode cL_acts 507 = .ok (.iconst 0, 1) := by decide +kernel
theorem dL_acts_508 : decode cL_acts 508 = .ok (.iadd, 1) := by decide +kernel
theorem dL_acts_509 : decode cL_acts 509 = .ok (.istore 10, 2) := by decide +kernel
theorem dL_acts_511 : decode cL_acts 511 = .ok (.iinc 11 1, 3) := by decide +kernel
theorem dL_acts_514 : decode cL_acts 514 = .ok (.goto (-51), 3) := by decide +kernel
theorem dL_acts_517 : decode cL_acts 517 = .ok (.aload_n 0, 1) := by decide +kernel
theorem dL_acts_518 : decode cL_acts 518 = .ok (.iload 8, 2) := by decide +kernel
theorem dL_acts_520 : decode cL_acts 520 = .ok (.invokestatic 117, 3) := by decide +kernel
theorem dL_acts_523 : decode cL_acts 523 = .ok (.iload 9, 2) := by decide +kernel
theorem dL_acts_525 : decode cL_acts 525 = .ok (.ifCond .eq 8, 3) := by decide +kernel
theorem dL_acts_528 : decode cL_acts 528 = .ok (.iload 10, 2) := by decide +kernel
theorem dL_acts_530 : decode cL_acts 530 = .ok (.goto 5, 3) := by decide +kernel
theorem dL_acts_533 : decode cL_acts 533 = .ok (.bipush (-5), 2) := by decide +kernel
theorem dL_acts_535 : decode cL_acts 535 = .ok (.if_icmp .ne 7, 3) := by decide +kernel
theorem dL_acts_538 : decode cL_acts 538 = .ok (.iconst 1, 1) := by decide +kernel
theorem dL_acts_539 : decode cL_acts 539 = .ok (.goto 4, 3) := by decide +kernel
theorem dL_acts_542 : decode cL_acts 542 = .ok (.iconst 0, 1) := by decide +kernel
theorem dL_acts_543 : decode cL_acts 543 = .ok (.ireturn, 1) := by decide +kernel
theorem dL_acts_544 : decode cL_acts 544 = .ok (.iload 6, 2) := by decide +kernel
theorem dL_acts_546 : decode cL_acts 546 = .ok (.bipush 15, 2) := by decide +kernel
theorem dL_acts_548 : decode cL_acts 548 = .ok (.if_icmp .ne 70, 3) := by decide +kernel
theorem dL_acts_551 : decode cL_acts 551 = .ok (.aload 4, 2) := by decide +kernel
theorem dL_acts_553 : decode cL_acts 553 = .ok (.iconst 5, 1) := by decide +kernel
theorem dL_acts_554 : decode cL_acts 554 = .ok (.iload 7, 2) := by decide +kernel
theorem dL_acts_556 : decode cL_acts 556 = .ok (.iconst 5, 1) := by decide +kernel
theorem dL_acts_557 : decode cL_acts 557 = .ok (.irem, 1) := by decide +kernel
theorem dL_acts_558 : decode cL_acts 558 = .ok (.iastore, 1) := by decide +kernel
theorem dL_acts_559 : decode cL_acts 559 = .ok (.aload 4, 2) := by decide +kernel
theorem dL_acts_561 : decode cL_acts 561 = .ok (.bipush 6, 2) := by decide +kernel
theorem dL_acts_563 : decode cL_acts 563 = .ok (.iload 7, 2) := by decide +kernel
theorem dL_acts_565 : decode cL_acts 565 = .ok (.iconst 5, 1) := by decide +kernel
theorem dL_acts_566 : decode cL_acts 566 = .ok (.idiv, 1) := by decide +kernel
theorem dL_acts_567 : decode cL_acts 567 = .ok (.iconst 4, 1) := by decide +kernel
theorem dL_acts_568 : decode cL_acts 568 = .ok (.irem, 1) := by decide +kernel
theorem dL_acts_569 : decode cL_acts 569 = .ok (.iastore, 1) := by decide +kernel
theorem dL_acts_570 : decode cL_acts 570 = .ok (.aload 4, 2) := by decide +kernel
theorem dL_acts_572 : decode cL_acts 572 = .ok (.bipush 7, 2) := by decide +kernel
theorem dL_acts_574 : decode cL_acts 574 = .ok (.iload 7, 2) := by decide +kernel
theorem dL_acts_576 : decode cL_acts 576 = .ok (.bipush 20, 2) := by decide +kernel
theorem dL_acts_578 : decode cL_acts 578 = .ok (.idiv, 1) := by decide +kernel
theorem dL_acts_579 : decode cL_acts 579 = .ok (.iconst 3, 1) := by decide +kernel
theorem dL_acts_580 : decode cL_acts 580 = .ok (.irem, 1) := by decide +kernel
theorem dL_acts_581 : decode cL_acts 581 = .ok (.iastore, 1) := by decide +kernel
theorem dL_acts_582 : decode cL_acts 582 = .ok (.aload_n 0, 1) := by decide +kernel
theorem dL_acts_583 : decode cL_acts 583 = .ok (.aload 4, 2) := by decide +kernel
theorem dL_acts_585 : decode cL_acts 585 = .ok (.iconst 5, 1) := by decide +kernel
theorem dL_acts_586 : decode cL_acts 586 = .ok (.iaload, 1) := by decide +kernel
theorem dL_acts_587 : decode cL_acts 587 = .ok (.aload 4, 2) := by decide +kernel
theorem dL_acts_589 : decode cL_acts 589 = .ok (.bipush 6, 2) := by decide +kernel
theorem dL_acts_591 : decode cL_acts 591 = .ok (.iaload, 1) := by decide +kernel
theorem dL_acts_592 : decode cL_acts 592 = .ok (.aload 4, 2) := by decide +kernel
theorem dL_acts_594 : decode cL_acts 594 = .ok (.bipush 7, 2) := by decide +kernel
theorem dL_acts_596 : decode cL_acts 596 = .ok (.iaload, 1) := by decide +kernel
theorem dL_acts_597 : decode cL_acts 597 = .ok (.invokevirtual 120, 3) := by decide +kernel
theorem dL_acts_600 : decode cL_acts 600 = .ok (.aload_n 1, 1) := by decide +kernel
theorem dL_acts_601 : decode cL_acts 601 = .ok (.aload 4, 2) := by decide +kernel
theorem dL_acts_603 : decode cL_acts 603 = .ok (.invokestatic 9, 3) := by decide +kernel
theorem dL_acts_606 : decode cL_acts 606 = .ok (.invokestatic 77, 3) := by decide +kernel
theorem dL_acts_609 : decode cL_acts 609 = .ok (.if_icmp .ne 7, 3) := by decide +kernel
theorem dL_acts_612 : decode cL_acts 612 = .ok (.iconst 1, 1) := by decide +kernel
theorem dL_acts_613 : decode cL_acts 613 = .ok (.goto 4, 3) := by decide +kernel
theorem dL_acts_616 : decode cL_acts 616 = .ok (.iconst 0, 1) := by decide +kernel
theorem dL_acts_617 : decode cL_acts 617 = .ok (.ireturn, 1) := by decide +kernel
theorem dL_acts_618 : decode cL_acts 618 = .ok (.iload 6, 2) := by decide +kernel
theorem dL_acts_620 : decode cL_acts 620 = .ok (.bipush 18, 2) := by decide +kernel
theorem dL_acts_622 : decode cL_acts 622 = .ok (.if_icmp .ge 22, 3) := by decide +kernel
theorem dL_acts_625 : decode cL_acts 625 = .ok (.aload_n 0, 1) := by decide +kernel
theorem dL_acts_626 : decode cL_acts 626 = .ok (.invokevirtual 124, 3) := by decide +kernel
theorem dL_acts_629 : decode cL_acts 629 = .ok (.aload_n 1, 1) := by decide +kernel
theorem dL_acts_630 : decode cL_acts 630 = .ok (.aload 4, 2) := by decide +kernel
theorem dL_acts_632 : decode cL_acts 632 = .ok (.invokestatic 127, 3) := by decide +kernel
theorem dL_acts_635 : decode cL_acts 635 = .ok (.if_icmp .ne 7, 3) := by decide +kernel
theorem dL_acts_638 : decode cL_acts 638 = .ok (.iconst 1, 1) := by decide +kernel
theorem dL_acts_639 : decode cL_acts 639 = .ok (.goto 4, 3) := by decide +kernel
theorem dL_acts_642 : decode cL_acts 642 = .ok (.iconst 0, 1) := by decide +kernel
theorem dL_acts_643 : decode cL_acts 643 = .ok (.ireturn, 1) := by decide +kernel
theorem dL_acts_644 : decode cL_acts 644 = .ok (.iload 6, 2) := by decide +kernel
theorem dL_acts_646 : decode cL_acts 646 = .ok (.bipush 21, 2) := by decide +kernel
theorem dL_acts_648 : decode cL_acts 648 = .ok (.if_icmp .ge 234, 3) := by decide +kernel
theorem dL_acts_651 : decode cL_acts 651 = .ok (.iload 7, 2) := by decide +kernel
theorem dL_acts_653 : decode cL_acts 653 = .ok (.bipush 63, 2) := by decide +kernel
theorem dL_acts_655 : decode cL_acts 655 = .ok (.irem, 1) := by decide +kernel
theorem dL_acts_656 : decode cL_acts 656 = .ok (.istore 10, 2) := by decide +kernel
theorem dL_acts_658 : decode cL_acts 658 = .ok (.iload 7, 2) := by decide +kernel
theorem dL_acts_660 : decode cL_acts 660 = .ok (.bipush 63, 2) := by decide +kernel
theorem dL_acts_662 : decode cL_acts 662 = .ok (.idiv, 1) := by decide +kernel
theorem dL_acts_663 : decode cL_acts 663 = .ok (.iconst 3, 1) := by decide +kernel
theorem dL_acts_664 : decode cL_acts 664 = .ok (.irem, 1) := by decide +kernel
theorem dL_acts_665 : decode cL_acts 665 = .ok (.ifCond .ne 15, 3) := by decide +kernel
theorem dL_acts_668 : decode cL_acts 668 = .ok (.iload 7, 2) := by decide +kernel
theorem dL_acts_670 : decode cL_acts 670 = .ok (.sipush 189, 3) := by decide +kernel
theorem dL_acts_673 : decode cL_acts 673 = .ok (.idiv, 1) := by decide +kernel
theorem dL_acts_674 : decode cL_acts 674 = .ok (.bipush 63, 2) := by decide +kernel
theorem dL_acts_676 : decode cL_acts 676 = .ok (.irem, 1) := by decide +kernel
theorem dL_acts_677 : decode cL_acts 677 = .ok (.goto 35, 3) := by decide +kernel
theorem dL_acts_680 : decode cL_acts 680 = .ok (.iload 10, 2) := by decide +kernel
theorem dL_acts_682 : decode cL_acts 682 = .ok (.bipush 6, 2) := by decide +kernel
theorem dL_acts_684 : decode cL_acts 684 = .ok (.iadd, 1) := by decide +kernel
theorem dL_acts_685 : decode cL_acts 685 = .ok (.bipush 63, 2) := by decide +kernel
theorem dL_acts_687 : decode cL_acts 687 = .ok (.if_icmp .ge 21, 3) := by decide +kernel
theorem dL_acts_690 : decode cL_acts 690 = .ok (.iload 10, 2) := by decide +kernel
theorem dL_acts_692 : decode cL_acts 692 = .ok (.iconst 5, 1) := by decide +kernel
theorem dL_acts_693 : decode cL_acts 693 = .ok (.iload 7, 2) := by decide +kernel
theorem dL_acts_695 : decode cL_acts 695 = .ok (.sipush 189, 3) := by decide +kernel
theorem dL_acts_698 : decode cL_acts 698 = .ok (.idiv, 1) := by decide +kernel
theorem dL_acts_699 : decode cL_acts 699 = .ok (.iconst 2, 1) := by decide +kernel
theorem dL_acts_700 : decode cL_acts 700 = .ok (.irem, 1) := by decide +kernel
theorem dL_acts_701 : decode cL_acts 701 = .ok (.imul, 1) := by decide +kernel
theorem dL_acts_702 : decode cL_acts 702 = .ok (.iadd, 1) := by decide +kernel
theorem dL_acts_703 : decode cL_acts 703 = .ok (.iconst 1, 1) := by decide +kernel
theorem dL_acts_704 : decode cL_acts 704 = .ok (.iadd, 1) := by decide +kernel
theorem dL_acts_705 : decode cL_acts 705 = .ok (.goto 7, 3) := by decide +kernel
theorem dL_acts_708 : decode cL_acts 708 = .ok (.iload 10, 2) := by decide +kernel
theorem dL_acts_710 : decode cL_acts 710 = .ok (.iconst 1, 1) := by decide +kernel
theorem dL_acts_711 : decode cL_acts 711 = .ok (.isub, 1) := by decide +kernel
theorem dL_acts_712 : decode cL_acts 712 = .ok (.istore 11, 2) := by decide +kernel
theorem dL_acts_714 : decode cL_acts 714 = .ok (.aload 5, 2) := by decide +kernel
theorem dL_acts_716 : decode cL_acts 716 = .ok (.iload 10, 2) := by decide +kernel
theorem dL_acts_718 : decode cL_acts 718 = .ok (.iaload, 1) := by decide +kernel
theorem dL_acts_719 : decode cL_acts 719 = .ok (.istore 12, 2) := by decide +kernel
theorem dL_acts_721 : decode cL_acts 721 = .ok (.iload 10, 2) := by decide +kernel
theorem dL_acts_723 : decode cL_acts 723 = .ok (.aload 4, 2) := by decide +kernel
theorem dL_acts_725 : decode cL_acts 725 = .ok (.iconst 1, 1) := by decide +kernel
theorem dL_acts_726 : decode cL_acts 726 = .ok (.iaload, 1) := by decide +kernel
theorem dL_acts_727 : decode cL_acts 727 = .ok (.if_icmp .lt 19, 3) := by decide +kernel
theorem dL_acts_730 : decode cL_acts 730 = .ok (.iload 11, 2) := by decide +kernel
theorem dL_acts_732 : decode cL_acts 732 = .ok (.aload 4, 2) := by decide +kernel
theorem dL_acts_734 : decode cL_acts 734 = .ok (.iconst 1, 1) := by decide +kernel
theorem dL_acts_735 : decode cL_acts 735 = .ok (.iaload, 1) := by decide +kernel
theorem dL_acts_736 : decode cL_acts 736 = .ok (.if_icmp .lt 10, 3) := by decide +kernel
theorem dL_acts_739 : decode cL_acts 739 = .ok (.iload 10, 2) := by decide +kernel
theorem dL_acts_741 : decode cL_acts 741 = .ok (.iload 11, 2) := by decide +kernel
theorem dL_acts_743 : decode cL_acts 743 = .ok (.if_icmp .ne 22, 3) := by decide +kernel
theorem dL_acts_746 : decode cL_acts 746 = .ok (.aload_n 0, 1) := by decide +kernel
theorem dL_acts_747 : decode cL_acts 747 = .ok (.iload 10, 2) := by decide +kernel
theorem dL_acts_749 : decode cL_acts 749 = .ok (.iload 11, 2) := by decide +kernel
theorem dL_acts_751 : decode cL_acts 751 = .ok (.invokestatic 129, 3) := by decide +kernel
theorem dL_acts_754 : decode cL_acts 754 = .ok (.bipush (-4), 2) := by decide +kernel
theorem dL_acts_756 : decode cL_acts 756 = .ok (.if_icmp .ne 7, 3) := by decide +kernel
theorem dL_acts_759 : decode cL_acts 759 = .ok (.iconst 1, 1) := by decide +kernel
theorem dL_acts_760 : decode cL_acts 760 = .ok (.goto 4, 3) := by decide +kernel
theorem dL_acts_763 : decode cL_acts 763 = .ok (.iconst 0, 1) := by decide +kernel
theorem dL_acts_764 : decode cL_acts 764 = .ok (.ireturn, 1) := by decide +kernel
theorem dL_acts_765 : decode cL_acts 765 = .ok (.aload 5, 2) := by decide +kernel
theorem dL_acts_767 : decode cL_acts 767 = .ok (.iload 10, 2) := by decide +kernel
theorem dL_acts_769 : decode cL_acts 769 = .ok (.aload 5, 2) := by decide +kernel
theorem dL_acts_771 : decode cL_acts 771 = .ok (.iload 11, 2) := by decide +kernel
theorem dL_acts_773 : decode cL_acts 773 = .ok (.iaload, 1) := by decide +kernel
theorem dL_acts_774 : decode cL_acts 774 = .ok (.iastore, 1) := by decide +kernel
theorem dL_acts_775 : decode cL_acts 775 = .ok (.aload 5, 2) := by decide +kernel
theorem dL_acts_777 : decode cL_acts 777 = .ok (.iload 11, 2) := by decide +kernel
theorem dL_acts_779 : decode cL_acts 779 = .ok (.iload 12, 2) := by decide +kernel
theorem dL_acts_781 : decode cL_acts 781 = .ok (.iastore, 1) := by decide +kernel
theorem dL_acts_782 : decode cL_acts 782 = .ok (.iconst 1, 1) := by decide +kernel
theorem dL_acts_783 : decode cL_acts 783 = .ok (.istore 13, 2) := by decide +kernel
theorem dL_acts_785 : decode cL_acts 785 = .ok (.iconst 0, 1) := by decide +kernel
theorem dL_acts_786 : decode cL_acts 786 = .ok (.istore 14, 2) := by decide +kernel
theorem dL_acts_788 : decode cL_acts 788 = .ok (.iload 14, 2) := by decide +kernel
theorem dL_acts_790 : decode cL_acts 790 = .ok (.bipush 63, 2) := by decide +kernel
theorem dL_acts_792 : decode cL_acts 792 = .ok (.if_icmp .ge 36, 3) := by decide +kernel
theorem dL_acts_795 : decode cL_acts 795 = .ok (.iload 13, 2) := by decide +kernel
theorem dL_acts_797 : decode cL_acts 797 = .ok (.ifCond .eq 22, 3) := by decide +kernel
theorem dL_acts_800 : decode cL_acts 800 = .ok (.aload 5, 2) := by decide +kernel
theorem dL_acts_802 : decode cL_acts 802 = .ok (.iload 14, 2) := by decide +kernel
theorem dL_acts_804 : decode cL_acts 804 = .ok (.iaload, 1) := by decide +kernel
theorem dL_acts_805 : decode cL_acts 805 = .ok (.aload 5, 2) := by decide +kernel
theorem dL_acts_807 : decode cL_acts 807 = .ok (.iload 14, 2) := by decide +kernel
theorem dL_acts_809 : decode cL_acts 809 = .ok (.iconst 1, 1) := by decide +kernel
theorem dL_acts_810 : decode cL_acts 810 = .ok (.iadd, 1) := by decide +kernel
theorem dL_acts_811 : decode cL_acts 811 = .ok (.iaload, 1) := by decide +kernel
theorem dL_acts_812 : decode cL_acts 812 = .ok (.if_icmp .eq 7, 3) := by decide +kernel
theorem dL_acts_815 : decode cL_acts 815 = .ok (.iconst 1, 1) := by decide +kernel
theorem dL_acts_816 : decode cL_acts 816 = .ok (.goto 4, 3) := by decide +kernel
theorem dL_acts_819 : decode cL_acts 819 = .ok (.iconst 0, 1) := by decide +kernel
theorem dL_acts_820 : decode cL_acts 820 = .ok (.istore 13, 2) := by decide +kernel
theorem dL_acts_822 : decode cL_acts 822 = .ok (.iinc 14 1, 3) := by decide +kernel
theorem dL_acts_825 : decode cL_acts 825 = .ok (.goto (-37), 3) := by decide +kernel
theorem dL_acts_828 : decode cL_acts 828 = .ok (.iload 13, 2) := by decide +kernel
theorem dL_acts_830 : decode cL_acts 830 = .ok (.ifCond .ne 20, 3) := by decide +kernel
theorem dL_acts_833 : decode cL_acts 833 = .ok (.aload 5, 2) := by decide +kernel
theorem dL_acts_835 : decode cL_acts 835 = .ok (.iload 11, 2) := by decide +kernel
theorem dL_acts_837 : decode cL_acts 837 = .ok (.aload 5, 2) := by decide +kernel
theorem dL_acts_839 : decode cL_acts 839 = .ok (.iload 10, 2) := by decide +kernel
theorem dL_acts_841 : decode cL_acts 841 = .ok (.iaload, 1) := by decide +kernel
theorem dL_acts_842 : decode cL_acts 842 = .ok (.iastore, 1) := by decide +kernel
theorem dL_acts_843 : decode cL_acts 843 = .ok (.aload 5, 2) := by decide +kernel
theorem dL_acts_845 : decode cL_acts 845 = .ok (.iload 10, 2) := by decide +kernel
theorem dL_acts_847 : decode cL_acts 847 = .ok (.iload 12, 2) := by decide +kernel
theorem dL_acts_849 : decode cL_acts 849 = .ok (.iastore, 1) := by decide +kernel
theorem dL_acts_850 : decode cL_acts 850 = .ok (.aload_n 0, 1) := by decide +kernel
theorem dL_acts_851 : decode cL_acts 851 = .ok (.iload 10, 2) := by decide +kernel
theorem dL_acts_853 : decode cL_acts 853 = .ok (.iload 11, 2) := by decide +kernel
theorem dL_acts_855 : decode cL_acts 855 = .ok (.invokestatic 129, 3) := by decide +kernel
theorem dL_acts_858 : decode cL_acts 858 = .ok (.iload 13, 2) := by decide +kernel
theorem dL_acts_860 : decode cL_acts 860 = .ok (.ifCond .eq 11, 3) := by decide +kernel
theorem dL_acts_863 : decode cL_acts 863 = .ok (.aload 5, 2) := by decide +kernel
theorem dL_acts_865 : decode cL_acts 865 = .ok (.iload 10, 2) := by decide +kernel
theorem dL_acts_867 : decode cL_acts 867 = .ok (.iaload, 1) := by decide +kernel
theorem dL_acts_868 : decode cL_acts 868 = .ok (.goto 5, 3) := by decide +kernel
theorem dL_acts_871 : decode cL_acts 871 = .ok (.bipush (-5), 2) := by decide +kernel
theorem dL_acts_873 : decode cL_acts 873 = .ok (.if_icmp .ne 7, 3) := by decide +kernel
theorem dL_acts_876 : decode cL_acts 876 = .ok (.iconst 1, 1) := by decide +kernel
theorem dL_acts_877 : decode cL_acts 877 = .ok (.goto 4, 3) := by decide +kernel
theorem dL_acts_880 : decode cL_acts 880 = .ok (.iconst 0, 1) := by decide +kernel
theorem dL_acts_881 : decode cL_acts 881 = .ok (.ireturn, 1) := by decide +kernel
theorem dL_acts_882 : decode cL_acts 882 = .ok (.iload 7, 2) := by decide +kernel
theorem dL_acts_884 : decode cL_acts 884 = .ok (.bipush 32, 2) := by decide +kernel
theorem dL_acts_886 : decode cL_acts 886 = .ok (.irem, 1) := by decide +kernel
theorem dL_acts_887 : decode cL_acts 887 = .ok (.istore 10, 2) := by decide +kernel
theorem dL_acts_889 : decode cL_acts 889 = .ok (.iconst (-1), 1) := by decide +kernel
theorem dL_acts_890 : decode cL_acts 890 = .ok (.istore 11, 2) := by decide +kernel
theorem dL_acts_892 : decode cL_acts 892 = .ok (.iconst 3, 1) := by decide +kernel
theorem dL_acts_893 : decode cL_acts 893 = .ok (.istore 12, 2) := by decide +kernel
theorem dL_acts_895 : decode cL_acts 895 = .ok (.iload 12, 2) := by decide +kernel
theorem dL_acts_897 : decode cL_acts 897 = .ok (.ifCond .lt 45, 3) := by decide +kernel
theorem dL_acts_900 : decode cL_acts 900 = .ok (.iload 10, 2) := by decide +kernel
theorem dL_acts_902 : decode cL_acts 902 = .ok (.aload 5, 2) := by decide +kernel
theorem dL_acts_904 : decode cL_acts 904 = .ok (.aload 4, 2) := by decide +kernel
theorem dL_acts_906 : decode cL_acts 906 = .ok (.iconst 1, 1) := by decide +kernel
theorem dL_acts_907 : decode cL_acts 907 = .ok (.iaload, 1) := by decide +kernel
theorem dL_acts_908 : decode cL_acts 908 = .ok (.iload 12, 2) := by decide +kernel
theorem dL_acts_910 : decode cL_acts 910 = .ok (.iadd, 1) := by decide +kernel
theorem dL_acts_911 : decode cL_acts 911 = .ok (.iaload, 1) := by decide +kernel
theorem dL_acts_912 : decode cL_acts 912 = .ok (.ishr, 1) := by decide +kernel
theorem dL_acts_913 : decode cL_acts 913 = .ok (.iconst 1, 1) := by decide +kernel
theorem dL_acts_914 : decode cL_acts 914 = .ok (.iand, 1) := by decide +kernel
theorem dL_acts_915 : decode cL_acts 915 = .ok (.iconst 1, 1) := by decide +kernel
theorem dL_acts_916 : decode cL_acts 916 = .ok (.if_icmp .ne 16, 3) := by decide +kernel
theorem dL_acts_919 : decode cL_acts 919 = .ok (.aload 5, 2) := by decide +kernel
theorem dL_acts_921 : decode cL_acts 921 = .ok (.aload 4, 2) := by decide +kernel
theorem dL_acts_923 : decode cL_acts 923 = .ok (.iconst 1, 1) := by decide +kernel
theorem dL_acts_924 : decode cL_acts 924 = .ok (.iaload, 1) := by decide +kernel
theorem dL_acts_925 : decode cL_acts 925 = .ok (.iload 12, 2) := by decide +kernel
theorem dL_acts_927 : decode cL_acts 927 = .ok (.iadd, 1) := by decide +kernel
theorem dL_acts_928 : decode cL_acts 928 = .ok (.iaload, 1) := by decide +kernel
theorem dL_acts_929 : decode cL_acts 929 = .ok (.goto 5, 3) := by decide +kernel
theorem dL_acts_932 : decode cL_acts 932 = .ok (.iload 11, 2) := by decide +kernel
theorem dL_acts_934 : decode cL_acts 934 = .ok (.istore 11, 2) := by decide +kernel
theorem dL_acts_936 : decode cL_acts 936 = .ok (.iinc 12 (-1), 3) := by decide +kernel
theorem dL_acts_939 : decode cL_acts 939 = .ok (.goto (-44), 3) := by decide +kernel
theorem dL_acts_942 : decode cL_acts 942 = .ok (.aload_n 0, 1) := by decide +kernel
theorem dL_acts_943 : decode cL_acts 943 = .ok (.iload 10, 2) := by decide +kernel
theorem dL_acts_945 : decode cL_acts 945 = .ok (.invokevirtual 132, 3) := by decide +kernel
theorem dL_acts_948 : decode cL_acts 948 = .ok (.iload 11, 2) := by decide +kernel
theorem dL_acts_950 : decode cL_acts 950 = .ok (.if_icmp .ne 7, 3) := by decide +kernel
theorem dL_acts_953 : decode cL_acts 953 = .ok (.iconst 1, 1) := by decide +kernel
theorem dL_acts_954 : decode cL_acts 954 = .ok (.goto 4, 3) := by decide +kernel
theorem dL_acts_957 : decode cL_acts 957 = .ok (.iconst 0, 1) := by decide +kernel
theorem dL_acts_958 : decode cL_acts 958 = .ok (.ireturn, 1) := by decide +kernel
set_option maxRecDepth 20000 in
theorem ggL_holds_X4_init : GoodIn wsL_holds wsX4_init := goodIn_r _ [8, 9, 10, 11, 12, 13, 14, 15, 16, 17, 18, 19, 20, 21, 22, 23, 24, 25, 26, 27, 4, 28, 29, 30, 31, 32, 33, 34, 35, 36, 37, 38, 39, 40, 41, 42, 43, 355, 356, 357, 358, 351, 352, 353, 354, 359, 360, 361, 362, 363, 364] (by decide +kernel) (by decide +kernel)
set_option maxRecDepth 20000 in
theorem gL_holds_X4_init : GoodIn wsL_holds (wsX4_init) := ggL_holds_X4_init
set_option maxRecDepth 20000 in
theorem ggL_holds_L_from : GoodIn wsL_holds wsL_from := goodIn_r _ [47, 48, 49] (by decide +kernel) (by decide +kernel)
set_option maxRecDepth 20000 in
theorem gL_holds_L_from : GoodIn wsL_holds (va_wsS RL 136 yL_from wsL_from) := goodIn_app (goodIn_of _ (by decide +kernel)) ggL_holds_L_from
theorem dL_holds_0 : decode cL_holds 0 = .ok (.new 23, 3) := by decide +kernel
theorem dL_holds_3 : decode cL_holds 3 = .ok (.dup, 1) := by decide +kernel
theorem dL_holds_4 : decode cL_holds 4 = .ok (.invokespecial 135, 3) := by decide +kernel
theorem dL_holds_7 : decode cL_holds 7 = .ok (.astore_n 1, 1) := by decide +kernel
theorem dL_holds_8 : decode cL_holds 8 = .ok (.bipush 56, 2) := by decide +kernel
theorem dL_holds_10 : decode cL_holds 10 = .ok (.newarray .int, 2) := by decide +kernel
theorem dL_holds_12 : decode cL_holds 12 = .ok (.astore_n 2, 1) := by decide +kernel
theorem dL_holds_13 : decode cL_holds 13 = .ok (.bipush 56, 2) := by decide +kernel
theorem dL_holds_15 : decode cL_holds 15 = .ok (.newarray .int, 2) := by decide +kernel
theorem dL_holds_17 : decode cL_holds 17 = .ok (.astore_n 3, 1) := by decide +kernel
theorem dL_holds_18 : decode cL_holds 18 = .ok (.iconst 4, 1) := by decide +kernel
theorem dL_holds_19 : decode cL_holds 19 = .ok (.newarray .int, 2) := by decide +kernel
theorem dL_holds_21 : decode cL_holds 21 = .ok (.astore 4, 2) := by decide +kernel
theorem dL_holds_23 : decode cL_holds 23 = .ok (.bipush 8, 2) := by decide +kernel
theorem dL_holds_25 : decode cL_holds 25 = .ok (.newarray .int, 2) := by decide +kernel
theorem dL_holds_27 : decode cL_holds 27 = .ok (.astore 5, 2) := by decide +kernel
theorem dL_holds_29 : decode cL_holds 29 = .ok (.bipush 64, 2) := by decide +kernel
theorem dL_holds_31 : decode cL_holds 31 = .ok (.newarray .int, 2) := by decide +kernel
theorem dL_holds_33 : decode cL_holds 33 = .ok (.astore 6, 2) := by decide +kernel
theorem dL_holds_35 : decode cL_holds 35 = .ok (.aload 5, 2) := by decide +kernel
theorem dL_holds_37 : decode cL_holds 37 = .ok (.iconst 5, 1) := by decide +kernel
theorem dL_holds_38 : decode cL_holds 38 = .ok (.iconst 3, 1) := by decide +kernel
theorem dL_holds_39 : decode cL_holds 39 = .ok (.iastore, 1) := by decide +kernel
theorem dL_holds_40 : decode cL_holds 40 = .ok (.aload 5, 2) := by decide +kernel
theorem dL_holds_42 : decode cL_holds 42 = .ok (.bipush 6, 2) := by decide +kernel
theorem dL_holds_44 : decode cL_holds 44 = .ok (.iconst 2, 1) := by decide +kernel
theorem dL_holds_45 : decode cL_holds 45 = .ok (.iastore, 1) := by decide +kernel
theorem dL_holds_46 : decode cL_holds 46 = .ok (.aload 5, 2) := by decide +kernel
theorem dL_holds_48 : decode cL_holds 48 = .ok (.bipush 7, 2) := by decide +kernel
theorem dL_holds_50 : decode cL_holds 50 = .ok (.iconst 1, 1) := by decide +kernel
theorem dL_holds_51 : decode cL_holds 51 = .ok (.iastore, 1) := by decide +kernel
theorem dL_holds_52 : decode cL_holds 52 = .ok (.iconst 0, 1) := by decide +kernel
theorem dL_holds_53 : decode cL_holds 53 = .ok (.istore 7, 2) := by decide +kernel
theorem dL_holds_55 : decode cL_holds 55 = .ok (.iload 7, 2) := by decide +kernel
theorem dL_holds_57 : decode cL_holds 57 = .ok (.bipush 64, 2) := by decide +kernel
theorem dL_holds_59 : decode cL_holds 59 = .ok (.if_icmp .ge 18, 3) := by decide +kernel
theorem dL_holds_62 : decode cL_holds 62 = .ok (.aload 6, 2) := by decide +kernel
theorem dL_holds_64 : decode cL_holds 64 = .ok (.iload 7, 2) := by decide +kernel
theorem dL_holds_66 : decode cL_holds 66 = .ok (.iload 7, 2) := by decide +kernel
theorem dL_holds_68 : decode cL_holds 68 = .ok (.iconst 5, 1) := by decide +kernel
theorem dL_holds_69 : decode cL_holds 69 = .ok (.irem, 1) := by decide +kernel
theorem dL_holds_70 : decode cL_holds 70 = .ok (.iastore, 1) := by decide +kernel
theorem dL_holds_71 : decode cL_holds 71 = .ok (.iinc 7 1, 3) := by decide +kernel
theorem dL_holds_74 : decode cL_holds 74 = .ok (.goto (-19), 3) := by decide +kernel
theorem dL_holds_77 : decode cL_holds 77 = .ok (.iconst 1, 1) := by decide +kernel
theorem dL_holds_78 : decode cL_holds 78 = .ok (.istore 7, 2) := by decide +kernel
theorem dL_holds_80 : decode cL_holds 80 = .ok (.iconst 0, 1) := by decide +kernel
theorem dL_holds_81 : decode cL_holds 81 = .ok (.istore 8, 2) := by decide +kernel
theorem dL_holds_83 : decode cL_holds 83 = .ok (.iload 8, 2) := by decide +kernel
theorem dL_holds_85 : decode cL_holds 85 = .ok (.bipush 110, 2) := by decide +kernel
theorem dL_holds_87 : decode cL_holds 87 = .ok (.if_icmp .ge 79, 3) := by decide +kernel
theorem dL_holds_90 : decode cL_holds 90 = .ok (.iload 7, 2) := by decide +kernel
theorem dL_holds_92 : decode cL_holds 92 = .ok (.ifCond .eq 74, 3) := by decide +kernel
theorem dL_holds_95 : decode cL_holds 95 = .ok (.aload_n 1, 1) := by decide +kernel
theorem dL_holds_96 : decode cL_holds 96 = .ok (.aload_n 2, 1) := by decide +kernel
theorem dL_holds_97 : decode cL_holds 97 = .ok (.aload_n 3, 1) := by decide +kernel
theorem dL_holds_98 : decode cL_holds 98 = .ok (.aload 4, 2) := by decide +kernel
theorem dL_holds_100 : decode cL_holds 100 = .ok (.aload 5, 2) := by decide +kernel
theorem dL_holds_102 : decode cL_holds 102 = .ok (.aload 6, 2) := by decide +kernel
theorem dL_holds_104 : decode cL_holds 104 = .ok (.aload_n 0, 1) := by decide +kernel
theorem dL_holds_105 : decode cL_holds 105 = .ok (.iconst 2, 1) := by decide +kernel
theorem dL_holds_106 : decode cL_holds 106 = .ok (.iload 8, 2) := by decide +kernel
theorem dL_holds_108 : decode cL_holds 108 = .ok (.imul, 1) := by decide +kernel
theorem dL_holds_109 : decode cL_holds 109 = .ok (.bipush 23, 2) := by decide +kernel
theorem dL_holds_111 : decode cL_holds 111 = .ok (.invokestatic 136, 3) := by decide +kernel
theorem dL_holds_114 : decode cL_holds 114 = .ok (.aload_n 0, 1) := by decide +kernel
theorem dL_holds_115 : decode cL_holds 115 = .ok (.iconst 2, 1) := by decide +kernel
theorem dL_holds_116 : decode cL_holds 116 = .ok (.iload 8, 2) := by decide +kernel
theorem dL_holds_118 : decode cL_holds 118 = .ok (.imul, 1) := by decide +kernel
theorem dL_holds_119 : decode cL_holds 119 = .ok (.iconst 1, 1) := by decide +kernel
theorem dL_holds_120 : decode cL_holds 120 = .ok (.iadd, 1) := by decide +kernel
theorem dL_holds_121 : decode cL_holds 121 = .ok (.ldc 140, 2) := by decide +kernel
theorem dL_holds_123 : decode cL_holds 123 = .ok (.invokestatic 136, 3) := by decide +kernel
theorem dL_holds_126 : decode cL_holds 126 = .ok (.invokestatic 141, 3) := by decide +kernel
theorem dL_holds_129 : decode cL_holds 129 = .ok (.ifCond .eq 28, 3) := by decide +kernel
theorem dL_holds_132 : decode cL_holds 132 = .ok (.iload 8, 2) := by decide +kernel
theorem dL_holds_134 : decode cL_holds 134 = .ok (.iconst 4, 1) := by decide +kernel
theorem dL_holds_135 : decode cL_holds 135 = .ok (.irem, 1) := by decide +kernel
theorem dL_holds_136 : decode cL_holds 136 = .ok (.iconst 3, 1) := by decide +kernel
theorem dL_holds_137 : decode cL_holds 137 = .ok (.if_icmp .lt 16, 3) := by decide +kernel
theorem dL_holds_140 : decode cL_holds 140 = .ok (.aload_n 1, 1) := by decide +kernel
theorem dL_holds_141 : decode cL_holds 141 = .ok (.aload_n 2, 1) := by decide +kernel
theorem dL_holds_142 : decode cL_holds 142 = .ok (.aload_n 3, 1) := by decide +kernel
theorem dL_holds_143 : decode cL_holds 143 = .ok (.aload 5, 2) := by decide +kernel
theorem dL_holds_145 : decode cL_holds 145 = .ok (.aload 6, 2) := by decide +kernel
theorem dL_holds_147 : decode cL_holds 147 = .ok (.invokestatic 145, 3) := by decide +kernel
theorem dL_holds_150 : decode cL_holds 150 = .ok (.ifCond .eq 7, 3) := by decide +kernel
theorem dL_holds_153 : decode cL_holds 153 = .ok (.iconst 1, 1) := by decide +kernel
theorem dL_holds_154 : decode cL_holds 154 = .ok (.goto 4, 3) := by decide +kernel
theorem dL_holds_157 : decode cL_holds 157 = .ok (.iconst 0, 1) := by decide +kernel
theorem dL_holds_158 : decode cL_holds 158 = .ok (.istore 7, 2) := by decide +kernel
theorem dL_holds_160 : decode cL_holds 160 = .ok (.iinc 8 1, 3) := by decide +kernel
theorem dL_holds_163 : decode cL_holds 163 = .ok (.goto (-80), 3) := by decide +kernel
theorem dL_holds_166 : decode cL_holds 166 = .ok (.iload 7, 2) := by decide +kernel
theorem dL_holds_168 : decode cL_holds 168 = .ok (.ifCond .eq 20, 3) := by decide +kernel
theorem dL_holds_171 : decode cL_holds 171 = .ok (.aload_n 1, 1) := by decide +kernel
theorem dL_holds_172 : decode cL_holds 172 = .ok (.aload_n 2, 1) := by decide +kernel
theorem dL_holds_173 : decode cL_holds 173 = .ok (.aload_n 3, 1) := by decide +kernel
theorem dL_holds_174 : decode cL_holds 174 = .ok (.aload 5, 2) := by decide +kernel
theorem dL_holds_176 : decode cL_holds 176 = .ok (.aload 6, 2) := by decide +kernel
theorem dL_holds_178 : decode cL_holds 178 = .ok (.invokestatic 145, 3) := by decide +kernel
theorem dL_holds_181 : decode cL_holds 181 = .ok (.ifCond .eq 7, 3) := by decide +kernel
theorem dL_holds_184 : decode cL_holds 184 = .ok (.iconst 1, 1) := by decide +kernel
theorem dL_holds_185 : decode cL_holds 185 = .ok (.goto 4, 3) := by decide +kernel
theorem dL_holds_188 : decode cL_holds 188 = .ok (.iconst 0, 1) := by decide +kernel
theorem dL_holds_189 : decode cL_holds 189 = .ok (.ireturn, 1) := by decide +kernel
theorem dL_isHeld_0 : decode cL_isHeld 0 = .ok (.aload_n 0, 1) := by decide +kernel
theorem dL_isHeld_1 : decode cL_isHeld 1 = .ok (.invokestatic 149, 3) := by decide +kernel
theorem dL_isHeld_4 : decode cL_isHeld 4 = .ok (.ireturn, 1) := by decide +kernel
theorem dL_isHeld_5 : decode cL_isHeld 5 = .ok (.astore_n 1, 1) := by decide +kernel
theorem dL_isHeld_6 : decode cL_isHeld 6 = .ok (.iconst 0, 1) := by decide +kernel
theorem dL_isHeld_7 : decode cL_isHeld 7 = .ok (.ireturn, 1) := by decide +kernel
theorem dL_isHeld_8 : decode cL_isHeld 8 = .ok (.astore_n 1, 1) := by decide +kernel
theorem dL_isHeld_9 : decode cL_isHeld 9 = .ok (.iconst 0, 1) := by decide +kernel
theorem dL_isHeld_10 : decode cL_isHeld 10 = .ok (.ireturn, 1) := by decide +kernel
theorem dL_isHeld_11 : decode cL_isHeld 11 = .ok (.astore_n 1, 1) := by decide +kernel
theorem dL_isHeld_12 : decode cL_isHeld 12 = .ok (.iconst 0, 1) := by decide +kernel
theorem dL_isHeld_13 : decode cL_isHeld 13 = .ok (.ireturn, 1) := by decide +kernel
theorem dL_law_0 : decode cL_law 0 = .ok (.aload_n 0, 1) := by decide +kernel
theorem dL_law_1 : decode cL_law 1 = .ok (.invokestatic 153, 3) := by decide +kernel
theorem dL_law_4 : decode cL_law 4 = .ok (.ireturn, 1) := by decide +kernel
