theorem dX0_init_0 : decode cX0_init 0 = .ok (.aload_n 0, 1) := by decide +kernel
theorem dX0_init_1 : decode cX0_init 1 = .ok (.invokespecial 3, 3) := by decide +kernel
theorem dX0_init_4 : decode cX0_init 4 = .ok (.aload_n 0, 1) := by decide +kernel
theorem dX0_init_5 : decode cX0_init 5 = .ok (.bipush 10, 2) := by decide +kernel
theorem dX0_init_7 : decode cX0_init 7 = .ok (.newarray .int, 2) := by decide +kernel
theorem dX0_init_9 : decode cX0_init 9 = .ok (.putfield 9, 3) := by decide +kernel
theorem dX0_init_12 : decode cX0_init 12 = .ok (.aload_n 0, 1) := by decide +kernel
theorem dX0_init_13 : decode cX0_init 13 = .ok (.iload_n 1, 1) := by decide +kernel
theorem dX0_init_14 : decode cX0_init 14 = .ok (.putfield 15, 3) := by decide +kernel
theorem dX0_init_17 : decode cX0_init 17 = .ok (.aload_n 0, 1) := by decide +kernel
theorem dX0_init_18 : decode cX0_init 18 = .ok (.iload_n 2, 1) := by decide +kernel
theorem dX0_init_19 : decode cX0_init 19 = .ok (.putfield 19, 3) := by decide +kernel
theorem dX0_init_22 : decode cX0_init 22 = .ok (.aload_n 0, 1) := by decide +kernel
theorem dX0_init_23 : decode cX0_init 23 = .ok (.aload_n 3, 1) := by decide +kernel
theorem dX0_init_24 : decode cX0_init 24 = .ok (.putfield 22, 3) := by decide +kernel
theorem dX0_init_27 : decode cX0_init 27 = .ok (.aload_n 0, 1) := by decide +kernel
theorem dX0_init_28 : decode cX0_init 28 = .ok (.iload 4, 2) := by decide +kernel
theorem dX0_init_30 : decode cX0_init 30 = .ok (.putfield 26, 3) := by decide +kernel
theorem dX0_init_33 : decode cX0_init 33 = .ok (.iconst 0, 1) := by decide +kernel
theorem dX0_init_34 : decode cX0_init 34 = .ok (.istore 5, 2) := by decide +kernel
theorem dX0_init_36 : decode cX0_init 36 = .ok (.iload 5, 2) := by decide +kernel
theorem dX0_init_38 : decode cX0_init 38 = .ok (.aload_n 0, 1) := by decide +kernel
theorem dX0_init_39 : decode cX0_init 39 = .ok (.getfield 9, 3) := by decide +kernel
theorem dX0_init_42 : decode cX0_init 42 = .ok (.arraylength, 1) := by decide +kernel
theorem dX0_init_43 : decode cX0_init 43 = .ok (.if_icmp .ge 17, 3) := by decide +kernel
theorem dX0_init_46 : decode cX0_init 46 = .ok (.aload_n 0, 1) := by decide +kernel
theorem dX0_init_47 : decode cX0_init 47 = .ok (.getfield 9, 3) := by decide +kernel
theorem dX0_init_50 : decode cX0_init 50 = .ok (.iload 5, 2) := by decide +kernel
theorem dX0_init_52 : decode cX0_init 52 = .ok (.iconst (-1), 1) := by decide +kernel
theorem dX0_init_53 : decode cX0_init 53 = .ok (.iastore, 1) := by decide +kernel
theorem dX0_init_54 : decode cX0_init 54 = .ok (.iinc 5 1, 3) := by decide +kernel
theorem dX0_init_57 : decode cX0_init 57 = .ok (.goto (-21), 3) := by decide +kernel
theorem dX0_init_60 : decode cX0_init 60 = .ok (.return_, 1) := by decide +kernel
theorem dX0_keep_0 : decode cX0_keep 0 = .ok (.iload_n 1, 1) := by decide +kernel
theorem dX0_keep_1 : decode cX0_keep 1 = .ok (.ifCond .lt 12, 3) := by decide +kernel
theorem dX0_keep_4 : decode cX0_keep 4 = .ok (.iload_n 1, 1) := by decide +kernel
theorem dX0_keep_5 : decode cX0_keep 5 = .ok (.aload_n 0, 1) := by decide +kernel
theorem dX0_keep_6 : decode cX0_keep 6 = .ok (.getfield 9, 3) := by decide +kernel
theorem dX0_keep_9 : decode cX0_keep 9 = .ok (.arraylength, 1) := by decide +kernel
theorem dX0_keep_10 : decode cX0_keep 10 = .ok (.if_icmp .lt 4, 3) := by decide +kernel
theorem dX0_keep_13 : decode cX0_keep 13 = .ok (.return_, 1) := by decide +kernel
theorem dX0_keep_14 : decode cX0_keep 14 = .ok (.aload_n 0, 1) := by decide +kernel
theorem dX0_keep_15 : decode cX0_keep 15 = .ok (.getfield 9, 3) := by decide +kernel
theorem dX0_keep_18 : decode cX0_keep 18 = .ok (.iload_n 1, 1) := by decide +kernel
theorem dX0_keep_19 : decode cX0_keep 19 = .ok (.iaload, 1) := by decide +kernel
theorem dX0_keep_20 : decode cX0_keep 20 = .ok (.iconst (-1), 1) := by decide +kernel
theorem dX0_keep_21 : decode cX0_keep 21 = .ok (.if_icmp .ne 13, 3) := by decide +kernel
theorem dX0_keep_24 : decode cX0_keep 24 = .ok (.aload_n 0, 1) := by decide +kernel
theorem dX0_keep_25 : decode cX0_keep 25 = .ok (.dup, 1) := by decide +kernel
theorem dX0_keep_26 : decode cX0_keep 26 = .ok (.getfield 29, 3) := by decide +kernel
theorem dX0_keep_29 : decode cX0_keep 29 = .ok (.iconst 1, 1) := by decide +kernel
theorem dX0_keep_30 : decode cX0_keep 30 = .ok (.iadd, 1) := by decide +kernel
theorem dX0_keep_31 : decode cX0_keep 31 = .ok (.putfield 29, 3) := by decide +kernel
theorem dX0_keep_34 : decode cX0_keep 34 = .ok (.aload_n 0, 1) := by decide +kernel
theorem dX0_keep_35 : decode cX0_keep 35 = .ok (.getfield 9, 3) := by decide +kernel
theorem dX0_keep_38 : decode cX0_keep 38 = .ok (.iload_n 1, 1) := by decide +kernel
theorem dX0_keep_39 : decode cX0_keep 39 = .ok (.iload_n 2, 1) := by decide +kernel
theorem dX0_keep_40 : decode cX0_keep 40 = .ok (.iastore, 1) := by decide +kernel
theorem dX0_keep_41 : decode cX0_keep 41 = .ok (.return_, 1) := by decide +kernel
theorem dX0_spaceTaken_0 : decode cX0_spaceTaken 0 = .ok (.aload_n 0, 1) := by decide +kernel
theorem dX0_spaceTaken_1 : decode cX0_spaceTaken 1 = .ok (.getfield 29, 3) := by decide +kernel
theorem dX0_spaceTaken_4 : decode cX0_spaceTaken 4 = .ok (.iconst 1, 1) := by decide +kernel
theorem dX0_spaceTaken_5 : decode cX0_spaceTaken 5 = .ok (.iadd, 1) := by decide +kernel
theorem dX0_spaceTaken_6 : decode cX0_spaceTaken 6 = .ok (.ireturn, 1) := by decide +kernel
theorem dX0_periodOf_0 : decode cX0_periodOf 0 = .ok (.iload_n 1, 1) := by decide +kernel
theorem dX0_periodOf_1 : decode cX0_periodOf 1 = .ok (.lookupswitch 43 #[(1, 27), (2, 35)], 27) := by decide +kernel
theorem dX0_periodOf_28 : decode cX0_periodOf 28 = .ok (.aload_n 0, 1) := by decide +kernel
theorem dX0_periodOf_29 : decode cX0_periodOf 29 = .ok (.getfield 19, 3) := by decide +kernel
theorem dX0_periodOf_32 : decode cX0_periodOf 32 = .ok (.bipush 7, 2) := by decide +kernel
theorem dX0_periodOf_34 : decode cX0_periodOf 34 = .ok (.idiv, 1) := by decide +kernel
theorem dX0_periodOf_35 : decode cX0_periodOf 35 = .ok (.ireturn, 1) := by decide +kernel
theorem dX0_periodOf_36 : decode cX0_periodOf 36 = .ok (.aload_n 0, 1) := by decide +kernel
theorem dX0_periodOf_37 : decode cX0_periodOf 37 = .ok (.getfield 19, 3) := by decide +kernel
theorem dX0_periodOf_40 : decode cX0_periodOf 40 = .ok (.bipush 28, 2) := by decide +kernel
theorem dX0_periodOf_42 : decode cX0_periodOf 42 = .ok (.idiv, 1) := by decide +kernel
theorem dX0_periodOf_43 : decode cX0_periodOf 43 = .ok (.ireturn, 1) := by decide +kernel
theorem dX0_periodOf_44 : decode cX0_periodOf 44 = .ok (.aload_n 0, 1) := by decide +kernel
theorem dX0_periodOf_45 : decode cX0_periodOf 45 = .ok (.getfield 19, 3) := by decide +kernel
theorem dX0_periodOf_48 : decode cX0_periodOf 48 = .ok (.ireturn, 1) := by decide +kernel
theorem dX0_contentByChain_0 : decode cX0_contentByChain 0 = .ok (.iload_n 1, 1) := by decide +kernel
theorem dX0_contentByChain_1 : decode cX0_contentByChain 1 = .ok (.ifCond .lt 9, 3) := by decide +kernel
theorem dX0_contentByChain_4 : decode cX0_contentByChain 4 = .ok (.iload_n 1, 1) := by decide +kernel
theorem dX0_contentByChain_5 : decode cX0_contentByChain 5 = .ok (.bipush 10, 2) := by decide +kernel
theorem dX0_contentByChain_7 : decode cX0_contentByChain 7 = .ok (.if_icmp .lt 5, 3) := by decide +kernel
theorem dX0_contentByChain_10 : decode cX0_contentByChain 10 = .ok (.iconst (-1), 1) := by decide +kernel
theorem dX0_contentByChain_11 : decode cX0_contentByChain 11 = .ok (.ireturn, 1) := by decide +kernel
theorem dX0_contentByChain_12 : decode cX0_contentByChain 12 = .ok (.aload_n 0, 1) := by decide +kernel
theorem dX0_contentByChain_13 : decode cX0_contentByChain 13 = .ok (.astore_n 2, 1) := by decide +kernel
theorem dX0_contentByChain_14 : decode cX0_contentByChain 14 = .ok (.aload_n 2, 1) := by decide +kernel
theorem dX0_contentByChain_15 : decode cX0_contentByChain 15 = .ok (.ifnull 37, 3) := by decide +kernel
theorem dX0_contentByChain_18 : decode cX0_contentByChain 18 = .ok (.iload_n 1, 1) := by decide +kernel
theorem dX0_contentByChain_19 : decode cX0_contentByChain 19 = .ok (.aload_n 2, 1) := by decide +kernel
theorem dX0_contentByChain_20 : decode cX0_contentByChain 20 = .ok (.getfield 9, 3) := by decide +kernel
theorem dX0_contentByChain_23 : decode cX0_contentByChain 23 = .ok (.arraylength, 1) := by decide +kernel
theorem dX0_contentByChain_24 : decode cX0_contentByChain 24 = .ok (.if_icmp .ge 20, 3) := by decide +kernel
theorem dX0_contentByChain_27 : decode cX0_contentByChain 27 = .ok (.aload_n 2, 1) := by decide +kernel
theorem dX0_contentByChain_28 : decode cX0_contentByChain 28 = .ok (.getfield 9, 3) := by decide +kernel
theorem dX0_contentByChain_31 : decode cX0_contentByChain 31 = .ok (.iload_n 1, 1) := by decide +kernel
theorem dX0_contentByChain_32 : decode cX0_contentByChain 32 = .ok (.iaload, 1) := by decide +kernel
theorem dX0_contentByChain_33 : decode cX0_contentByChain 33 = .ok (.iconst (-1), 1) := by decide +kernel
theorem dX0_contentByChain_34 : decode cX0_contentByChain 34 = .ok (.if_icmp .eq 10, 3) := by decide +kernel
theorem dX0_contentByChain_37 : decode cX0_contentByChain 37 = .ok (.aload_n 2, 1) := by decide +kernel
theorem dX0_contentByChain_38 : decode cX0_contentByChain 38 = .ok (.getfield 9, 3) := by decide +kernel
theorem dX0_contentByChain_41 : decode cX0_contentByChain 41 = .ok (.iload_n 1, 1) := by decide +kernel
theorem dX0_contentByChain_42 : decode cX0_contentByChain 42 = .ok (.iaload, 1) := by decide +kernel
theorem dX0_contentByChain_43 : decode cX0_contentByChain 43 = .ok (.ireturn, 1) := by decide +kernel
theorem dX0_contentByChain_44 : decode cX0_contentByChain 44 = .ok (.aload_n 2, 1) := by decide +kernel
theorem dX0_contentByChain_45 : decode cX0_contentByChain 45 = .ok (.getfield 22, 3) := by decide +kernel
theorem dX0_contentByChain_48 : decode cX0_contentByChain 48 = .ok (.astore_n 2, 1) := by decide +kernel
theorem dX0_contentByChain_49 : decode cX0_contentByChain 49 = .ok (.goto (-35), 3) := by decide +kernel
theorem dX0_contentByChain_52 : decode cX0_contentByChain 52 = .ok (.iconst (-1), 1) := by decide +kernel
theorem dX0_contentByChain_53 : decode cX0_contentByChain 53 = .ok (.ireturn, 1) := by decide +kernel
theorem dX0_hasDamagedChain_0 : decode cX0_hasDamagedChain 0 = .ok (.aload_n 0, 1) := by decide +kernel
theorem dX0_hasDamagedChain_1 : decode cX0_hasDamagedChain 1 = .ok (.astore_n 1, 1) := by decide +kernel
theorem dX0_hasDamagedChain_2 : decode cX0_hasDamagedChain 2 = .ok (.aload_n 1, 1) := by decide +kernel
theorem dX0_hasDamagedChain_3 : decode cX0_hasDamagedChain 3 = .ok (.ifnull 20, 3) := by decide +kernel
theorem dX0_hasDamagedChain_6 : decode cX0_hasDamagedChain 6 = .ok (.aload_n 1, 1) := by decide +kernel
theorem dX0_hasDamagedChain_7 : decode cX0_hasDamagedChain 7 = .ok (.getfield 32, 3) := by decide +kernel
theorem dX0_hasDamagedChain_10 : decode cX0_hasDamagedChain 10 = .ok (.ifCond .eq 5, 3) := by decide +kernel
theorem dX0_hasDamagedChain_13 : decode cX0_hasDamagedChain 13 = .ok (.iconst 1, 1) := by decide +kernel
theorem dX0_hasDamagedChain_14 : decode cX0_hasDamagedChain 14 = .ok (.ireturn, 1) := by decide +kernel
theorem dX0_hasDamagedChain_15 : decode cX0_hasDamagedChain 15 = .ok (.aload_n 1, 1) := by decide +kernel
theorem dX0_hasDamagedChain_16 : decode cX0_hasDamagedChain 16 = .ok (.getfield 22, 3) := by decide +kernel
theorem dX0_hasDamagedChain_19 : decode cX0_hasDamagedChain 19 = .ok (.astore_n 1, 1) := by decide +kernel
theorem dX0_hasDamagedChain_20 : decode cX0_hasDamagedChain 20 = .ok (.goto (-18), 3) := by decide +kernel
theorem dX0_hasDamagedChain_23 : decode cX0_hasDamagedChain 23 = .ok (.iconst 0, 1) := by decide +kernel
theorem dX0_hasDamagedChain_24 : decode cX0_hasDamagedChain 24 = .ok (.ireturn, 1) := by decide +kernel
theorem dX0_proveChain_0 : decode cX0_proveChain 0 = .ok (.aload_n 0, 1) := by decide +kernel
theorem dX0_proveChain_1 : decode cX0_proveChain 1 = .ok (.astore_n 2, 1) := by decide +kernel
theorem dX0_proveChain_2 : decode cX0_proveChain 2 = .ok (.aload_n 2, 1) := by decide +kernel
theorem dX0_proveChain_3 : decode cX0_proveChain 3 = .ok (.ifnull 16, 3) := by decide +kernel
theorem dX0_proveChain_6 : decode cX0_proveChain 6 = .ok (.aload_n 2, 1) := by decide +kernel
theorem dX0_proveChain_7 : decode cX0_proveChain 7 = .ok (.iload_n 1, 1) := by decide +kernel
theorem dX0_proveChain_8 : decode cX0_proveChain 8 = .ok (.putfield 36, 3) := by decide +kernel
theorem dX0_proveChain_11 : decode cX0_proveChain 11 = .ok (.aload_n 2, 1) := by decide +kernel
theorem dX0_proveChain_12 : decode cX0_proveChain 12 = .ok (.getfield 22, 3) := by decide +kernel
theorem dX0_proveChain_15 : decode cX0_proveChain 15 = .ok (.astore_n 2, 1) := by decide +kernel
theorem dX0_proveChain_16 : decode cX0_proveChain 16 = .ok (.goto (-14), 3) := by decide +kernel
theorem dX0_proveChain_19 : decode cX0_proveChain 19 = .ok (.return_, 1) := by decide +kernel
theorem dX0_chainLength_0 : decode cX0_chainLength 0 = .ok (.iconst 0, 1) := by decide +kernel
theorem dX0_chainLength_1 : decode cX0_chainLength 1 = .ok (.istore_n 1, 1) := by decide +kernel
theorem dX0_chainLength_2 : decode cX0_chainLength 2 = .ok (.aload_n 0, 1) := by decide +kernel
theorem dX0_chainLength_3 : decode cX0_chainLength 3 = .ok (.astore_n 2, 1) := by decide +kernel
theorem dX0_chainLength_4 : decode cX0_chainLength 4 = .ok (.aload_n 2, 1) := by decide +kernel
theorem dX0_chainLength_5 : decode cX0_chainLength 5 = .ok (.ifnull 14, 3) := by decide +kernel
theorem dX0_chainLength_8 : decode cX0_chainLength 8 = .ok (.iinc 1 1, 3) := by decide +kernel
theorem dX0_chainLength_11 : decode cX0_chainLength 11 = .ok (.aload_n 2, 1) := by decide +kernel
theorem dX0_chainLength_12 : decode cX0_chainLength 12 = .ok (.getfield 22, 3) := by decide +kernel
theorem dX0_chainLength_15 : decode cX0_chainLength 15 = .ok (.astore_n 2, 1) := by decide +kernel
theorem dX0_chainLength_16 : decode cX0_chainLength 16 = .ok (.goto (-12), 3) := by decide +kernel
theorem dX0_chainLength_19 : decode cX0_chainLength 19 = .ok (.iload_n 1, 1) := by decide +kernel
theorem dX0_chainLength_20 : decode cX0_chainLength 20 = .ok (.ireturn, 1) := by decide +kernel
theorem dX0_markChainNeeded_0 : decode cX0_markChainNeeded 0 = .ok (.aload_n 0, 1) := by decide +kernel
theorem dX0_markChainNeeded_1 : decode cX0_markChainNeeded 1 = .ok (.astore_n 1, 1) := by decide +kernel
theorem dX0_markChainNeeded_2 : decode cX0_markChainNeeded 2 = .ok (.aload_n 1, 1) := by decide +kernel
theorem dX0_markChainNeeded_3 : decode cX0_markChainNeeded 3 = .ok (.ifnull 23, 3) := by decide +kernel
theorem dX0_markChainNeeded_6 : decode cX0_markChainNeeded 6 = .ok (.aload_n 1, 1) := by decide +kernel
theorem dX0_markChainNeeded_7 : decode cX0_markChainNeeded 7 = .ok (.getfield 39, 3) := by decide +kernel
theorem dX0_markChainNeeded_10 : decode cX0_markChainNeeded 10 = .ok (.ifCond .ne 16, 3) := by decide +kernel
theorem dX0_markChainNeeded_13 : decode cX0_markChainNeeded 13 = .ok (.aload_n 1, 1) := by decide +kernel
theorem dX0_markChainNeeded_14 : decode cX0_markChainNeeded 14 = .ok (.iconst 1, 1) := by decide +kernel
theorem dX0_markChainNeeded_15 : decode cX0_markChainNeeded 15 = .ok (.putfield 39, 3) := by decide +kernel
theorem dX0_markChainNeeded_18 : decode cX0_markChainNeeded 18 = .ok (.aload_n 1, 1) := by decide +kernel
theorem dX0_markChainNeeded_19 : decode cX0_markChainNeeded 19 = .ok (.getfield 22, 3) := by decide +kernel
theorem dX0_markChainNeeded_22 : decode cX0_markChainNeeded 22 = .ok (.astore_n 1, 1) := by decide +kernel
theorem dX0_markChainNeeded_23 : decode cX0_markChainNeeded 23 = .ok (.goto (-21), 3) := by decide +kernel
theorem dX0_markChainNeeded_26 : decode cX0_markChainNeeded 26 = .ok (.return_, 1) := by decide +kernel
theorem dX1_init_0 : decode cX1_init 0 = .ok (.aload_n 0, 1) := by decide +kernel
theorem dX1_init_1 : decode cX1_init 1 = .ok (.invokespecial 3, 3) := by decide +kernel
theorem dX1_init_4 : decode cX1_init 4 = .ok (.aload_n 0, 1) := by decide +kernel
theorem dX1_init_5 : decode cX1_init 5 = .ok (.bipush 10, 2) := by decide +kernel
theorem dX1_init_7 : decode cX1_init 7 = .ok (.newarray .int, 2) := by decide +kernel
theorem dX1_init_9 : decode cX1_init 9 = .ok (.putfield 9, 3) := by decide +kernel
theorem dX1_init_12 : decode cX1_init 12 = .ok (.aload_n 0, 1) := by decide +kernel
theorem dX1_init_13 : decode cX1_init 13 = .ok (.sipush 300, 3) := by decide +kernel
theorem dX1_init_16 : decode cX1_init 16 = .ok (.newarray .int, 2) := by decide +kernel
theorem dX1_init_18 : decode cX1_init 18 = .ok (.putfield 15, 3) := by decide +kernel
theorem dX1_init_21 : decode cX1_init 21 = .ok (.aload_n 0, 1) := by decide +kernel
theorem dX1_init_22 : decode cX1_init 22 = .ok (.sipush 300, 3) := by decide +kernel
theorem dX1_init_25 : decode cX1_init 25 = .ok (.newarray .int, 2) := by decide +kernel
theorem dX1_init_27 : decode cX1_init 27 = .ok (.putfield 18, 3) := by decide +kernel
theorem dX1_init_30 : decode cX1_init 30 = .ok (.return_, 1) := by decide +kernel
theorem dX1_contentNow_0 : decode cX1_contentNow 0 = .ok (.iload_n 1, 1) := by decide +kernel
theorem dX1_contentNow_1 : decode cX1_contentNow 1 = .ok (.ifCond .lt 21, 3) := by decide +kernel
theorem dX1_contentNow_4 : decode cX1_contentNow 4 = .ok (.iload_n 1, 1) := by decide +kernel
theorem dX1_contentNow_5 : decode cX1_contentNow 5 = .ok (.aload_n 0, 1) := by decide +kernel
theorem dX1_contentNow_6 : decode cX1_contentNow 6 = .ok (.getfield 9, 3) := by decide +kernel
theorem dX1_contentNow_9 : decode cX1_contentNow 9 = .ok (.arraylength, 1) := by decide +kernel
theorem dX1_contentNow_10 : decode cX1_contentNow 10 = .ok (.if_icmp .ge 12, 3) := by decide +kernel
theorem dX1_contentNow_13 : decode cX1_contentNow 13 = .ok (.aload_n 0, 1) := by decide +kernel
theorem dX1_contentNow_14 : decode cX1_contentNow 14 = .ok (.getfield 9, 3) := by decide +kernel
theorem dX1_contentNow_17 : decode cX1_contentNow 17 = .ok (.iload_n 1, 1) := by decide +kernel
theorem dX1_contentNow_18 : decode cX1_contentNow 18 = .ok (.iaload, 1) := by decide +kernel
theorem dX1_contentNow_19 : decode cX1_contentNow 19 = .ok (.goto 4, 3) := by decide +kernel
theorem dX1_contentNow_22 : decode cX1_contentNow 22 = .ok (.iconst (-1), 1) := by decide +kernel
theorem dX1_contentNow_23 : decode cX1_contentNow 23 = .ok (.ireturn, 1) := by decide +kernel
theorem dX1_write_0 : decode cX1_write 0 = .ok (.iload_n 1, 1) := by decide +kernel
theorem dX1_write_1 : decode cX1_write 1 = .ok (.ifCond .lt 12, 3) := by decide +kernel
theorem dX1_write_4 : decode cX1_write 4 = .ok (.iload_n 1, 1) := by decide +kernel
theorem dX1_write_5 : decode cX1_write 5 = .ok (.aload_n 0, 1) := by decide +kernel
theorem dX1_write_6 : decode cX1_write 6 = .ok (.getfield 9, 3) := by decide +kernel
theorem dX1_write_9 : decode cX1_write 9 = .ok (.arraylength, 1) := by decide +kernel
theorem dX1_write_10 : decode cX1_write 10 = .ok (.if_icmp .lt 4, 3) := by decide +kernel
theorem dX1_write_13 : decode cX1_write 13 = .ok (.return_, 1) := by decide +kernel
theorem dX1_write_14 : decode cX1_write 14 = .ok (.aload_n 0, 1) := by decide +kernel
theorem dX1_write_15 : decode cX1_write 15 = .ok (.getfield 21, 3) := by decide +kernel
theorem dX1_write_18 : decode cX1_write 18 = .ok (.ifCond .lt 27, 3) := by decide +kernel
theorem dX1_write_21 : decode cX1_write 21 = .ok (.aload_n 0, 1) := by decide +kernel
theorem dX1_write_22 : decode cX1_write 22 = .ok (.getfield 21, 3) := by decide +kernel
theorem dX1_write_25 : decode cX1_write 25 = .ok (.aload_n 0, 1) := by decide +kernel
theorem dX1_write_26 : decode cX1_write 26 = .ok (.getfield 15, 3) := by decide +kernel
theorem dX1_write_29 : decode cX1_write 29 = .ok (.arraylength, 1) := by decide +kernel
theorem dX1_write_30 : decode cX1_write 30 = .ok (.if_icmp .ge 15, 3) := by decide +kernel
theorem dX1_write_33 : decode cX1_write 33 = .ok (.aload_n 0, 1) := by decide +kernel
theorem dX1_write_34 : decode cX1_write 34 = .ok (.getfield 21, 3) := by decide +kernel
theorem dX1_write_37 : decode cX1_write 37 = .ok (.aload_n 0, 1) := by decide +kernel
theorem dX1_write_38 : decode cX1_write 38 = .ok (.getfield 18, 3) := by decide +kernel
theorem dX1_write_41 : decode cX1_write 41 = .ok (.arraylength, 1) := by decide +kernel
theorem dX1_write_42 : decode cX1_write 42 = .ok (.if_icmp .lt 4, 3) := by decide +kernel
theorem dX1_write_45 : decode cX1_write 45 = .ok (.return_, 1) := by decide +kernel
theorem dX1_write_46 : decode cX1_write 46 = .ok (.aload_n 0, 1) := by decide +kernel
theorem dX1_write_47 : decode cX1_write 47 = .ok (.getfield 9, 3) := by decide +kernel
theorem dX1_write_50 : decode cX1_write 50 = .ok (.iload_n 1, 1) := by decide +kernel
theorem dX1_write_51 : decode cX1_write 51 = .ok (.iload_n 2, 1) := by decide +kernel
theorem dX1_write_52 : decode cX1_write 52 = .ok (.iastore, 1) := by decide +kernel
theorem dX1_write_53 : decode cX1_write 53 = .ok (.aload_n 0, 1) := by decide +kernel
theorem dX1_write_54 : decode cX1_write 54 = .ok (.getfield 15, 3) := by decide +kernel
theorem dX1_write_57 : decode cX1_write 57 = .ok (.aload_n 0, 1) := by decide +kernel
theorem dX1_write_58 : decode cX1_write 58 = .ok (.getfield 21, 3) := by decide +kernel
theorem dX1_write_61 : decode cX1_write 61 = .ok (.iload_n 1, 1) := by decide +kernel
theorem dX1_write_62 : decode cX1_write 62 = .ok (.iastore, 1) := by decide +kernel
theorem dX1_write_63 : decode cX1_write 63 = .ok (.aload_n 0, 1) := by decide +kernel
theorem dX1_write_64 : decode cX1_write 64 = .ok (.getfield 18, 3) := by decide +kernel
theorem dX1_write_67 : decode cX1_write 67 = .ok (.aload_n 0, 1) := by decide +kernel
theorem dX1_write_68 : decode cX1_write 68 = .ok (.getfield 21, 3) := by decide +kernel
theorem dX1_write_71 : decode cX1_write 71 = .ok (.iload_n 2, 1) := by decide +kernel
theorem dX1_write_72 : decode cX1_write 72 = .ok (.iastore, 1) := by decide +kernel
theorem dX1_write_73 : decode cX1_write 73 = .ok (.aload_n 0, 1) := by decide +kernel
theorem dX1_write_74 : decode cX1_write 74 = .ok (.dup, 1) := by decide +kernel
theorem dX1_write_75 : decode cX1_write 75 = .ok (.getfield 21, 3) := by decide +kernel
theorem dX1_write_78 : decode cX1_write 78 = .ok (.iconst 1, 1) := by decide +kernel
theorem dX1_write_79 : decode cX1_write 79 = .ok (.iadd, 1) := by decide +kernel
theorem dX1_write_80 : decode cX1_write 80 = .ok (.putfield 21, 3) := by decide +kernel
theorem dX1_write_83 : decode cX1_write 83 = .ok (.return_, 1) := by decide +kernel
set_option maxRecDepth 20000 in
theorem ggX1_keepAll_X0_keep : GoodIn wsX1_keepAll wsX0_keep := goodIn_r _ [6, 7, 8, 13, 14, 15, 16, 17, 18, 19, 20, 21, 22, 23] (by decide +kernel) (by decide +kernel)
set_option maxRecDepth 20000 in
theorem gX1_keepAll_X0_keep : GoodIn wsX1_keepAll (wsV RX1 25 RX0 yX0_keep wsX0_keep) := goodIn_app (goodIn_of _ (by decide +kernel)) ggX1_keepAll_X0_keep
theorem dX1_keepAll_0 : decode cX1_keepAll 0 = .ok (.iconst 0, 1) := by decide +kernel
theorem dX1_keepAll_1 : decode cX1_keepAll 1 = .ok (.istore_n 2, 1) := by decide +kernel
theorem dX1_keepAll_2 : decode cX1_keepAll 2 = .ok (.iload_n 2, 1) := by decide +kernel
theorem dX1_keepAll_3 : decode cX1_keepAll 3 = .ok (.aload_n 0, 1) := by decide +kernel
theorem dX1_keepAll_4 : decode cX1_keepAll 4 = .ok (.getfield 9, 3) := by decide +kernel
theorem dX1_keepAll_7 : decode cX1_keepAll 7 = .ok (.arraylength, 1) := by decide +kernel
theorem dX1_keepAll_8 : decode cX1_keepAll 8 = .ok (.if_icmp .ge 20, 3) := by decide +kernel
theorem dX1_keepAll_11 : decode cX1_keepAll 11 = .ok (.aload_n 1, 1) := by decide +kernel
theorem dX1_keepAll_12 : decode cX1_keepAll 12 = .ok (.iload_n 2, 1) := by decide +kernel
theorem dX1_keepAll_13 : decode cX1_keepAll 13 = .ok (.aload_n 0, 1) := by decide +kernel
theorem dX1_keepAll_14 : decode cX1_keepAll 14 = .ok (.getfield 9, 3) := by decide +kernel
theorem dX1_keepAll_17 : decode cX1_keepAll 17 = .ok (.iload_n 2, 1) := by decide +kernel
theorem dX1_keepAll_18 : decode cX1_keepAll 18 = .ok (.iaload, 1) := by decide +kernel
theorem dX1_keepAll_19 : decode cX1_keepAll 19 = .ok (.invokevirtual 25, 3) := by decide +kernel
theorem dX1_keepAll_22 : decode cX1_keepAll 22 = .ok (.iinc 2 1, 3) := by decide +kernel
theorem dX1_keepAll_25 : decode cX1_keepAll 25 = .ok (.goto (-23), 3) := by decide +kernel
theorem dX1_keepAll_28 : decode cX1_keepAll 28 = .ok (.return_, 1) := by decide +kernel
set_option maxRecDepth 20000 in
theorem ggX1_keepChanged_X1_contentNow : GoodIn wsX1_keepChanged wsX1_contentNow := goodIn_r _ [11, 12, 20, 21, 22, 23] (by decide +kernel) (by decide +kernel)
set_option maxRecDepth 20000 in
theorem gX1_keepChanged_X1_contentNow : GoodIn wsX1_keepChanged (wsV RX1 37 RX1 yX1_contentNow wsX1_contentNow) := goodIn_app (goodIn_of _ (by decide +kernel)) ggX1_keepChanged_X1_contentNow
set_option maxRecDepth 20000 in
theorem ggX1_keepChanged_X0_keep : GoodIn wsX1_keepChanged wsX0_keep := goodIn_r _ [17, 18, 19, 24, 25, 26, 27, 28, 29, 30, 31, 32, 33, 34] (by decide +kernel) (by decide +kernel)
set_option maxRecDepth 20000 in
theorem gX1_keepChanged_X0_keep : GoodIn wsX1_keepChanged (wsV RX1 25 RX0 yX0_keep wsX0_keep) := goodIn_app (goodIn_of _ (by decide +kernel)) ggX1_keepChanged_X0_keep
theorem dX1_keepChanged_0 : decode cX1_keepChanged 0 = .ok (.iload_n 2, 1) := by decide +kernel
theorem dX1_keepChanged_1 : decode cX1_keepChanged 1 = .ok (.iconst 0, 1) := by decide +kernel
theorem dX1_keepChanged_2 : decode cX1_keepChanged 2 = .ok (.invokestatic 31, 3) := by decide +kernel
theorem dX1_keepChanged_5 : decode cX1_keepChanged 5 = .ok (.istore_n 3, 1) := by decide +kernel
theorem dX1_keepChanged_6 : decode cX1_keepChanged 6 = .ok (.iload_n 3, 1) := by decide +kernel
theorem dX1_keepChanged_7 : decode cX1_keepChanged 7 = .ok (.aload_n 0, 1) := by decide +kernel
theorem dX1_keepChanged_8 : decode cX1_keepChanged 8 = .ok (.getfield 21, 3) := by decide +kernel
theorem dX1_keepChanged_11 : decode cX1_keepChanged 11 = .ok (.if_icmp .ge 38, 3) := by decide +kernel
theorem dX1_keepChanged_14 : decode cX1_keepChanged 14 = .ok (.iload_n 3, 1) := by decide +kernel
theorem dX1_keepChanged_15 : decode cX1_keepChanged 15 = .ok (.aload_n 0, 1) := by decide +kernel
theorem dX1_keepChanged_16 : decode cX1_keepChanged 16 = .ok (.getfield 15, 3) := by decide +kernel
theorem dX1_keepChanged_19 : decode cX1_keepChanged 19 = .ok (.arraylength, 1) := by decide +kernel
theorem dX1_keepChanged_20 : decode cX1_keepChanged 20 = .ok (.if_icmp .ge 29, 3) := by decide +kernel
theorem dX1_keepChanged_23 : decode cX1_keepChanged 23 = .ok (.aload_n 1, 1) := by decide +kernel
theorem dX1_keepChanged_24 : decode cX1_keepChanged 24 = .ok (.aload_n 0, 1) := by decide +kernel
theorem dX1_keepChanged_25 : decode cX1_keepChanged 25 = .ok (.getfield 15, 3) := by decide +kernel
theorem dX1_keepChanged_28 : decode cX1_keepChanged 28 = .ok (.iload_n 3, 1) := by decide +kernel
theorem dX1_keepChanged_29 : decode cX1_keepChanged 29 = .ok (.iaload, 1) := by decide +kernel
theorem dX1_keepChanged_30 : decode cX1_keepChanged 30 = .ok (.aload_n 0, 1) := by decide +kernel
theorem dX1_keepChanged_31 : decode cX1_keepChanged 31 = .ok (.aload_n 0, 1) := by decide +kernel
theorem dX1_keepChanged_32 : decode cX1_keepChanged 32 = .ok (.getfield 15, 3) := by decide +kernel
theorem dX1_keepChanged_35 : decode cX1_keepChanged 35 = .ok (.iload_n 3, 1) := by decide +kernel
theorem dX1_keepChanged_36 : decode cX1_keepChanged 36 = .ok (.iaload, 1) := by decide +kernel
theorem dX1_keepChanged_37 : decode cX1_keepChanged 37 = .ok (.invokevirtual 37, 3) := by decide +kernel
theorem dX1_keepChanged_40 : decode cX1_keepChanged 40 = .ok (.invokevirtual 25, 3) := by decide +kernel
theorem dX1_keepChanged_43 : decode cX1_keepChanged 43 = .ok (.iinc 3 1, 3) := by decide +kernel
theorem dX1_keepChanged_46 : decode cX1_keepChanged 46 = .ok (.goto (-40), 3) := by decide +kernel
theorem dX1_keepChanged_49 : decode cX1_keepChanged 49 = .ok (.return_, 1) := by decide +kernel
theorem dX1_contentAfter_0 : decode cX1_contentAfter 0 = .ok (.iconst 0, 1) := by decide +kernel
theorem dX1_contentAfter_1 : decode cX1_contentAfter 1 = .ok (.istore_n 3, 1) := by decide +kernel
theorem dX1_contentAfter_2 : decode cX1_contentAfter 2 = .ok (.iconst 0, 1) := by decide +kernel
theorem dX1_contentAfter_3 : decode cX1_contentAfter 3 = .ok (.istore 4, 2) := by decide +kernel
theorem dX1_contentAfter_5 : decode cX1_contentAfter 5 = .ok (.iload 4, 2) := by decide +kernel
theorem dX1_contentAfter_7 : decode cX1_contentAfter 7 = .ok (.iload_n 1, 1) := by decide +kernel
theorem dX1_contentAfter_8 : decode cX1_contentAfter 8 = .ok (.if_icmp .ge 48, 3) := by decide +kernel
theorem dX1_contentAfter_11 : decode cX1_contentAfter 11 = .ok (.iload 4, 2) := by decide +kernel
theorem dX1_contentAfter_13 : decode cX1_contentAfter 13 = .ok (.aload_n 0, 1) := by decide +kernel
theorem dX1_contentAfter_14 : decode cX1_contentAfter 14 = .ok (.getfield 15, 3) := by decide +kernel
theorem dX1_contentAfter_17 : decode cX1_contentAfter 17 = .ok (.arraylength, 1) := by decide +kernel
theorem dX1_contentAfter_18 : decode cX1_contentAfter 18 = .ok (.if_icmp .ge 38, 3) := by decide +kernel
theorem dX1_contentAfter_21 : decode cX1_contentAfter 21 = .ok (.iload 4, 2) := by decide +kernel
theorem dX1_contentAfter_23 : decode cX1_contentAfter 23 = .ok (.aload_n 0, 1) := by decide +kernel
theorem dX1_contentAfter_24 : decode cX1_contentAfter 24 = .ok (.getfield 18, 3) := by decide +kernel
theorem dX1_contentAfter_27 : decode cX1_contentAfter 27 = .ok (.arraylength, 1) := by decide +kernel
theorem dX1_contentAfter_28 : decode cX1_contentAfter 28 = .ok (.if_icmp .ge 28, 3) := by decide +kernel
theorem dX1_contentAfter_31 : decode cX1_contentAfter 31 = .ok (.aload_n 0, 1) := by decide +kernel
theorem dX1_contentAfter_32 : decode cX1_contentAfter 32 = .ok (.getfield 15, 3) := by decide +kernel
theorem dX1_contentAfter_35 : decode cX1_contentAfter 35 = .ok (.iload 4, 2) := by decide +kernel
theorem dX1_contentAfter_37 : decode cX1_contentAfter 37 = .ok (.iaload, 1) := by decide +kernel
theorem dX1_contentAfter_38 : decode cX1_contentAfter 38 = .ok (.iload_n 2, 1) := by decide +kernel
theorem dX1_contentAfter_39 : decode cX1_contentAfter 39 = .ok (.if_icmp .ne 11, 3) := by decide +kernel
theorem dX1_contentAfter_42 : decode cX1_contentAfter 42 = .ok (.aload_n 0, 1) := by decide +kernel
theorem dX1_contentAfter_43 : decode cX1_contentAfter 43 = .ok (.getfield 18, 3) := by decide +kernel
theorem dX1_contentAfter_46 : decode cX1_contentAfter 46 = .ok (.iload 4, 2) := by decide +kernel
theorem dX1_contentAfter_48 : decode cX1_contentAfter 48 = .ok (.iaload, 1) := by decide +kernel
theorem dX1_contentAfter_49 : decode cX1_contentAfter 49 = .ok (.istore_n 3, 1) := by decide +kernel
theorem dX1_contentAfter_50 : decode cX1_contentAfter 50 = .ok (.iinc 4 1, 3) := by decide +kernel
theorem dX1_contentAfter_53 : decode cX1_contentAfter 53 = .ok (.goto (-48), 3) := by decide +kernel
theorem dX1_contentAfter_56 : decode cX1_contentAfter 56 = .ok (.iload_n 3, 1) := by decide +kernel
theorem dX1_contentAfter_57 : decode cX1_contentAfter 57 = .ok (.ireturn, 1) := by decide +kernel
theorem dX2_init_0 : decode cX2_init 0 = .ok (.aload_n 0, 1) := by decide +kernel
theorem dX2_init_1 : decode cX2_init 1 = .ok (.invokespecial 3, 3) := by decide +kernel
theorem dX2_init_4 : decode cX2_init 4 = .ok (.aload_n 0, 1) := by decide +kernel
theorem dX2_init_5 : decode cX2_init 5 = .ok (.sipush 365, 3) := by decide +kernel
theorem dX2_init_8 : decode cX2_init 8 = .ok (.newarray .int, 2) := by decide +kernel
theorem dX2_init_10 : decode cX2_init 10 = .ok (.putfield 9, 3) := by decide +kernel
theorem dX2_init_13 : decode cX2_init 13 = .ok (.iconst 0, 1) := by decide +kernel
theorem dX2_init_14 : decode cX2_init 14 = .ok (.istore_n 1, 1) := by decide +kernel
theorem dX2_init_15 : decode cX2_init 15 = .ok (.iload_n 1, 1) := by decide +kernel
theorem dX2_init_16 : decode cX2_init 16 = .ok (.aload_n 0, 1) := by decide +kernel
theorem dX2_init_17 : decode cX2_init 17 = .ok (.getfield 9, 3) := by decide +kernel
theorem dX2_init_20 : decode cX2_init 20 = .ok (.arraylength, 1) := by decide +kernel
theorem dX2_init_21 : decode cX2_init 21 = .ok (.if_icmp .ge 18, 3) := by decide +kernel
theorem dX2_init_24 : decode cX2_init 24 = .ok (.aload_n 0, 1) := by decide +kernel
theorem dX2_init_25 : decode cX2_init 25 = .ok (.getfield 9, 3) := by decide +kernel
theorem dX2_init_28 : decode cX2_init 28 = .ok (.iload_n 1, 1) := by decide +kernel
theorem dX2_init_29 : decode cX2_init 29 = .ok (.iload_n 1, 1) := by decide +kernel
theorem dX2_init_30 : decode cX2_init 30 = .ok (.iconst 5, 1) := by decide +kernel
theorem dX2_init_31 : decode cX2_init 31 = .ok (.irem, 1) := by decide +kernel
theorem dX2_init_32 : decode cX2_init 32 = .ok (.iastore, 1) := by decide +kernel
theorem dX2_init_33 : decode cX2_init 33 = .ok (.iinc 1 1, 3) := by decide +kernel
theorem dX2_init_36 : decode cX2_init 36 = .ok (.goto (-21), 3) := by decide +kernel
theorem dX2_init_39 : decode cX2_init 39 = .ok (.return_, 1) := by decide +kernel
theorem dX2_personOn_0 : decode cX2_personOn 0 = .ok (.iload_n 1, 1) := by decide +kernel
theorem dX2_personOn_1 : decode cX2_personOn 1 = .ok (.ifCond .lt 21, 3) := by decide +kernel
theorem dX2_personOn_4 : decode cX2_personOn 4 = .ok (.iload_n 1, 1) := by decide +kernel
theorem dX2_personOn_5 : decode cX2_personOn 5 = .ok (.aload_n 0, 1) := by decide +kernel
theorem dX2_personOn_6 : decode cX2_personOn 6 = .ok (.getfield 9, 3) := by decide +kernel
theorem dX2_personOn_9 : decode cX2_personOn 9 = .ok (.arraylength, 1) := by decide +kernel
theorem dX2_personOn_10 : decode cX2_personOn 10 = .ok (.if_icmp .ge 12, 3) := by decide +kernel
theorem dX2_personOn_13 : decode cX2_personOn 13 = .ok (.aload_n 0, 1) := by decide +kernel
theorem dX2_personOn_14 : decode cX2_personOn 14 = .ok (.getfield 9, 3) := by decide +kernel
theorem dX2_personOn_17 : decode cX2_personOn 17 = .ok (.iload_n 1, 1) := by decide +kernel
theorem dX2_personOn_18 : decode cX2_personOn 18 = .ok (.iaload, 1) := by decide +kernel
theorem dX2_personOn_19 : decode cX2_personOn 19 = .ok (.goto 4, 3) := by decide +kernel
theorem dX2_personOn_22 : decode cX2_personOn 22 = .ok (.iconst (-1), 1) := by decide +kernel
theorem dX2_personOn_23 : decode cX2_personOn 23 = .ok (.ireturn, 1) := by decide +kernel
set_option maxRecDepth 20000 in
theorem ggX2_exchangeIfRested_X2_exchange : GoodIn wsX2_exchangeIfRested wsX2_exchange := goodIn_r _ [5, 6, 15] (by decide +kernel) (by decide +kernel)
set_option maxRecDepth 20000 in
theorem gX2_exchangeIfRested_X2_exchange : GoodIn wsX2_exchangeIfRested (wsV RX2 15 RX2 yX2_exchange wsX2_exchange) := goodIn_app (goodIn_of _ (by decide +kernel)) ggX2_exchangeIfRested_X2_exchange
set_option maxRecDepth 20000 in
theorem ggX2_exchangeIfRested_X2_isRestedAround : GoodIn wsX2_exchangeIfRested wsX2_isRestedAround := goodIn_r _ [10, 11, 12, 13, 4, 14, 6, 15] (by decide +kernel) (by decide +kernel)
set_option maxRecDepth 20000 in
theorem gX2_exchangeIfRested_X2_isRestedAround : GoodIn wsX2_exchangeIfRested (wsV RX2 19 RX2 yX2_isRestedAround wsX2_isRestedAround) := goodIn_app (goodIn_of _ (by decide +kernel)) ggX2_exchangeIfRested_X2_isRestedAround
theorem dX2_exchangeIfRested_0 : decode cX2_exchangeIfRested 0 = .ok (.aload_n 0, 1) := by decide +kernel
theorem dX2_exchangeIfRested_1 : decode cX2_exchangeIfRested 1 = .ok (.iload_n 1, 1) := by decide +kernel
theorem dX2_exchangeIfRested_2 : decode cX2_exchangeIfRested 2 = .ok (.iload_n 2, 1) := by decide +kernel
theorem dX2_exchangeIfRested_3 : decode cX2_exchangeIfRested 3 = .ok (.invokevirtual 15, 3) := by decide +kernel
theorem dX2_exchangeIfRested_6 : decode cX2_exchangeIfRested 6 = .ok (.aload_n 0, 1) := by decide +kernel
theorem dX2_exchangeIfRested_7 : decode cX2_exchangeIfRested 7 = .ok (.iload_n 1, 1) := by decide +kernel
theorem dX2_exchangeIfRested_8 : decode cX2_exchangeIfRested 8 = .ok (.invokevirtual 19, 3) := by decide +kernel
theorem dX2_exchangeIfRested_11 : decode cX2_exchangeIfRested 11 = .ok (.ifCond .eq 13, 3) := by decide +kernel
theorem dX2_exchangeIfRested_14 : decode cX2_exchangeIfRested 14 = .ok (.aload_n 0, 1) := by decide +kernel
theorem dX2_exchangeIfRested_15 : decode cX2_exchangeIfRested 15 = .ok (.iload_n 2, 1) := by decide +kernel
theorem dX2_exchangeIfRested_16 : decode cX2_exchangeIfRested 16 = .ok (.invokevirtual 19, 3) := by decide +kernel
theorem dX2_exchangeIfRested_19 : decode cX2_exchangeIfRested 19 = .ok (.ifCond .eq 5, 3) := by decide +kernel
theorem dX2_exchangeIfRested_22 : decode cX2_exchangeIfRested 22 = .ok (.iconst 1, 1) := by decide +kernel
theorem dX2_exchangeIfRested_23 : decode cX2_exchangeIfRested 23 = .ok (.ireturn, 1) := by decide +kernel
theorem dX2_exchangeIfRested_24 : decode cX2_exchangeIfRested 24 = .ok (.aload_n 0, 1) := by decide +kernel
theorem dX2_exchangeIfRested_25 : decode cX2_exchangeIfRested 25 = .ok (.iload_n 1, 1) := by decide +kernel
theorem dX2_exchangeIfRested_26 : decode cX2_exchangeIfRested 26 = .ok (.iload_n 2, 1) := by decide +kernel
theorem dX2_exchangeIfRested_27 : decode cX2_exchangeIfRested 27 = .ok (.invokevirtual 15, 3) := by decide +kernel
theorem dX2_exchangeIfRested_30 : decode cX2_exchangeIfRested 30 = .ok (.iconst 0, 1) := by decide +kernel
theorem dX2_exchangeIfRested_31 : decode cX2_exchangeIfRested 31 = .ok (.ireturn, 1) := by decide +kernel
theorem dX2_exchange_0 : decode cX2_exchange 0 = .ok (.iload_n 1, 1) := by decide +kernel
theorem dX2_exchange_1 : decode cX2_exchange 1 = .ok (.ifCond .lt 25, 3) := by decide +kernel
theorem dX2_exchange_4 : decode cX2_exchange 4 = .ok (.iload_n 1, 1) := by decide +kernel
theorem dX2_exchange_5 : decode cX2_exchange 5 = .ok (.aload_n 0, 1) := by decide +kernel
theorem dX2_exchange_6 : decode cX2_exchange 6 = .ok (.getfield 9, 3) := by decide +kernel
theorem dX2_exchange_9 : decode cX2_exchange 9 = .ok (.arraylength, 1) := by decide +kernel
theorem dX2_exchange_10 : decode cX2_exchange 10 = .ok (.if_icmp .ge 16, 3) := by decide +kernel
theorem dX2_exchange_13 : decode cX2_exchange 13 = .ok (.iload_n 2, 1) := by decide +kernel
theorem dX2_exchange_14 : decode cX2_exchange 14 = .ok (.ifCond .lt 12, 3) := by decide +kernel
theorem dX2_exchange_17 : decode cX2_exchange 17 = .ok (.iload_n 2, 1) := by decide +kernel
theorem dX2_exchange_18 : decode cX2_exchange 18 = .ok (.aload_n 0, 1) := by decide +kernel
theorem dX2_exchange_19 : decode cX2_exchange 19 = .ok (.getfield 9, 3) := by decide +kernel
theorem dX2_exchange_22 : decode cX2_exchange 22 = .ok (.arraylength, 1) := by decide +kernel
theorem dX2_exchange_23 : decode cX2_exchange 23 = .ok (.if_icmp .lt 4, 3) := by decide +kernel
theorem dX2_exchange_26 : decode cX2_exchange 26 = .ok (.return_, 1) := by decide +kernel
theorem dX2_exchange_27 : decode cX2_exchange 27 = .ok (.aload_n 0, 1) := by decide +kernel
theorem dX2_exchange_28 : decode cX2_exchange 28 = .ok (.getfield 9, 3) := by decide +kernel
theorem dX2_exchange_31 : decode cX2_exchange 31 = .ok (.iload_n 1, 1) := by decide +kernel
theorem dX2_exchange_32 : decode cX2_exchange 32 = .ok (.iaload, 1) := by decide +kernel
theorem dX2_exchange_33 : decode cX2_exchange 33 = .ok (.istore_n 3, 1) := by decide +kernel
theorem dX2_exchange_34 : decode cX2_exchange 34 = .ok (.aload_n 0, 1) := by decide +kernel
theorem dX2_exchange_35 : decode cX2_exchange 35 = .ok (.getfield 9, 3) := by decide +kernel
theorem dX2_exchange_38 : decode cX2_exchange 38 = .ok (.iload_n 1, 1) := by decide +kernel
theorem dX2_exchange_39 : decode cX2_exchange 39 = .ok (.aload_n 0, 1) := by decide +kernel
theorem dX2_exchange_40 : decode cX2_exchange 40 = .ok (.getfield 9, 3) := by decide +kernel
theorem dX2_exchange_43 : decode cX2_exchange 43 = .ok (.iload_n 2, 1) := by decide +kernel
theorem dX2_exchange_44 : decode cX2_exchange 44 = .ok (.iaload, 1) := by decide +kernel
theorem dX2_exchange_45 : decode cX2_exchange 45 = .ok (.iastore, 1) := by decide +kernel
theorem dX2_exchange_46 : decode cX2_exchange 46 = .ok (.aload_n 0, 1) := by decide +kernel
theorem dX2_exchange_47 : decode cX2_exchange 47 = .ok (.getfield 9, 3) := by decide +kernel
theorem dX2_exchange_50 : decode cX2_exchange 50 = .ok (.iload_n 2, 1) := by decide +kernel
theorem dX2_exchange_51 : decode cX2_exchange 51 = .ok (.iload_n 3, 1) := by decide +kernel
theorem dX2_exchange_52 : decode cX2_exchange 52 = .ok (.iastore, 1) := by decide +kernel
theorem dX2_exchange_53 : decode cX2_exchange 53 = .ok (.return_, 1) := by decide +kernel
set_option maxRecDepth 20000 in
theorem ggX2_isRestedAround_X2_personOn : GoodIn wsX2_isRestedAround wsX2_personOn := goodIn_r _ [5, 6, 7] (by decide +kernel) (by decide +kernel)
set_option maxRecDepth 20000 in
theorem gX2_isRestedAround_X2_personOn : GoodIn wsX2_isRestedAround (wsV RX2 23 RX2 yX2_personOn wsX2_personOn) := goodIn_app (goodIn_of _ (by decide +kernel)) ggX2_isRestedAround_X2_personOn
theorem dX2_isRestedAround_0 : decode cX2_isRestedAround 0 = .ok (.aload_n 0, 1) := by decide +kernel
theorem dX2_isRestedAround_1 : decode cX2_isRestedAround 1 = .ok (.iload_n 1, 1) := by decide +kernel
theorem dX2_isRestedAround_2 : decode cX2_isRestedAround 2 = .ok (.invokevirtual 23, 3) := by decide +kernel
theorem dX2_isRestedAround_5 : decode cX2_isRestedAround 5 = .ok (.istore_n 2, 1) := by decide +kernel
theorem dX2_isRestedAround_6 : decode cX2_isRestedAround 6 = .ok (.iload_n 2, 1) := by decide +kernel
theorem dX2_isRestedAround_7 : decode cX2_isRestedAround 7 = .ok (.aload_n 0, 1) := by decide +kernel
theorem dX2_isRestedAround_8 : decode cX2_isRestedAround 8 = .ok (.iload_n 1, 1) := by decide +kernel
theorem dX2_isRestedAround_9 : decode cX2_isRestedAround 9 = .ok (.iconst 1, 1) := by decide +kernel
theorem dX2_isRestedAround_10 : decode cX2_isRestedAround 10 = .ok (.isub, 1) := by decide +kernel
theorem dX2_isRestedAround_11 : decode cX2_isRestedAround 11 = .ok (.invokevirtual 23, 3) := by decide +kernel
theorem dX2_isRestedAround_14 : decode cX2_isRestedAround 14 = .ok (.if_icmp .eq 18, 3) := by decide +kernel
theorem dX2_isRestedAround_17 : decode cX2_isRestedAround 17 = .ok (.iload_n 2, 1) := by decide +kernel
theorem dX2_isRestedAround_18 : decode cX2_isRestedAround 18 = .ok (.aload_n 0, 1) := by decide +kernel
theorem dX2_isRestedAround_19 : decode cX2_isRestedAround 19 = .ok (.iload_n 1, 1) := by decide +kernel
theorem dX2_isRestedAround_20 : decode cX2_isRestedAround 20 = .ok (.iconst 1, 1) := by decide +kernel
theorem dX2_isRestedAround_21 : decode cX2_isRestedAround 21 = .ok (.iadd, 1) := by decide +kernel
theorem dX2_isRestedAround_22 : decode cX2_isRestedAround 22 = .ok (.invokevirtual 23, 3) := by decide +kernel
theorem dX2_isRestedAround_25 : decode cX2_isRestedAround 25 = .ok (.if_icmp .eq 7, 3) := by decide +kernel
theorem dX2_isRestedAround_28 : decode cX2_isRestedAround 28 = .ok (.iconst 1, 1) := by decide +kernel
theorem dX2_isRestedAround_29 : decode cX2_isRestedAround 29 = .ok (.goto 4, 3) := by decide +kernel
theorem dX2_isRestedAround_32 : decode cX2_isRestedAround 32 = .ok (.iconst 0, 1) := by decide +kernel
theorem dX2_isRestedAround_33 : decode cX2_isRestedAround 33 = .ok (.ireturn, 1) := by decide +kernel
set_option maxRecDepth 20000 in
theorem ggX2_firstToAnswer_X2_personOn : GoodIn wsX2_firstToAnswer wsX2_personOn := goodIn_r _ [5, 6, 7] (by decide +kernel) (by decide +kernel)
set_option maxRecDepth 20000 in
theorem gX2_firstToAnswer_X2_personOn : GoodIn wsX2_firstToAnswer (wsV RX2 23 RX2 yX2_personOn wsX2_personOn) := goodIn_app (goodIn_of _ (by decide +kernel)) ggX2_firstToAnswer_X2_personOn
theorem dX2_firstToAnswer_0 : decode cX2_firstToAnswer 0 = .ok (.iconst 0, 1) := by decide +kernel
theorem dX2_firstToAnswer_1 : decode cX2_firstToAnswer 1 = .ok (.istore_n 3, 1) := by decide +kernel
theorem dX2_firstToAnswer_2 : decode cX2_firstToAnswer 2 = .ok (.iload_n 3, 1) := by decide +kernel
theorem dX2_firstToAnswer_3 : decode cX2_firstToAnswer 3 = .ok (.iconst 3, 1) := by decide +kernel
theorem dX2_firstToAnswer_4 : decode cX2_firstToAnswer 4 = .ok (.if_icmp .gt 41, 3) := by decide +kernel
theorem dX2_firstToAnswer_7 : decode cX2_firstToAnswer 7 = .ok (.aload_n 0, 1) := by decide +kernel
theorem dX2_firstToAnswer_8 : decode cX2_firstToAnswer 8 = .ok (.iload_n 1, 1) := by decide +kernel
theorem dX2_firstToAnswer_9 : decode cX2_firstToAnswer 9 = .ok (.iload_n 3, 1) := by decide +kernel
theorem dX2_firstToAnswer_10 : decode cX2_firstToAnswer 10 = .ok (.iadd, 1) := by decide +kernel
theorem dX2_firstToAnswer_11 : decode cX2_firstToAnswer 11 = .ok (.invokevirtual 23, 3) := by decide +kernel
theorem dX2_firstToAnswer_14 : decode cX2_firstToAnswer 14 = .ok (.istore 4, 2) := by decide +kernel
theorem dX2_firstToAnswer_16 : decode cX2_firstToAnswer 16 = .ok (.iload 4, 2) := by decide +kernel
theorem dX2_firstToAnswer_18 : decode cX2_firstToAnswer 18 = .ok (.ifCond .lt 21, 3) := by decide +kernel
theorem dX2_firstToAnswer_21 : decode cX2_firstToAnswer 21 = .ok (.iload 4, 2) := by decide +kernel
theorem dX2_firstToAnswer_23 : decode cX2_firstToAnswer 23 = .ok (.iconst 5, 1) := by decide +kernel
theorem dX2_firstToAnswer_24 : decode cX2_firstToAnswer 24 = .ok (.if_icmp .ge 15, 3) := by decide +kernel
theorem dX2_firstToAnswer_27 : decode cX2_firstToAnswer 27 = .ok (.iload_n 2, 1) := by decide +kernel
theorem dX2_firstToAnswer_28 : decode cX2_firstToAnswer 28 = .ok (.iconst 1, 1) := by decide +kernel
theorem dX2_firstToAnswer_29 : decode cX2_firstToAnswer 29 = .ok (.iload 4, 2) := by decide +kernel
theorem dX2_firstToAnswer_31 : decode cX2_firstToAnswer 31 = .ok (.ishl, 1) := by decide +kernel
theorem dX2_firstToAnswer_32 : decode cX2_firstToAnswer 32 = .ok (.iand, 1) := by decide +kernel
theorem dX2_firstToAnswer_33 : decode cX2_firstToAnswer 33 = .ok (.ifCond .eq 6, 3) := by decide +kernel
theorem dX2_firstToAnswer_36 : decode cX2_firstToAnswer 36 = .ok (.iload 4, 2) := by decide +kernel
theorem dX2_firstToAnswer_38 : decode cX2_firstToAnswer 38 = .ok (.ireturn, 1) := by decide +kernel
theorem dX2_firstToAnswer_39 : decode cX2_firstToAnswer 39 = .ok (.iinc 3 1, 3) := by decide +kernel
theorem dX2_firstToAnswer_42 : decode cX2_firstToAnswer 42 = .ok (.goto (-40), 3) := by decide +kernel
theorem dX2_firstToAnswer_45 : decode cX2_firstToAnswer 45 = .ok (.iconst (-1), 1) := by decide +kernel
theorem dX2_firstToAnswer_46 : decode cX2_firstToAnswer 46 = .ok (.ireturn, 1) := by decide +kernel
theorem dX3_init_0 : decode cX3_init 0 = .ok (.aload_n 0, 1) := by decide +kernel
theorem dX3_init_1 : decode cX3_init 1 = .ok (.invokespecial 3, 3) := by decide +kernel
theorem dX3_init_4 : decode cX3_init 4 = .ok (.aload_n 0, 1) := by decide +kernel
theorem dX3_init_5 : decode cX3_init 5 = .ok (.bipush 60, 2) := by decide +kernel
theorem dX3_init_7 : decode cX3_init 7 = .ok (.anewarray 9, 3) := by decide +kernel
theorem dX3_init_10 : decode cX3_init 10 = .ok (.putfield 11, 3) := by decide +kernel
theorem dX3_init_13 : decode cX3_init 13 = .ok (.aload_n 0, 1) := by decide +kernel
theorem dX3_init_14 : decode cX3_init 14 = .ok (.iconst 3, 1) := by decide +kernel
theorem dX3_init_15 : decode cX3_init 15 = .ok (.putfield 17, 3) := by decide +kernel
theorem dX3_init_18 : decode cX3_init 18 = .ok (.aload_n 0, 1) := by decide +kernel
theorem dX3_init_19 : decode cX3_init 19 = .ok (.iconst 2, 1) := by decide +kernel
theorem dX3_init_20 : decode cX3_init 20 = .ok (.putfield 21, 3) := by decide +kernel
theorem dX3_init_23 : decode cX3_init 23 = .ok (.aload_n 0, 1) := by decide +kernel
theorem dX3_init_24 : decode cX3_init 24 = .ok (.iconst 1, 1) := by decide +kernel
theorem dX3_init_25 : decode cX3_init 25 = .ok (.putfield 24, 3) := by decide +kernel
theorem dX3_init_28 : decode cX3_init 28 = .ok (.return_, 1) := by decide +kernel
theorem dX3_find_0 : decode cX3_find 0 = .ok (.iload_n 1, 1) := by decide +kernel
theorem dX3_find_1 : decode cX3_find 1 = .ok (.ifCond .lt 21, 3) := by decide +kernel
theorem dX3_find_4 : decode cX3_find 4 = .ok (.iload_n 1, 1) := by decide +kernel
theorem dX3_find_5 : decode cX3_find 5 = .ok (.aload_n 0, 1) := by decide +kernel
theorem dX3_find_6 : decode cX3_find 6 = .ok (.getfield 11, 3) := by decide +kernel
theorem dX3_find_9 : decode cX3_find 9 = .ok (.arraylength, 1) := by decide +kernel
theorem dX3_find_10 : decode cX3_find 10 = .ok (.if_icmp .ge 12, 3) := by decide +kernel
theorem dX3_find_13 : decode cX3_find 13 = .ok (.aload_n 0, 1) := by decide +kernel
theorem dX3_find_14 : decode cX3_find 14 = .ok (.getfield 11, 3) := by decide +kernel
theorem dX3_find_17 : decode cX3_find 17 = .ok (.iload_n 1, 1) := by decide +kernel
theorem dX3_find_18 : decode cX3_find 18 = .ok (.aaload, 1) := by decide +kernel
theorem dX3_find_19 : decode cX3_find 19 = .ok (.goto 4, 3) := by decide +kernel
theorem dX3_find_22 : decode cX3_find 22 = .ok (.aconst_null, 1) := by decide +kernel
theorem dX3_find_23 : decode cX3_find 23 = .ok (.areturn, 1) := by decide +kernel
theorem dX3_latest_0 : decode cX3_latest 0 = .ok (.aload_n 0, 1) := by decide +kernel
theorem dX3_latest_1 : decode cX3_latest 1 = .ok (.getfield 11, 3) := by decide +kernel
theorem dX3_latest_4 : decode cX3_latest 4 = .ok (.arraylength, 1) := by decide +kernel
theorem dX3_latest_5 : decode cX3_latest 5 = .ok (.iconst 1, 1) := by decide +kernel
theorem dX3_latest_6 : decode cX3_latest 6 = .ok (.isub, 1) := by decide +kernel
theorem dX3_latest_7 : decode cX3_latest 7 = .ok (.istore_n 1, 1) := by decide +kernel
theorem dX3_latest_8 : decode cX3_latest 8 = .ok (.iload_n 1, 1) := by decide +kernel
theorem dX3_latest_9 : decode cX3_latest 9 = .ok (.ifCond .lt 25, 3) := by decide +kernel
theorem dX3_latest_12 : decode cX3_latest 12 = .ok (.aload_n 0, 1) := by decide +kernel
theorem dX3_latest_13 : decode cX3_latest 13 = .ok (.getfield 11, 3) := by decide +kernel
theorem dX3_latest_16 : decode cX3_latest 16 = .ok (.iload_n 1, 1) := by decide +kernel
theorem dX3_latest_17 : decode cX3_latest 17 = .ok (.aaload, 1) := by decide +kernel
theorem dX3_latest_18 : decode cX3_latest 18 = .ok (.ifnull 10, 3) := by decide +kernel
theorem dX3_latest_21 : decode cX3_latest 21 = .ok (.aload_n 0, 1) := by decide +kernel
theorem dX3_latest_22 : decode cX3_latest 22 = .ok (.getfield 11, 3) := by decide +kernel
theorem dX3_latest_25 : decode cX3_latest 25 = .ok (.iload_n 1, 1) := by decide +kernel
theorem dX3_latest_26 : decode cX3_latest 26 = .ok (.aaload, 1) := by decide +kernel
theorem dX3_latest_27 : decode cX3_latest 27 = .ok (.areturn, 1) := by decide +kernel
theorem dX3_latest_28 : decode cX3_latest 28 = .ok (.iinc 1 (-1), 3) := by decide +kernel
theorem dX3_latest_31 : decode cX3_latest 31 = .ok (.goto (-23), 3) := by decide +kernel
theorem dX3_latest_34 : decode cX3_latest 34 = .ok (.aconst_null, 1) := by decide +kernel
theorem dX3_latest_35 : decode cX3_latest 35 = .ok (.areturn, 1) := by decide +kernel
theorem dX3_put_0 : decode cX3_put 0 = .ok (.aload_n 0, 1) := by decide +kernel
theorem dX3_put_1 : decode cX3_put 1 = .ok (.getfield 27, 3) := by decide +kernel
theorem dX3_put_4 : decode cX3_put 4 = .ok (.ifCond .lt 35, 3) := by decide +kernel
theorem dX3_put_7 : decode cX3_put 7 = .ok (.aload_n 0, 1) := by decide +kernel
theorem dX3_put_8 : decode cX3_put 8 = .ok (.getfield 27, 3) := by decide +kernel
theorem dX3_put_11 : decode cX3_put 11 = .ok (.aload_n 0, 1) := by decide +kernel
theorem dX3_put_12 : decode cX3_put 12 = .ok (.getfield 11, 3) := by decide +kernel
theorem dX3_put_15 : decode cX3_put 15 = .ok (.arraylength, 1) := by decide +kernel
theorem dX3_put_16 : decode cX3_put 16 = .ok (.if_icmp .ge 23, 3) := by decide +kernel
theorem dX3_put_19 : decode cX3_put 19 = .ok (.aload_n 0, 1) := by decide +kernel
theorem dX3_put_20 : decode cX3_put 20 = .ok (.getfield 11, 3) := by decide +kernel
theorem dX3_put_23 : decode cX3_put 23 = .ok (.aload_n 0, 1) := by decide +kernel
theorem dX3_put_24 : decode cX3_put 24 = .ok (.getfield 27, 3) := by decide +kernel
theorem dX3_put_27 : decode cX3_put 27 = .ok (.aload_n 1, 1) := by decide +kernel
theorem dX3_put_28 : decode cX3_put 28 = .ok (.aastore, 1) := by decide +kernel
theorem dX3_put_29 : decode cX3_put 29 = .ok (.aload_n 0, 1) := by decide +kernel
theorem dX3_put_30 : decode cX3_put 30 = .ok (.dup, 1) := by decide +kernel
theorem dX3_put_31 : decode cX3_put 31 = .ok (.getfield 27, 3) := by decide +kernel
theorem dX3_put_34 : decode cX3_put 34 = .ok (.iconst 1, 1) := by decide +kernel
theorem dX3_put_35 : decode cX3_put 35 = .ok (.iadd, 1) := by decide +kernel
theorem dX3_put_36 : decode cX3_put 36 = .ok (.putfield 27, 3) := by decide +kernel
theorem dX3_put_39 : decode cX3_put 39 = .ok (.return_, 1) := by decide +kernel
theorem dX3_countThere_0 : decode cX3_countThere 0 = .ok (.iconst 0, 1) := by decide +kernel
theorem dX3_countThere_1 : decode cX3_countThere 1 = .ok (.istore_n 1, 1) := by decide +kernel
theorem dX3_countThere_2 : decode cX3_countThere 2 = .ok (.aload_n 0, 1) := by decide +kernel
theorem dX3_countThere_3 : decode cX3_countThere 3 = .ok (.getfield 11, 3) := by decide +kernel
theorem dX3_countThere_6 : decode cX3_countThere 6 = .ok (.astore_n 2, 1) := by decide +kernel
theorem dX3_countThere_7 : decode cX3_countThere 7 = .ok (.aload_n 2, 1) := by decide +kernel
theorem dX3_countThere_8 : decode cX3_countThere 8 = .ok (.arraylength, 1) := by decide +kernel
theorem dX3_countThere_9 : decode cX3_countThere 9 = .ok (.istore_n 3, 1) := by decide +kernel
theorem dX3_countThere_10 : decode cX3_countThere 10 = .ok (.iconst 0, 1) := by decide +kernel
theorem dX3_countThere_11 : decode cX3_countThere 11 = .ok (.istore 4, 2) := by decide +kernel
theorem dX3_countThere_13 : decode cX3_countThere 13 = .ok (.iload 4, 2) := by decide +kernel
theorem dX3_countThere_15 : decode cX3_countThere 15 = .ok (.iload_n 3, 1) := by decide +kernel
theorem dX3_countThere_16 : decode cX3_countThere 16 = .ok (.if_icmp .ge 23, 3) := by decide +kernel
theorem dX3_countThere_19 : decode cX3_countThere 19 = .ok (.aload_n 2, 1) := by decide +kernel
theorem dX3_countThere_20 : decode cX3_countThere 20 = .ok (.iload 4, 2) := by decide +kernel
theorem dX3_countThere_22 : decode cX3_countThere 22 = .ok (.aaload, 1) := by decide +kernel
theorem dX3_countThere_23 : decode cX3_countThere 23 = .ok (.astore 5, 2) := by decide +kernel
theorem dX3_countThere_25 : decode cX3_countThere 25 = .ok (.aload 5, 2) := by decide +kernel
theorem dX3_countThere_27 : decode cX3_countThere 27 = .ok (.ifnull 6, 3) := by decide +kernel
theorem dX3_countThere_30 : decode cX3_countThere 30 = .ok (.iinc 1 1, 3) := by decide +kernel
theorem dX3_countThere_33 : decode cX3_countThere 33 = .ok (.iinc 4 1, 3) := by decide +kernel
theorem dX3_countThere_36 : decode cX3_countThere 36 = .ok (.goto (-23), 3) := by decide +kernel
theorem dX3_countThere_39 : decode cX3_countThere 39 = .ok (.iload_n 1, 1) := by decide +kernel
theorem dX3_countThere_40 : decode cX3_countThere 40 = .ok (.ireturn, 1) := by decide +kernel
set_option maxRecDepth 20000 in
theorem ggX3_spaceTaken_X0_spaceTaken : GoodIn wsX3_spaceTaken wsX0_spaceTaken := goodIn_r _ [6, 7, 13, 14, 15, 16, 17, 18, 19, 20, 21, 22, 23] (by decide +kernel) (by decide +kernel)
set_option maxRecDepth 20000 in
theorem gX3_spaceTaken_X0_spaceTaken : GoodIn wsX3_spaceTaken (wsV RX3 30 RX0 yX0_spaceTaken wsX0_spaceTaken) := goodIn_app (goodIn_of _ (by decide +kernel)) ggX3_spaceTaken_X0_spaceTaken
theorem dX3_spaceTaken_0 : decode cX3_spaceTaken 0 = .ok (.iconst 0, 1) := by decide +kernel
theorem dX3_spaceTaken_1 : decode cX3_spaceTaken 1 = .ok (.istore_n 1, 1) := by decide +kernel
theorem dX3_spaceTaken_2 : decode cX3_spaceTaken 2 = .ok (.aload_n 0, 1) := by decide +kernel
theorem dX3_spaceTaken_3 : decode cX3_spaceTaken 3 = .ok (.getfield 11, 3) := by decide +kernel
theorem dX3_spaceTaken_6 : decode cX3_spaceTaken 6 = .ok (.astore_n 2, 1) := by decide +kernel
theorem dX3_spaceTaken_7 : decode cX3_spaceTaken 7 = .ok (.aload_n 2, 1) := by decide +kernel
theorem dX3_spaceTaken_8 : decode cX3_spaceTaken 8 = .ok (.arraylength, 1) := by decide +kernel
theorem dX3_spaceTaken_9 : decode cX3_spaceTaken 9 = .ok (.istore_n 3, 1) := by decide +kernel
theorem dX3_spaceTaken_10 : decode cX3_spaceTaken 10 = .ok (.iconst 0, 1) := by decide +kernel
theorem dX3_spaceTaken_11 : decode cX3_spaceTaken 11 = .ok (.istore 4, 2) := by decide +kernel
theorem dX3_spaceTaken_13 : decode cX3_spaceTaken 13 = .ok (.iload 4, 2) := by decide +kernel
theorem dX3_spaceTaken_15 : decode cX3_spaceTaken 15 = .ok (.iload_n 3, 1) := by decide +kernel
theorem dX3_spaceTaken_16 : decode cX3_spaceTaken 16 = .ok (.if_icmp .ge 28, 3) := by decide +kernel
theorem dX3_spaceTaken_19 : decode cX3_spaceTaken 19 = .ok (.aload_n 2, 1) := by decide +kernel
theorem dX3_spaceTaken_20 : decode cX3_spaceTaken 20 = .ok (.iload 4, 2) := by decide +kernel
theorem dX3_spaceTaken_22 : decode cX3_spaceTaken 22 = .ok (.aaload, 1) := by decide +kernel
theorem dX3_spaceTaken_23 : decode cX3_spaceTaken 23 = .ok (.astore 5, 2) := by decide +kernel
theorem dX3_spaceTaken_25 : decode cX3_spaceTaken 25 = .ok (.aload 5, 2) := by decide +kernel
theorem dX3_spaceTaken_27 : decode cX3_spaceTaken 27 = .ok (.ifnull 11, 3) := by decide +kernel
theorem dX3_spaceTaken_30 : decode cX3_spaceTaken 30 = .ok (.iload_n 1, 1) := by decide +kernel
theorem dX3_spaceTaken_31 : decode cX3_spaceTaken 31 = .ok (.aload 5, 2) := by decide +kernel
theorem dX3_spaceTaken_33 : decode cX3_spaceTaken 33 = .ok (.invokevirtual 30, 3) := by decide +kernel
theorem dX3_spaceTaken_36 : decode cX3_spaceTaken 36 = .ok (.iadd, 1) := by decide +kernel
theorem dX3_spaceTaken_37 : decode cX3_spaceTaken 37 = .ok (.istore_n 1, 1) := by decide +kernel
theorem dX3_spaceTaken_38 : decode cX3_spaceTaken 38 = .ok (.iinc 4 1, 3) := by decide +kernel
theorem dX3_spaceTaken_41 : decode cX3_spaceTaken 41 = .ok (.goto (-28), 3) := by decide +kernel
theorem dX3_spaceTaken_44 : decode cX3_spaceTaken 44 = .ok (.iload_n 1, 1) := by decide +kernel
theorem dX3_spaceTaken_45 : decode cX3_spaceTaken 45 = .ok (.ireturn, 1) := by decide +kernel
set_option maxRecDepth 20000 in
theorem ggX3_markGenerations_X3_promiseLatest : GoodIn wsX3_markGenerations wsX3_promiseLatest := goodIn_r _ [9, 1, 10, 11, 12, 13, 14, 15, 22, 23, 24, 25, 26, 27, 28, 29, 30, 31, 32, 33, 34, 35, 36, 37] (by decide +kernel) (by decide +kernel)
set_option maxRecDepth 20000 in
theorem gX3_markGenerations_X3_promiseLatest : GoodIn wsX3_markGenerations (wsV RX3 41 RX3 yX3_promiseLatest wsX3_promiseLatest) := goodIn_app (goodIn_of _ (by decide +kernel)) ggX3_markGenerations_X3_promiseLatest
set_option maxRecDepth 20000 in
theorem ggX3_markGenerations_X0_markChainNeeded : GoodIn wsX3_markGenerations wsX0_markChainNeeded := goodIn_r _ [19, 20, 21, 27, 28, 29, 30, 31, 32, 33, 34, 35, 36, 37] (by decide +kernel) (by decide +kernel)
set_option maxRecDepth 20000 in
theorem gX3_markGenerations_X0_markChainNeeded : GoodIn wsX3_markGenerations (wsV RX3 45 RX0 yX0_markChainNeeded wsX0_markChainNeeded) := goodIn_app (goodIn_of _ (by decide +kernel)) ggX3_markGenerations_X0_markChainNeeded
theorem dX3_markGenerations_0 : decode cX3_markGenerations 0 = .ok (.aload_n 0, 1) := by decide +kernel
theorem dX3_markGenerations_1 : decode cX3_markGenerations 1 = .ok (.getfield 11, 3) := by decide +kernel
theorem dX3_markGenerations_4 : decode cX3_markGenerations 4 = .ok (.astore_n 1, 1) := by decide +kernel
theorem dX3_markGenerations_5 : decode cX3_markGenerations 5 = .ok (.aload_n 1, 1) := by decide +kernel
theorem dX3_markGenerations_6 : decode cX3_markGenerations 6 = .ok (.arraylength, 1) := by decide +kernel
theorem dX3_markGenerations_7 : decode cX3_markGenerations 7 = .ok (.istore_n 2, 1) := by decide +kernel
theorem dX3_markGenerations_8 : decode cX3_markGenerations 8 = .ok (.iconst 0, 1) := by decide +kernel
theorem dX3_markGenerations_9 : decode cX3_markGenerations 9 = .ok (.istore_n 3, 1) := by decide +kernel
theorem dX3_markGenerations_10 : decode cX3_markGenerations 10 = .ok (.iload_n 3, 1) := by decide +kernel
theorem dX3_markGenerations_11 : decode cX3_markGenerations 11 = .ok (.iload_n 2, 1) := by decide +kernel
theorem dX3_markGenerations_12 : decode cX3_markGenerations 12 = .ok (.if_icmp .ge 31, 3) := by decide +kernel
theorem dX3_markGenerations_15 : decode cX3_markGenerations 15 = .ok (.aload_n 1, 1) := by decide +kernel
theorem dX3_markGenerations_16 : decode cX3_markGenerations 16 = .ok (.iload_n 3, 1) := by decide +kernel
theorem dX3_markGenerations_17 : decode cX3_markGenerations 17 = .ok (.aaload, 1) := by decide +kernel
theorem dX3_markGenerations_18 : decode cX3_markGenerations 18 = .ok (.astore 4, 2) := by decide +kernel
theorem dX3_markGenerations_20 : decode cX3_markGenerations 20 = .ok (.aload 4, 2) := by decide +kernel
theorem dX3_markGenerations_22 : decode cX3_markGenerations 22 = .ok (.ifnull 15, 3) := by decide +kernel
theorem dX3_markGenerations_25 : decode cX3_markGenerations 25 = .ok (.aload 4, 2) := by decide +kernel
theorem dX3_markGenerations_27 : decode cX3_markGenerations 27 = .ok (.iconst 0, 1) := by decide +kernel
theorem dX3_markGenerations_28 : decode cX3_markGenerations 28 = .ok (.putfield 34, 3) := by decide +kernel
theorem dX3_markGenerations_31 : decode cX3_markGenerations 31 = .ok (.aload 4, 2) := by decide +kernel
theorem dX3_markGenerations_33 : decode cX3_markGenerations 33 = .ok (.iconst 0, 1) := by decide +kernel
theorem dX3_markGenerations_34 : decode cX3_markGenerations 34 = .ok (.putfield 38, 3) := by decide +kernel
theorem dX3_markGenerations_37 : decode cX3_markGenerations 37 = .ok (.iinc 3 1, 3) := by decide +kernel
theorem dX3_markGenerations_40 : decode cX3_markGenerations 40 = .ok (.goto (-30), 3) := by decide +kernel
theorem dX3_markGenerations_43 : decode cX3_markGenerations 43 = .ok (.aload_n 0, 1) := by decide +kernel
theorem dX3_markGenerations_44 : decode cX3_markGenerations 44 = .ok (.iconst 0, 1) := by decide +kernel
theorem dX3_markGenerations_45 : decode cX3_markGenerations 45 = .ok (.aload_n 0, 1) := by decide +kernel
theorem dX3_markGenerations_46 : decode cX3_markGenerations 46 = .ok (.getfield 17, 3) := by decide +kernel
theorem dX3_markGenerations_49 : decode cX3_markGenerations 49 = .ok (.invokevirtual 41, 3) := by decide +kernel
theorem dX3_markGenerations_52 : decode cX3_markGenerations 52 = .ok (.aload_n 0, 1) := by decide +kernel
theorem dX3_markGenerations_53 : decode cX3_markGenerations 53 = .ok (.iconst 1, 1) := by decide +kernel
theorem dX3_markGenerations_54 : decode cX3_markGenerations 54 = .ok (.aload_n 0, 1) := by decide +kernel
theorem dX3_markGenerations_55 : decode cX3_markGenerations 55 = .ok (.getfield 21, 3) := by decide +kernel
theorem dX3_markGenerations_58 : decode cX3_markGenerations 58 = .ok (.invokevirtual 41, 3) := by decide +kernel
theorem dX3_markGenerations_61 : decode cX3_markGenerations 61 = .ok (.aload_n 0, 1) := by decide +kernel
theorem dX3_markGenerations_62 : decode cX3_markGenerations 62 = .ok (.iconst 2, 1) := by decide +kernel
theorem dX3_markGenerations_63 : decode cX3_markGenerations 63 = .ok (.aload_n 0, 1) := by decide +kernel
theorem dX3_markGenerations_64 : decode cX3_markGenerations 64 = .ok (.getfield 24, 3) := by decide +kernel
theorem dX3_markGenerations_67 : decode cX3_markGenerations 67 = .ok (.invokevirtual 41, 3) := by decide +kernel
theorem dX3_markGenerations_70 : decode cX3_markGenerations 70 = .ok (.aload_n 0, 1) := by decide +kernel
theorem dX3_markGenerations_71 : decode cX3_markGenerations 71 = .ok (.getfield 11, 3) := by decide +kernel
theorem dX3_markGenerations_74 : decode cX3_markGenerations 74 = .ok (.astore_n 1, 1) := by decide +kernel
theorem dX3_markGenerations_75 : decode cX3_markGenerations 75 = .ok (.aload_n 1, 1) := by decide +kernel
theorem dX3_markGenerations_76 : decode cX3_markGenerations 76 = .ok (.arraylength, 1) := by decide +kernel
theorem dX3_markGenerations_77 : decode cX3_markGenerations 77 = .ok (.istore_n 2, 1) := by decide +kernel
theorem dX3_markGenerations_78 : decode cX3_markGenerations 78 = .ok (.iconst 0, 1) := by decide +kernel
theorem dX3_markGenerations_79 : decode cX3_markGenerations 79 = .ok (.istore_n 3, 1) := by decide +kernel
theorem dX3_markGenerations_80 : decode cX3_markGenerations 80 = .ok (.iload_n 3, 1) := by decide +kernel
theorem dX3_markGenerations_81 : decode cX3_markGenerations 81 = .ok (.iload_n 2, 1) := by decide +kernel
theorem dX3_markGenerations_82 : decode cX3_markGenerations 82 = .ok (.if_icmp .ge 32, 3) := by decide +kernel
theorem dX3_markGenerations_85 : decode cX3_markGenerations 85 = .ok (.aload_n 1, 1) := by decide +kernel
theorem dX3_markGenerations_86 : decode cX3_markGenerations 86 = .ok (.iload_n 3, 1) := by decide +kernel
theorem dX3_markGenerations_87 : decode cX3_markGenerations 87 = .ok (.aaload, 1) := by decide +kernel
theorem dX3_markGenerations_88 : decode cX3_markGenerations 88 = .ok (.astore 4, 2) := by decide +kernel
theorem dX3_markGenerations_90 : decode cX3_markGenerations 90 = .ok (.aload 4, 2) := by decide +kernel
theorem dX3_markGenerations_92 : decode cX3_markGenerations 92 = .ok (.ifnull 16, 3) := by decide +kernel
theorem dX3_markGenerations_95 : decode cX3_markGenerations 95 = .ok (.aload 4, 2) := by decide +kernel
theorem dX3_markGenerations_97 : decode cX3_markGenerations 97 = .ok (.getfield 34, 3) := by decide +kernel
theorem dX3_markGenerations_100 : decode cX3_markGenerations 100 = .ok (.ifCond .eq 8, 3) := by decide +kernel
theorem dX3_markGenerations_103 : decode cX3_markGenerations 103 = .ok (.aload 4, 2) := by decide +kernel
theorem dX3_markGenerations_105 : decode cX3_markGenerations 105 = .ok (.invokevirtual 45, 3) := by decide +kernel
theorem dX3_markGenerations_108 : decode cX3_markGenerations 108 = .ok (.iinc 3 1, 3) := by decide +kernel
theorem dX3_markGenerations_111 : decode cX3_markGenerations 111 = .ok (.goto (-31), 3) := by decide +kernel
theorem dX3_markGenerations_114 : decode cX3_markGenerations 114 = .ok (.return_, 1) := by decide +kernel
set_option maxRecDepth 20000 in
theorem ggX3_promiseLatest_X0_periodOf : GoodIn wsX3_promiseLatest wsX0_periodOf := goodIn_r _ [6, 7, 13, 14, 15, 16, 17, 18, 19, 20, 21, 22, 23] (by decide +kernel) (by decide +kernel)
set_option maxRecDepth 20000 in
theorem gX3_promiseLatest_X0_periodOf : GoodIn wsX3_promiseLatest (wsV RX3 48 RX0 yX0_periodOf wsX0_periodOf) := goodIn_app (goodIn_of _ (by decide +kernel)) ggX3_promiseLatest_X0_periodOf
theorem dX3_promiseLatest_0 : decode cX3_promiseLatest 0 = .ok (.iload_n 2, 1) := by decide +kernel
theorem dX3_promiseLatest_1 : decode cX3_promiseLatest 1 = .ok (.istore_n 3, 1) := by decide +kernel
theorem dX3_promiseLatest_2 : decode cX3_promiseLatest 2 = .ok (.iconst (-1), 1) := by decide +kernel
theorem dX3_promiseLatest_3 : decode cX3_promiseLatest 3 = .ok (.istore 4, 2) := by decide +kernel
theorem dX3_promiseLatest_5 : decode cX3_promiseLatest 5 = .ok (.aload_n 0, 1) := by decide +kernel
theorem dX3_promiseLatest_6 : decode cX3_promiseLatest 6 = .ok (.getfield 11, 3) := by decide +kernel
theorem dX3_promiseLatest_9 : decode cX3_promiseLatest 9 = .ok (.arraylength, 1) := by decide +kernel
theorem dX3_promiseLatest_10 : decode cX3_promiseLatest 10 = .ok (.iconst 1, 1) := by decide +kernel
theorem dX3_promiseLatest_11 : decode cX3_promiseLatest 11 = .ok (.isub, 1) := by decide +kernel
theorem dX3_promiseLatest_12 : decode cX3_promiseLatest 12 = .ok (.istore 5, 2) := by decide +kernel
theorem dX3_promiseLatest_14 : decode cX3_promiseLatest 14 = .ok (.iload 5, 2) := by decide +kernel
theorem dX3_promiseLatest_16 : decode cX3_promiseLatest 16 = .ok (.ifCond .lt 55, 3) := by decide +kernel
theorem dX3_promiseLatest_19 : decode cX3_promiseLatest 19 = .ok (.iload_n 3, 1) := by decide +kernel
theorem dX3_promiseLatest_20 : decode cX3_promiseLatest 20 = .ok (.ifCond .le 51, 3) := by decide +kernel
theorem dX3_promiseLatest_23 : decode cX3_promiseLatest 23 = .ok (.aload_n 0, 1) := by decide +kernel
theorem dX3_promiseLatest_24 : decode cX3_promiseLatest 24 = .ok (.getfield 11, 3) := by decide +kernel
theorem dX3_promiseLatest_27 : decode cX3_promiseLatest 27 = .ok (.iload 5, 2) := by decide +kernel
theorem dX3_promiseLatest_29 : decode cX3_promiseLatest 29 = .ok (.aaload, 1) := by decide +kernel
theorem dX3_promiseLatest_30 : decode cX3_promiseLatest 30 = .ok (.astore 6, 2) := by decide +kernel
theorem dX3_promiseLatest_32 : decode cX3_promiseLatest 32 = .ok (.aload 6, 2) := by decide +kernel
theorem dX3_promiseLatest_34 : decode cX3_promiseLatest 34 = .ok (.ifnull 31, 3) := by decide +kernel
theorem dX3_promiseLatest_37 : decode cX3_promiseLatest 37 = .ok (.aload 6, 2) := by decide +kernel
theorem dX3_promiseLatest_39 : decode cX3_promiseLatest 39 = .ok (.iload_n 1, 1) := by decide +kernel
theorem dX3_promiseLatest_40 : decode cX3_promiseLatest 40 = .ok (.invokevirtual 48, 3) := by decide +kernel
theorem dX3_promiseLatest_43 : decode cX3_promiseLatest 43 = .ok (.iload 4, 2) := by decide +kernel
theorem dX3_promiseLatest_45 : decode cX3_promiseLatest 45 = .ok (.if_icmp .eq 20, 3) := by decide +kernel
theorem dX3_promiseLatest_48 : decode cX3_promiseLatest 48 = .ok (.aload 6, 2) := by decide +kernel
theorem dX3_promiseLatest_50 : decode cX3_promiseLatest 50 = .ok (.iload_n 1, 1) := by decide +kernel
theorem dX3_promiseLatest_51 : decode cX3_promiseLatest 51 = .ok (.invokevirtual 48, 3) := by decide +kernel
theorem dX3_promiseLatest_54 : decode cX3_promiseLatest 54 = .ok (.istore 4, 2) := by decide +kernel
theorem dX3_promiseLatest_56 : decode cX3_promiseLatest 56 = .ok (.aload 6, 2) := by decide +kernel
theorem dX3_promiseLatest_58 : decode cX3_promiseLatest 58 = .ok (.iconst 1, 1) := by decide +kernel
theorem dX3_promiseLatest_59 : decode cX3_promiseLatest 59 = .ok (.putfield 34, 3) := by decide +kernel
theorem dX3_promiseLatest_62 : decode cX3_promiseLatest 62 = .ok (.iinc 3 (-1), 3) := by decide +kernel
theorem dX3_promiseLatest_65 : decode cX3_promiseLatest 65 = .ok (.iinc 5 (-1), 3) := by decide +kernel
theorem dX3_promiseLatest_68 : decode cX3_promiseLatest 68 = .ok (.goto (-54), 3) := by decide +kernel
theorem dX3_promiseLatest_71 : decode cX3_promiseLatest 71 = .ok (.return_, 1) := by decide +kernel
set_option maxRecDepth 20000 in
theorem ggX3_countPromised_X3_markGenerations : GoodIn wsX3_countPromised wsX3_markGenerations := goodIn_r _ [6, 1, 7, 8, 9, 10, 11, 12, 5, 13, 14, 15, 16, 17, 18, 19, 20, 21, 22, 23, 24, 25, 26, 27, 28, 29, 30, 31, 32, 33, 34, 35, 36, 37, 38, 39, 40, 41] (by decide +kernel) (by decide +kernel)
set_option maxRecDepth 20000 in
theorem gX3_countPromised_X3_markGenerations : GoodIn wsX3_countPromised (wsV RX3 52 RX3 yX3_markGenerations wsX3_markGenerations) := goodIn_app (goodIn_of _ (by decide +kernel)) ggX3_countPromised_X3_markGenerations
theorem dX3_countPromised_0 : decode cX3_countPromised 0 = .ok (.aload_n 0, 1) := by decide +kernel
theorem dX3_countPromised_1 : decode cX3_countPromised 1 = .ok (.invokevirtual 52, 3) := by decide +kernel
theorem dX3_countPromised_4 : decode cX3_countPromised 4 = .ok (.iconst 0, 1) := by decide +kernel
theorem dX3_countPromised_5 : decode cX3_countPromised 5 = .ok (.istore_n 1, 1) := by decide +kernel
theorem dX3_countPromised_6 : decode cX3_countPromised 6 = .ok (.aload_n 0, 1) := by decide +kernel
theorem dX3_countPromised_7 : decode cX3_countPromised 7 = .ok (.getfield 11, 3) := by decide +kernel
theorem dX3_countPromised_10 : decode cX3_countPromised 10 = .ok (.astore_n 2, 1) := by decide +kernel
theorem dX3_countPromised_11 : decode cX3_countPromised 11 = .ok (.aload_n 2, 1) := by decide +kernel
theorem dX3_countPromised_12 : decode cX3_countPromised 12 = .ok (.arraylength, 1) := by decide +kernel
theorem dX3_countPromised_13 : decode cX3_countPromised 13 = .ok (.istore_n 3, 1) := by decide +kernel
theorem dX3_countPromised_14 : decode cX3_countPromised 14 = .ok (.iconst 0, 1) := by decide +kernel
theorem dX3_countPromised_15 : decode cX3_countPromised 15 = .ok (.istore 4, 2) := by decide +kernel
theorem dX3_countPromised_17 : decode cX3_countPromised 17 = .ok (.iload 4, 2) := by decide +kernel
theorem dX3_countPromised_19 : decode cX3_countPromised 19 = .ok (.iload_n 3, 1) := by decide +kernel
theorem dX3_countPromised_20 : decode cX3_countPromised 20 = .ok (.if_icmp .ge 31, 3) := by decide +kernel
theorem dX3_countPromised_23 : decode cX3_countPromised 23 = .ok (.aload_n 2, 1) := by decide +kernel
theorem dX3_countPromised_24 : decode cX3_countPromised 24 = .ok (.iload 4, 2) := by decide +kernel
theorem dX3_countPromised_26 : decode cX3_countPromised 26 = .ok (.aaload, 1) := by decide +kernel
theorem dX3_countPromised_27 : decode cX3_countPromised 27 = .ok (.astore 5, 2) := by decide +kernel
theorem dX3_countPromised_29 : decode cX3_countPromised 29 = .ok (.aload 5, 2) := by decide +kernel
theorem dX3_countPromised_31 : decode cX3_countPromised 31 = .ok (.ifnull 14, 3) := by decide +kernel
theorem dX3_countPromised_34 : decode cX3_countPromised 34 = .ok (.aload 5, 2) := by decide +kernel
theorem dX3_countPromised_36 : decode cX3_countPromised 36 = .ok (.getfield 34, 3) := by decide +kernel
theorem dX3_countPromised_39 : decode cX3_countPromised 39 = .ok (.ifCond .eq 6, 3) := by decide +kernel
theorem dX3_countPromised_42 : decode cX3_countPromised 42 = .ok (.iinc 1 1, 3) := by decide +kernel
theorem dX3_countPromised_45 : decode cX3_countPromised 45 = .ok (.iinc 4 1, 3) := by decide +kernel
theorem dX3_countPromised_48 : decode cX3_countPromised 48 = .ok (.goto (-31), 3) := by decide +kernel
theorem dX3_countPromised_51 : decode cX3_countPromised 51 = .ok (.iload_n 1, 1) := by decide +kernel
theorem dX3_countPromised_52 : decode cX3_countPromised 52 = .ok (.ireturn, 1) := by decide +kernel
set_option maxRecDepth 20000 in
theorem ggX3_countPromisedButDamaged_X3_markGenerations : GoodIn wsX3_countPromisedButDamaged wsX3_markGenerations := goodIn_r _ [6, 1, 7, 8, 9, 10, 11, 12, 5, 13, 14, 15, 16, 17, 18, 19, 20, 21, 22, 23, 24, 25, 31, 32, 33, 34, 35, 36, 37, 38, 39, 40, 41, 42, 43, 44, 45, 46] (by decide +kernel) (by decide +kernel)
set_option maxRecDepth 20000 in
theorem gX3_countPromisedButDamaged_X3_markGenerations : GoodIn wsX3_countPromisedButDamaged (wsV RX3 52 RX3 yX3_markGenerations wsX3_markGenerations) := goodIn_app (goodIn_of _ (by decide +kernel)) ggX3_countPromisedButDamaged_X3_markGenerations
set_option maxRecDepth 20000 in
theorem ggX3_countPromisedButDamaged_X0_hasDamagedChain : GoodIn wsX3_countPromisedButDamaged wsX0_hasDamagedChain := goodIn_r _ [29, 30, 25, 36, 37, 38, 39, 40, 41, 42, 43, 44, 45, 46] (by decide +kernel) (by decide +kernel)
set_option maxRecDepth 20000 in
theorem gX3_countPromisedButDamaged_X0_hasDamagedChain : GoodIn wsX3_countPromisedButDamaged (wsV RX3 55 RX0 yX0_hasDamagedChain wsX0_hasDamagedChain) := goodIn_app (goodIn_of _ (by decide +kernel)) ggX3_countPromisedButDamaged_X0_hasDamagedChain
theorem dX3_countPromisedButDamaged_0 : decode cX3_countPromisedButDamaged 0 = .ok (.aload_n 0, 1) := by decide +kernel
theorem dX3_countPromisedButDamaged_1 : decode cX3_countPromisedButDamaged 1 = .ok (.invokevirtual 52, 3) := by decide +kernel
theorem dX3_countPromisedButDamaged_4 : decode cX3_countPromisedButDamaged 4 = .ok (.iconst 0, 1) := by decide +kernel
theorem dX3_countPromisedButDamaged_5 : decode cX3_countPromisedButDamaged 5 = .ok (.istore_n 1, 1) := by decide +kernel
theorem dX3_countPromisedButDamaged_6 : decode cX3_countPromisedButDamaged 6 = .ok (.aload_n 0, 1) := by decide +kernel
theorem dX3_countPromisedButDamaged_7 : decode cX3_countPromisedButDamaged 7 = .ok (.getfield 11, 3) := by decide +kernel
theorem dX3_countPromisedButDamaged_10 : decode cX3_countPromisedButDamaged 10 = .ok (.astore_n 2, 1) := by decide +kernel
theorem dX3_countPromisedButDamaged_11 : decode cX3_countPromisedButDamaged 11 = .ok (.aload_n 2, 1) := by decide +kernel
theorem dX3_countPromisedButDamaged_12 : decode cX3_countPromisedButDamaged 12 = .ok (.arraylength, 1) := by decide +kernel
theorem dX3_countPromisedButDamaged_13 : decode cX3_countPromisedButDamaged 13 = .ok (.istore_n 3, 1) := by decide +kernel
theorem dX3_countPromisedButDamaged_14 : decode cX3_countPromisedButDamaged 14 = .ok (.iconst 0, 1) := by decide +kernel
theorem dX3_countPromisedButDamaged_15 : decode cX3_countPromisedButDamaged 15 = .ok (.istore 4, 2) := by decide +kernel
theorem dX3_countPromisedButDamaged_17 : decode cX3_countPromisedButDamaged 17 = .ok (.iload 4, 2) := by decide +kernel
theorem dX3_countPromisedButDamaged_19 : decode cX3_countPromisedButDamaged 19 = .ok (.iload_n 3, 1) := by decide +kernel
theorem dX3_countPromisedButDamaged_20 : decode cX3_countPromisedButDamaged 20 = .ok (.if_icmp .ge 39, 3) := by decide +kernel
theorem dX3_countPromisedButDamaged_23 : decode cX3_countPromisedButDamaged 23 = .ok (.aload_n 2, 1) := by decide +kernel
theorem dX3_countPromisedButDamaged_24 : decode cX3_countPromisedButDamaged 24 = .ok (.iload 4, 2) := by decide +kernel
theorem dX3_countPromisedButDamaged_26 : decode cX3_countPromisedButDamaged 26 = .ok (.aaload, 1) := by decide +kernel
theorem dX3_countPromisedButDamaged_27 : decode cX3_countPromisedButDamaged 27 = .ok (.astore 5, 2) := by decide +kernel
theorem dX3_countPromisedButDamaged_29 : decode cX3_countPromisedButDamaged 29 = .ok (.aload 5, 2) := by decide +kernel
theorem dX3_countPromisedButDamaged_31 : decode cX3_countPromisedButDamaged 31 = .ok (.ifnull 22, 3) := by decide +kernel
theorem dX3_countPromisedButDamaged_34 : decode cX3_countPromisedButDamaged 34 = .ok (.aload 5, 2) := by decide +kernel
theorem dX3_countPromisedButDamaged_36 : decode cX3_countPromisedButDamaged 36 = .ok (.getfield 34, 3) := by decide +kernel
theorem dX3_countPromisedButDamaged_39 : decode cX3_countPromisedButDamaged 39 = .ok (.ifCond .eq 14, 3) := by decide +kernel
theorem dX3_countPromisedButDamaged_42 : decode cX3_countPromisedButDamaged 42 = .ok (.aload 5, 2) := by decide +kernel
theorem dX3_countPromisedButDamaged_44 : decode cX3_countPromisedButDamaged 44 = .ok (.invokevirtual 55, 3) := by decide +kernel
theorem dX3_countPromisedButDamaged_47 : decode cX3_countPromisedButDamaged 47 = .ok (.ifCond .eq 6, 3) := by decide +kernel
theorem dX3_countPromisedButDamaged_50 : decode cX3_countPromisedButDamaged 50 = .ok (.iinc 1 1, 3) := by decide +kernel
theorem dX3_countPromisedButDamaged_53 : decode cX3_countPromisedButDamaged 53 = .ok (.iinc 4 1, 3) := by decide +kernel
theorem dX3_countPromisedButDamaged_56 : decode cX3_countPromisedButDamaged 56 = .ok (.goto (-39), 3) := by decide +kernel
theorem dX3_countPromisedButDamaged_59 : decode cX3_countPromisedButDamaged 59 = .ok (.iload_n 1, 1) := by decide +kernel
theorem dX3_countPromisedButDamaged_60 : decode cX3_countPromisedButDamaged 60 = .ok (.ireturn, 1) := by decide +kernel
set_option maxRecDepth 20000 in
theorem ggX3_takeOffLoose_X3_markGenerations : GoodIn wsX3_takeOffLoose wsX3_markGenerations := goodIn_r _ [6, 1, 7, 8, 9, 10, 11, 12, 5, 13, 14, 15, 16, 17, 18, 19, 20, 21, 22, 23, 24, 25, 43, 44, 45, 46, 47, 48, 49, 50, 51, 52, 53, 54, 55, 56, 57, 58] (by decide +kernel) (by decide +kernel)
set_option maxRecDepth 20000 in
theorem gX3_takeOffLoose_X3_markGenerations : GoodIn wsX3_takeOffLoose (wsV RX3 52 RX3 yX3_markGenerations wsX3_markGenerations) := goodIn_app (goodIn_of _ (by decide +kernel)) ggX3_takeOffLoose_X3_markGenerations
set_option maxRecDepth 20000 in
theorem ggX3_takeOffLoose_X3_latestProvedDay : GoodIn wsX3_takeOffLoose wsX3_latestProvedDay := goodIn_r _ [29, 1, 30, 31, 32, 33, 43, 44, 45, 46, 47, 48, 49, 50, 51, 52, 53, 54, 55, 56, 57, 58] (by decide +kernel) (by decide +kernel)
set_option maxRecDepth 20000 in
theorem gX3_takeOffLoose_X3_latestProvedDay : GoodIn wsX3_takeOffLoose (wsV RX3 59 RX3 yX3_latestProvedDay wsX3_latestProvedDay) := goodIn_app (goodIn_of _ (by decide +kernel)) ggX3_takeOffLoose_X3_latestProvedDay
set_option maxRecDepth 20000 in
theorem ggX3_takeOffLoose_X3_markHeld : GoodIn wsX3_takeOffLoose wsX3_markHeld := goodIn_r _ [37, 1, 43, 44, 45, 46, 47, 48, 49, 50, 51, 52, 53, 54, 55, 56, 57, 58] (by decide +kernel) (by decide +kernel)
set_option maxRecDepth 20000 in
theorem gX3_takeOffLoose_X3_markHeld : GoodIn wsX3_takeOffLoose (wsV RX3 62 RX3 yX3_markHeld wsX3_markHeld) := goodIn_app (goodIn_of _ (by decide +kernel)) ggX3_takeOffLoose_X3_markHeld
set_option maxRecDepth 20000 in
theorem ggX3_takeOffLoose_X0_spaceTaken : GoodIn wsX3_takeOffLoose wsX0_spaceTaken := goodIn_r _ [41, 42, 48, 49, 50, 51, 52, 53, 54, 55, 56, 57, 58] (by decide +kernel) (by decide +kernel)
set_option maxRecDepth 20000 in
theorem gX3_takeOffLoose_X0_spaceTaken : GoodIn wsX3_takeOffLoose (wsV RX3 30 RX0 yX0_spaceTaken wsX0_spaceTaken) := goodIn_app (goodIn_of _ (by decide +kernel)) ggX3_takeOffLoose_X0_spaceTaken
theorem dX3_takeOffLoose_0 : decode cX3_takeOffLoose 0 = .ok (.aload_n 0, 1) := by decide +kernel
theorem dX3_takeOffLoose_1 : decode cX3_takeOffLoose 1 = .ok (.invokevirtual 52, 3) := by decide +kernel
theorem dX3_takeOffLoose_4 : decode cX3_takeOffLoose 4 = .ok (.aload_n 0, 1) := by decide +kernel
theorem dX3_takeOffLoose_5 : decode cX3_takeOffLoose 5 = .ok (.aload_n 0, 1) := by decide +kernel
theorem dX3_takeOffLoose_6 : decode cX3_takeOffLoose 6 = .ok (.invokevirtual 59, 3) := by decide +kernel
theorem dX3_takeOffLoose_9 : decode cX3_takeOffLoose 9 = .ok (.invokevirtual 62, 3) := by decide +kernel
theorem dX3_takeOffLoose_12 : decode cX3_takeOffLoose 12 = .ok (.iconst 0, 1) := by decide +kernel
theorem dX3_takeOffLoose_13 : decode cX3_takeOffLoose 13 = .ok (.istore_n 1, 1) := by decide +kernel
theorem dX3_takeOffLoose_14 : decode cX3_takeOffLoose 14 = .ok (.iconst 0, 1) := by decide +kernel
theorem dX3_takeOffLoose_15 : decode cX3_takeOffLoose 15 = .ok (.istore_n 2, 1) := by decide +kernel
theorem dX3_takeOffLoose_16 : decode cX3_takeOffLoose 16 = .ok (.iload_n 2, 1) := by decide +kernel
theorem dX3_takeOffLoose_17 : decode cX3_takeOffLoose 17 = .ok (.aload_n 0, 1) := by decide +kernel
theorem dX3_takeOffLoose_18 : decode cX3_takeOffLoose 18 = .ok (.getfield 11, 3) := by decide +kernel
theorem dX3_takeOffLoose_21 : decode cX3_takeOffLoose 21 = .ok (.arraylength, 1) := by decide +kernel
theorem dX3_takeOffLoose_22 : decode cX3_takeOffLoose 22 = .ok (.if_icmp .ge 41, 3) := by decide +kernel
theorem dX3_takeOffLoose_25 : decode cX3_takeOffLoose 25 = .ok (.aload_n 0, 1) := by decide +kernel
theorem dX3_takeOffLoose_26 : decode cX3_takeOffLoose 26 = .ok (.getfield 11, 3) := by decide +kernel
theorem dX3_takeOffLoose_29 : decode cX3_takeOffLoose 29 = .ok (.iload_n 2, 1) := by decide +kernel
theorem dX3_takeOffLoose_30 : decode cX3_takeOffLoose 30 = .ok (.aaload, 1) := by decide +kernel
theorem dX3_takeOffLoose_31 : decode cX3_takeOffLoose 31 = .ok (.astore_n 3, 1) := by decide +kernel
theorem dX3_takeOffLoose_32 : decode cX3_takeOffLoose 32 = .ok (.aload_n 3, 1) := by decide +kernel
theorem dX3_takeOffLoose_33 : decode cX3_takeOffLoose 33 = .ok (.ifnull 24, 3) := by decide +kernel
theorem dX3_takeOffLoose_36 : decode cX3_takeOffLoose 36 = .ok (.aload_n 3, 1) := by decide +kernel
theorem dX3_takeOffLoose_37 : decode cX3_takeOffLoose 37 = .ok (.getfield 66, 3) := by decide +kernel
theorem dX3_takeOffLoose_40 : decode cX3_takeOffLoose 40 = .ok (.ifCond .ne 17, 3) := by decide +kernel
theorem dX3_takeOffLoose_43 : decode cX3_takeOffLoose 43 = .ok (.iload_n 1, 1) := by decide +kernel
theorem dX3_takeOffLoose_44 : decode cX3_takeOffLoose 44 = .ok (.aload_n 3, 1) := by decide +kernel
theorem dX3_takeOffLoose_45 : decode cX3_takeOffLoose 45 = .ok (.invokevirtual 30, 3) := by decide +kernel
theorem dX3_takeOffLoose_48 : decode cX3_takeOffLoose 48 = .ok (.iadd, 1) := by decide +kernel
theorem dX3_takeOffLoose_49 : decode cX3_takeOffLoose 49 = .ok (.istore_n 1, 1) := by decide +kernel
theorem dX3_takeOffLoose_50 : decode cX3_takeOffLoose 50 = .ok (.aload_n 0, 1) := by decide +kernel
theorem dX3_takeOffLoose_51 : decode cX3_takeOffLoose 51 = .ok (.getfield 11, 3) := by decide +kernel
theorem dX3_takeOffLoose_54 : decode cX3_takeOffLoose 54 = .ok (.iload_n 2, 1) := by decide +kernel
theorem dX3_takeOffLoose_55 : decode cX3_takeOffLoose 55 = .ok (.aconst_null, 1) := by decide +kernel
theorem dX3_takeOffLoose_56 : decode cX3_takeOffLoose 56 = .ok (.aastore, 1) := by decide +kernel
theorem dX3_takeOffLoose_57 : decode cX3_takeOffLoose 57 = .ok (.iinc 2 1, 3) := by decide +kernel
theorem dX3_takeOffLoose_60 : decode cX3_takeOffLoose 60 = .ok (.goto (-44), 3) := by decide +kernel
theorem dX3_takeOffLoose_63 : decode cX3_takeOffLoose 63 = .ok (.iload_n 1, 1) := by decide +kernel
theorem dX3_takeOffLoose_64 : decode cX3_takeOffLoose 64 = .ok (.ireturn, 1) := by decide +kernel
theorem dX3_latestProvedDay_0 : decode cX3_latestProvedDay 0 = .ok (.iconst (-1), 1) := by decide +kernel
theorem dX3_latestProvedDay_1 : decode cX3_latestProvedDay 1 = .ok (.istore_n 1, 1) := by decide +kernel
theorem dX3_latestProvedDay_2 : decode cX3_latestProvedDay 2 = .ok (.aload_n 0, 1) := by decide +kernel
theorem dX3_latestProvedDay_3 : decode cX3_latestProvedDay 3 = .ok (.getfield 11, 3) := by decide +kernel
theorem dX3_latestProvedDay_6 : decode cX3_latestProvedDay 6 = .ok (.astore_n 2, 1) := by decide +kernel
theorem dX3_latestProvedDay_7 : decode cX3_latestProvedDay 7 = .ok (.aload_n 2, 1) := by decide +kernel
theorem dX3_latestProvedDay_8 : decode cX3_latestProvedDay 8 = .ok (.arraylength, 1) := by decide +kernel
theorem dX3_latestProvedDay_9 : decode cX3_latestProvedDay 9 = .ok (.istore_n 3, 1) := by decide +kernel
theorem dX3_latestProvedDay_10 : decode cX3_latestProvedDay 10 = .ok (.iconst 0, 1) := by decide +kernel
theorem dX3_latestProvedDay_11 : decode cX3_latestProvedDay 11 = .ok (.istore 4, 2) := by decide +kernel
theorem dX3_latestProvedDay_13 : decode cX3_latestProvedDay 13 = .ok (.iload 4, 2) := by decide +kernel
theorem dX3_latestProvedDay_15 : decode cX3_latestProvedDay 15 = .ok (.iload_n 3, 1) := by decide +kernel
theorem dX3_latestProvedDay_16 : decode cX3_latestProvedDay 16 = .ok (.if_icmp .ge 38, 3) := by decide +kernel
theorem dX3_latestProvedDay_19 : decode cX3_latestProvedDay 19 = .ok (.aload_n 2, 1) := by decide +kernel
theorem dX3_latestProvedDay_20 : decode cX3_latestProvedDay 20 = .ok (.iload 4, 2) := by decide +kernel
theorem dX3_latestProvedDay_22 : decode cX3_latestProvedDay 22 = .ok (.aaload, 1) := by decide +kernel
theorem dX3_latestProvedDay_23 : decode cX3_latestProvedDay 23 = .ok (.astore 5, 2) := by decide +kernel
theorem dX3_latestProvedDay_25 : decode cX3_latestProvedDay 25 = .ok (.aload 5, 2) := by decide +kernel
theorem dX3_latestProvedDay_27 : decode cX3_latestProvedDay 27 = .ok (.ifnull 21, 3) := by decide +kernel
theorem dX3_latestProvedDay_30 : decode cX3_latestProvedDay 30 = .ok (.aload 5, 2) := by decide +kernel
theorem dX3_latestProvedDay_32 : decode cX3_latestProvedDay 32 = .ok (.getfield 69, 3) := by decide +kernel
theorem dX3_latestProvedDay_35 : decode cX3_latestProvedDay 35 = .ok (.ifCond .eq 13, 3) := by decide +kernel
theorem dX3_latestProvedDay_38 : decode cX3_latestProvedDay 38 = .ok (.iload_n 1, 1) := by decide +kernel
theorem dX3_latestProvedDay_39 : decode cX3_latestProvedDay 39 = .ok (.aload 5, 2) := by decide +kernel
theorem dX3_latestProvedDay_41 : decode cX3_latestProvedDay 41 = .ok (.getfield 72, 3) := by decide +kernel
theorem dX3_latestProvedDay_44 : decode cX3_latestProvedDay 44 = .ok (.invokestatic 75, 3) := by decide +kernel
theorem dX3_latestProvedDay_47 : decode cX3_latestProvedDay 47 = .ok (.istore_n 1, 1) := by decide +kernel
theorem dX3_latestProvedDay_48 : decode cX3_latestProvedDay 48 = .ok (.iinc 4 1, 3) := by decide +kernel
theorem dX3_latestProvedDay_51 : decode cX3_latestProvedDay 51 = .ok (.goto (-38), 3) := by decide +kernel
theorem dX3_latestProvedDay_54 : decode cX3_latestProvedDay 54 = .ok (.iload_n 1, 1) := by decide +kernel
theorem dX3_latestProvedDay_55 : decode cX3_latestProvedDay 55 = .ok (.ireturn, 1) := by decide +kernel
theorem dX3_markHeld_0 : decode cX3_markHeld 0 = .ok (.aload_n 0, 1) := by decide +kernel
theorem dX3_markHeld_1 : decode cX3_markHeld 1 = .ok (.getfield 11, 3) := by decide +kernel
theorem dX3_markHeld_4 : decode cX3_markHeld 4 = .ok (.astore_n 2, 1) := by decide +kernel
theorem dX3_markHeld_5 : decode cX3_markHeld 5 = .ok (.aload_n 2, 1) := by decide +kernel
theorem dX3_markHeld_6 : decode cX3_markHeld 6 = .ok (.arraylength, 1) := by decide +kernel
theorem dX3_markHeld_7 : decode cX3_markHeld 7 = .ok (.istore_n 3, 1) := by decide +kernel
theorem dX3_markHeld_8 : decode cX3_markHeld 8 = .ok (.iconst 0, 1) := by decide +kernel
theorem dX3_markHeld_9 : decode cX3_markHeld 9 = .ok (.istore 4, 2) := by decide +kernel
theorem dX3_markHeld_11 : decode cX3_markHeld 11 = .ok (.iload 4, 2) := by decide +kernel
theorem dX3_markHeld_13 : decode cX3_markHeld 13 = .ok (.iload_n 3, 1) := by decide +kernel
theorem dX3_markHeld_14 : decode cX3_markHeld 14 = .ok (.if_icmp .ge 47, 3) := by decide +kernel
theorem dX3_markHeld_17 : decode cX3_markHeld 17 = .ok (.aload_n 2, 1) := by decide +kernel
theorem dX3_markHeld_18 : decode cX3_markHeld 18 = .ok (.iload 4, 2) := by decide +kernel
theorem dX3_markHeld_20 : decode cX3_markHeld 20 = .ok (.aaload, 1) := by decide +kernel
theorem dX3_markHeld_21 : decode cX3_markHeld 21 = .ok (.astore 5, 2) := by decide +kernel
theorem dX3_markHeld_23 : decode cX3_markHeld 23 = .ok (.aload 5, 2) := by decide +kernel
theorem dX3_markHeld_25 : decode cX3_markHeld 25 = .ok (.ifnull 30, 3) := by decide +kernel
theorem dX3_markHeld_28 : decode cX3_markHeld 28 = .ok (.aload 5, 2) := by decide +kernel
theorem dX3_markHeld_30 : decode cX3_markHeld 30 = .ok (.aload 5, 2) := by decide +kernel
theorem dX3_markHeld_32 : decode cX3_markHeld 32 = .ok (.getfield 38, 3) := by decide +kernel
theorem dX3_markHeld_35 : decode cX3_markHeld 35 = .ok (.ifCond .ne 12, 3) := by decide +kernel
theorem dX3_markHeld_38 : decode cX3_markHeld 38 = .ok (.aload 5, 2) := by decide +kernel
theorem dX3_markHeld_40 : decode cX3_markHeld 40 = .ok (.getfield 72, 3) := by decide +kernel
theorem dX3_markHeld_43 : decode cX3_markHeld 43 = .ok (.iload_n 1, 1) := by decide +kernel
theorem dX3_markHeld_44 : decode cX3_markHeld 44 = .ok (.if_icmp .lt 7, 3) := by decide +kernel
theorem dX3_markHeld_47 : decode cX3_markHeld 47 = .ok (.iconst 1, 1) := by decide +kernel
theorem dX3_markHeld_48 : decode cX3_markHeld 48 = .ok (.goto 4, 3) := by decide +kernel
theorem dX3_markHeld_51 : decode cX3_markHeld 51 = .ok (.iconst 0, 1) := by decide +kernel
theorem dX3_markHeld_52 : decode cX3_markHeld 52 = .ok (.putfield 66, 3) := by decide +kernel
theorem dX3_markHeld_55 : decode cX3_markHeld 55 = .ok (.iinc 4 1, 3) := by decide +kernel
theorem dX3_markHeld_58 : decode cX3_markHeld 58 = .ok (.goto (-47), 3) := by decide +kernel
theorem dX3_markHeld_61 : decode cX3_markHeld 61 = .ok (.aload_n 0, 1) := by decide +kernel
theorem dX3_markHeld_62 : decode cX3_markHeld 62 = .ok (.getfield 11, 3) := by decide +kernel
theorem dX3_markHeld_65 : decode cX3_markHeld 65 = .ok (.arraylength, 1) := by decide +kernel
theorem dX3_markHeld_66 : decode cX3_markHeld 66 = .ok (.iconst 1, 1) := by decide +kernel
theorem dX3_markHeld_67 : decode cX3_markHeld 67 = .ok (.isub, 1) := by decide +kernel
theorem dX3_markHeld_68 : decode cX3_markHeld 68 = .ok (.istore_n 2, 1) := by decide +kernel
theorem dX3_markHeld_69 : decode cX3_markHeld 69 = .ok (.iload_n 2, 1) := by decide +kernel
theorem dX3_markHeld_70 : decode cX3_markHeld 70 = .ok (.ifCond .lt 42, 3) := by decide +kernel
theorem dX3_markHeld_73 : decode cX3_markHeld 73 = .ok (.aload_n 0, 1) := by decide +kernel
theorem dX3_markHeld_74 : decode cX3_markHeld 74 = .ok (.getfield 11, 3) := by decide +kernel
theorem dX3_markHeld_77 : decode cX3_markHeld 77 = .ok (.iload_n 2, 1) := by decide +kernel
theorem dX3_markHeld_78 : decode cX3_markHeld 78 = .ok (.aaload, 1) := by decide +kernel
theorem dX3_markHeld_79 : decode cX3_markHeld 79 = .ok (.astore_n 3, 1) := by decide +kernel
theorem dX3_markHeld_80 : decode cX3_markHeld 80 = .ok (.aload_n 3, 1) := by decide +kernel
theorem dX3_markHeld_81 : decode cX3_markHeld 81 = .ok (.ifnull 25, 3) := by decide +kernel
theorem dX3_markHeld_84 : decode cX3_markHeld 84 = .ok (.aload_n 3, 1) := by decide +kernel
theorem dX3_markHeld_85 : decode cX3_markHeld 85 = .ok (.getfield 66, 3) := by decide +kernel
theorem dX3_markHeld_88 : decode cX3_markHeld 88 = .ok (.ifCond .eq 18, 3) := by decide +kernel
theorem dX3_markHeld_91 : decode cX3_markHeld 91 = .ok (.aload_n 3, 1) := by decide +kernel
theorem dX3_markHeld_92 : decode cX3_markHeld 92 = .ok (.getfield 81, 3) := by decide +kernel
theorem dX3_markHeld_95 : decode cX3_markHeld 95 = .ok (.ifnull 11, 3) := by decide +kernel
theorem dX3_markHeld_98 : decode cX3_markHeld 98 = .ok (.aload_n 3, 1) := by decide +kernel
theorem dX3_markHeld_99 : decode cX3_markHeld 99 = .ok (.getfield 81, 3) := by decide +kernel
theorem dX3_markHeld_102 : decode cX3_markHeld 102 = .ok (.iconst 1, 1) := by decide +kernel
theorem dX3_markHeld_103 : decode cX3_markHeld 103 = .ok (.putfield 66, 3) := by decide +kernel
theorem dX3_markHeld_106 : decode cX3_markHeld 106 = .ok (.iinc 2 (-1), 3) := by decide +kernel
theorem dX3_markHeld_109 : decode cX3_markHeld 109 = .ok (.goto (-40), 3) := by decide +kernel
theorem dX3_markHeld_112 : decode cX3_markHeld 112 = .ok (.return_, 1) := by decide +kernel
set_option maxRecDepth 20000 in
theorem ggX4_init_X1_init : GoodIn wsX4_init wsX1_init := goodIn_r _ [18, 19, 2, 3, 20, 21, 22, 23, 37, 38, 39, 40] (by decide +kernel) (by decide +kernel)
set_option maxRecDepth 20000 in
theorem gX4_init_X1_init_n9 : GoodIn wsX4_init (wsX1_init) := ggX4_init_X1_init
set_option maxRecDepth 20000 in
theorem ggX4_init_X3_init : GoodIn wsX4_init wsX3_init := goodIn_r _ [25, 26, 2, 3, 27, 28, 29, 30, 31, 45, 46, 47, 48, 49] (by decide +kernel) (by decide +kernel)
set_option maxRecDepth 20000 in
theorem gX4_init_X3_init_n18 : GoodIn wsX4_init (wsX3_init) := ggX4_init_X3_init
set_option maxRecDepth 20000 in
theorem ggX4_init_X2_init : GoodIn wsX4_init wsX2_init := goodIn_r _ [34, 35, 2, 3, 20, 36, 50] (by decide +kernel) (by decide +kernel)
set_option maxRecDepth 20000 in
theorem gX4_init_X2_init : GoodIn wsX4_init (wsX2_init) := ggX4_init_X2_init
theorem dX4_init_0 : decode cX4_init 0 = .ok (.aload_n 0, 1) := by decide +kernel
theorem dX4_init_1 : decode cX4_init 1 = .ok (.invokespecial 1, 3) := by decide +kernel
theorem dX4_init_4 : decode cX4_init 4 = .ok (.aload_n 0, 1) := by decide +kernel
theorem dX4_init_5 : decode cX4_init 5 = .ok (.new 7, 3) := by decide +kernel
theorem dX4_init_8 : decode cX4_init 8 = .ok (.dup, 1) := by decide +kernel
theorem dX4_init_9 : decode cX4_init 9 = .ok (.invokespecial 9, 3) := by decide +kernel
theorem dX4_init_12 : decode cX4_init 12 = .ok (.putfield 10, 3) := by decide +kernel
theorem dX4_init_15 : decode cX4_init 15 = .ok (.aload_n 0, 1) := by decide +kernel
theorem dX4_init_16 : decode cX4_init 16 = .ok (.new 16, 3) := by decide +kernel
theorem dX4_init_19 : decode cX4_init 19 = .ok (.dup, 1) := by decide +kernel
theorem dX4_init_20 : decode cX4_init 20 = .ok (.invokespecial 18, 3) := by decide +kernel
theorem dX4_init_23 : decode cX4_init 23 = .ok (.putfield 19, 3) := by decide +kernel
theorem dX4_init_26 : decode cX4_init 26 = .ok (.aload_n 0, 1) := by decide +kernel
theorem dX4_init_27 : decode cX4_init 27 = .ok (.new 23, 3) := by decide +kernel
theorem dX4_init_30 : decode cX4_init 30 = .ok (.dup, 1) := by decide +kernel
theorem dX4_init_31 : decode cX4_init 31 = .ok (.invokespecial 25, 3) := by decide +kernel
theorem dX4_init_34 : decode cX4_init 34 = .ok (.putfield 26, 3) := by decide +kernel
theorem dX4_init_37 : decode cX4_init 37 = .ok (.aload_n 0, 1) := by decide +kernel
theorem dX4_init_38 : decode cX4_init 38 = .ok (.iconst 0, 1) := by decide +kernel
theorem dX4_init_39 : decode cX4_init 39 = .ok (.putfield 30, 3) := by decide +kernel
theorem dX4_init_42 : decode cX4_init 42 = .ok (.return_, 1) := by decide +kernel
set_option maxRecDepth 20000 in
theorem ggX4_change_X4_requireFile : GoodIn wsX4_change wsX4_requireFile := goodIn_ca (goodIn_r _ [9, 10, 11] (by decide +kernel) (by decide +kernel)) (goodIn_sub (fun _ h => List.mem_cons_of_mem _ (List.mem_append_right _ h)) (by decide +kernel))
set_option maxRecDepth 20000 in
theorem gX4_change_X4_requireFile : GoodIn wsX4_change (va_wsS RX4 34 yX4_requireFile wsX4_requireFile) := goodIn_app (goodIn_of _ (by decide +kernel)) ggX4_change_X4_requireFile
set_option maxRecDepth 20000 in
theorem ggX4_change_X1_contentNow : GoodIn wsX4_change wsX1_contentNow := goodIn_r _ [16, 17, 29, 30, 31, 32] (by decide +kernel) (by decide +kernel)
set_option maxRecDepth 20000 in
theorem gX4_change_X1_contentNow : GoodIn wsX4_change (wsV RX4 53 RX1 yX1_contentNow wsX1_contentNow) := goodIn_app (goodIn_of _ (by decide +kernel)) ggX4_change_X1_contentNow
set_option maxRecDepth 20000 in
theorem ggX4_change_X1_write : GoodIn wsX4_change wsX1_write := goodIn_r _ [21, 17, 22, 23, 24, 29, 30, 31, 32] (by decide +kernel) (by decide +kernel)
set_option maxRecDepth 20000 in
theorem gX4_change_X1_write : GoodIn wsX4_change (wsV RX4 57 RX1 yX1_write wsX1_write) := goodIn_app (goodIn_of _ (by decide +kernel)) ggX4_change_X1_write
theorem dX4_change_0 : decode cX4_change 0 = .ok (.iload_n 1, 1) := by decide +kernel
theorem dX4_change_1 : decode cX4_change 1 = .ok (.invokestatic 34, 3) := by decide +kernel
theorem dX4_change_4 : decode cX4_change 4 = .ok (.iload_n 2, 1) := by decide +kernel
theorem dX4_change_5 : decode cX4_change 5 = .ok (.ifCond .lt 9, 3) := by decide +kernel
theorem dX4_change_8 : decode cX4_change 8 = .ok (.iload_n 2, 1) := by decide +kernel
theorem dX4_change_9 : decode cX4_change 9 = .ok (.bipush 99, 2) := by decide +kernel
theorem dX4_change_11 : decode cX4_change 11 = .ok (.if_icmp .le 13, 3) := by decide +kernel
theorem dX4_change_14 : decode cX4_change 14 = .ok (.new 38, 3) := by decide +kernel
theorem dX4_change_17 : decode cX4_change 17 = .ok (.dup, 1) := by decide +kernel
theorem dX4_change_18 : decode cX4_change 18 = .ok (.ldc 40, 2) := by decide +kernel
theorem dX4_change_20 : decode cX4_change 20 = .ok (.invokespecial 42, 3) := by decide +kernel
theorem dX4_change_23 : decode cX4_change 23 = .ok (.athrow, 1) := by decide +kernel
theorem dX4_change_24 : decode cX4_change 24 = .ok (.aload_n 0, 1) := by decide +kernel
theorem dX4_change_25 : decode cX4_change 25 = .ok (.getfield 10, 3) := by decide +kernel
theorem dX4_change_28 : decode cX4_change 28 = .ok (.getfield 45, 3) := by decide +kernel
theorem dX4_change_31 : decode cX4_change 31 = .ok (.sipush 300, 3) := by decide +kernel
theorem dX4_change_34 : decode cX4_change 34 = .ok (.if_icmp .lt 13, 3) := by decide +kernel
theorem dX4_change_37 : decode cX4_change 37 = .ok (.new 48, 3) := by decide +kernel
theorem dX4_change_40 : decode cX4_change 40 = .ok (.dup, 1) := by decide +kernel
theorem dX4_change_41 : decode cX4_change 41 = .ok (.ldc 50, 2) := by decide +kernel
theorem dX4_change_43 : decode cX4_change 43 = .ok (.invokespecial 52, 3) := by decide +kernel
theorem dX4_change_46 : decode cX4_change 46 = .ok (.athrow, 1) := by decide +kernel
theorem dX4_change_47 : decode cX4_change 47 = .ok (.aload_n 0, 1) := by decide +kernel
theorem dX4_change_48 : decode cX4_change 48 = .ok (.getfield 10, 3) := by decide +kernel
theorem dX4_change_51 : decode cX4_change 51 = .ok (.iload_n 1, 1) := by decide +kernel
theorem dX4_change_52 : decode cX4_change 52 = .ok (.invokevirtual 53, 3) := by decide +kernel
theorem dX4_change_55 : decode cX4_change 55 = .ok (.istore_n 3, 1) := by decide +kernel
theorem dX4_change_56 : decode cX4_change 56 = .ok (.aload_n 0, 1) := by decide +kernel
theorem dX4_change_57 : decode cX4_change 57 = .ok (.getfield 10, 3) := by decide +kernel
theorem dX4_change_60 : decode cX4_change 60 = .ok (.iload_n 1, 1) := by decide +kernel
theorem dX4_change_61 : decode cX4_change 61 = .ok (.iload_n 2, 1) := by decide +kernel
theorem dX4_change_62 : decode cX4_change 62 = .ok (.invokevirtual 57, 3) := by decide +kernel
theorem dX4_change_65 : decode cX4_change 65 = .ok (.iload_n 3, 1) := by decide +kernel
theorem dX4_change_66 : decode cX4_change 66 = .ok (.ireturn, 1) := by decide +kernel
theorem dX4_pass_0 : decode cX4_pass 0 = .ok (.iload_n 1, 1) := by decide +kernel
theorem dX4_pass_1 : decode cX4_pass 1 = .ok (.iconst 1, 1) := by decide +kernel
theorem dX4_pass_2 : decode cX4_pass 2 = .ok (.if_icmp .lt 9, 3) := by decide +kernel
theorem dX4_pass_5 : decode cX4_pass 5 = .ok (.iload_n 1, 1) := by decide +kernel
theorem dX4_pass_6 : decode cX4_pass 6 = .ok (.bipush 30, 2) := by decide +kernel
theorem dX4_pass_8 : decode cX4_pass 8 = .ok (.if_icmp .le 13, 3) := by decide +kernel
theorem dX4_pass_11 : decode cX4_pass 11 = .ok (.new 38, 3) := by decide +kernel
theorem dX4_pass_14 : decode cX4_pass 14 = .ok (.dup, 1) := by decide +kernel
theorem dX4_pass_15 : decode cX4_pass 15 = .ok (.ldc 61, 2) := by decide +kernel
theorem dX4_pass_17 : decode cX4_pass 17 = .ok (.invokespecial 42, 3) := by decide +kernel
theorem dX4_pass_20 : decode cX4_pass 20 = .ok (.athrow, 1) := by decide +kernel
theorem dX4_pass_21 : decode cX4_pass 21 = .ok (.aload_n 0, 1) := by decide +kernel
theorem dX4_pass_22 : decode cX4_pass 22 = .ok (.getfield 30, 3) := by decide +kernel
theorem dX4_pass_25 : decode cX4_pass 25 = .ok (.iload_n 1, 1) := by decide +kernel
theorem dX4_pass_26 : decode cX4_pass 26 = .ok (.iadd, 1) := by decide +kernel
theorem dX4_pass_27 : decode cX4_pass 27 = .ok (.sipush 360, 3) := by decide +kernel
theorem dX4_pass_30 : decode cX4_pass 30 = .ok (.if_icmp .le 13, 3) := by decide +kernel
theorem dX4_pass_33 : decode cX4_pass 33 = .ok (.new 48, 3) := by decide +kernel
theorem dX4_pass_36 : decode cX4_pass 36 = .ok (.dup, 1) := by decide +kernel
theorem dX4_pass_37 : decode cX4_pass 37 = .ok (.ldc 63, 2) := by decide +kernel
theorem dX4_pass_39 : decode cX4_pass 39 = .ok (.invokespecial 52, 3) := by decide +kernel
theorem dX4_pass_42 : decode cX4_pass 42 = .ok (.athrow, 1) := by decide +kernel
theorem dX4_pass_43 : decode cX4_pass 43 = .ok (.aload_n 0, 1) := by decide +kernel
theorem dX4_pass_44 : decode cX4_pass 44 = .ok (.dup, 1) := by decide +kernel
theorem dX4_pass_45 : decode cX4_pass 45 = .ok (.getfield 30, 3) := by decide +kernel
theorem dX4_pass_48 : decode cX4_pass 48 = .ok (.iload_n 1, 1) := by decide +kernel
theorem dX4_pass_49 : decode cX4_pass 49 = .ok (.iadd, 1) := by decide +kernel
theorem dX4_pass_50 : decode cX4_pass 50 = .ok (.putfield 30, 3) := by decide +kernel
theorem dX4_pass_53 : decode cX4_pass 53 = .ok (.aload_n 0, 1) := by decide +kernel
theorem dX4_pass_54 : decode cX4_pass 54 = .ok (.getfield 30, 3) := by decide +kernel
theorem dX4_pass_57 : decode cX4_pass 57 = .ok (.ireturn, 1) := by decide +kernel
set_option maxRecDepth 20000 in
theorem ggX4_full_X0_init : GoodIn wsX4_full wsX0_init := goodIn_r _ [11, 12, 13, 14, 15, 16, 17, 18, 19, 20, 48, 49, 50, 51, 52, 53, 54, 55, 56, 57, 58] (by decide +kernel) (by decide +kernel)
set_option maxRecDepth 20000 in
theorem gX4_full_X0_init : GoodIn wsX4_full (wsX0_init) := ggX4_full_X0_init
set_option maxRecDepth 20000 in
theorem ggX4_full_X1_keepAll : GoodIn wsX4_full wsX1_keepAll := goodIn_r _ [25, 26, 27, 28, 29, 6, 30, 16, 31, 59, 60, 61, 62, 48, 49, 50, 51, 52, 53, 54, 55, 56, 57, 58] (by decide +kernel) (by decide +kernel)
set_option maxRecDepth 20000 in
theorem gX4_full_X1_keepAll : GoodIn wsX4_full (wsV RX4 75 RX1 yX1_keepAll wsX1_keepAll) := goodIn_app (goodIn_of _ (by decide +kernel)) ggX4_full_X1_keepAll
set_option maxRecDepth 20000 in
theorem ggX4_full_X3_put : GoodIn wsX4_full wsX3_put := goodIn_r _ [36, 37, 38, 43, 44, 45, 46, 47] (by decide +kernel) (by decide +kernel)
set_option maxRecDepth 20000 in
theorem gX4_full_X3_put : GoodIn wsX4_full (wsV RX4 79 RX3 yX3_put wsX3_put) := goodIn_app (goodIn_of _ (by decide +kernel)) ggX4_full_X3_put
theorem dX4_full_0 : decode cX4_full 0 = .ok (.aload_n 0, 1) := by decide +kernel
theorem dX4_full_1 : decode cX4_full 1 = .ok (.getfield 19, 3) := by decide +kernel
theorem dX4_full_4 : decode cX4_full 4 = .ok (.getfield 65, 3) := by decide +kernel
theorem dX4_full_7 : decode cX4_full 7 = .ok (.bipush 60, 2) := by decide +kernel
theorem dX4_full_9 : decode cX4_full 9 = .ok (.if_icmp .lt 13, 3) := by decide +kernel
theorem dX4_full_12 : decode cX4_full 12 = .ok (.new 48, 3) := by decide +kernel
theorem dX4_full_15 : decode cX4_full 15 = .ok (.dup, 1) := by decide +kernel
theorem dX4_full_16 : decode cX4_full 16 = .ok (.ldc 68, 2) := by decide +kernel
theorem dX4_full_18 : decode cX4_full 18 = .ok (.invokespecial 52, 3) := by decide +kernel
theorem dX4_full_21 : decode cX4_full 21 = .ok (.athrow, 1) := by decide +kernel
theorem dX4_full_22 : decode cX4_full 22 = .ok (.new 70, 3) := by decide +kernel
theorem dX4_full_25 : decode cX4_full 25 = .ok (.dup, 1) := by decide +kernel
theorem dX4_full_26 : decode cX4_full 26 = .ok (.aload_n 0, 1) := by decide +kernel
theorem dX4_full_27 : decode cX4_full 27 = .ok (.getfield 19, 3) := by decide +kernel
theorem dX4_full_30 : decode cX4_full 30 = .ok (.getfield 65, 3) := by decide +kernel
theorem dX4_full_33 : decode cX4_full 33 = .ok (.aload_n 0, 1) := by decide +kernel
theorem dX4_full_34 : decode cX4_full 34 = .ok (.getfield 30, 3) := by decide +kernel
theorem dX4_full_37 : decode cX4_full 37 = .ok (.aconst_null, 1) := by decide +kernel
theorem dX4_full_38 : decode cX4_full 38 = .ok (.aload_n 0, 1) := by decide +kernel
theorem dX4_full_39 : decode cX4_full 39 = .ok (.getfield 10, 3) := by decide +kernel
theorem dX4_full_42 : decode cX4_full 42 = .ok (.getfield 45, 3) := by decide +kernel
theorem dX4_full_45 : decode cX4_full 45 = .ok (.invokespecial 72, 3) := by decide +kernel
theorem dX4_full_48 : decode cX4_full 48 = .ok (.astore_n 1, 1) := by decide +kernel
theorem dX4_full_49 : decode cX4_full 49 = .ok (.aload_n 0, 1) := by decide +kernel
theorem dX4_full_50 : decode cX4_full 50 = .ok (.getfield 10, 3) := by decide +kernel
theorem dX4_full_53 : decode cX4_full 53 = .ok (.aload_n 1, 1) := by decide +kernel
theorem dX4_full_54 : decode cX4_full 54 = .ok (.invokevirtual 75, 3) := by decide +kernel
theorem dX4_full_57 : decode cX4_full 57 = .ok (.aload_n 0, 1) := by decide +kernel
theorem dX4_full_58 : decode cX4_full 58 = .ok (.getfield 19, 3) := by decide +kernel
theorem dX4_full_61 : decode cX4_full 61 = .ok (.aload_n 1, 1) := by decide +kernel
theorem dX4_full_62 : decode cX4_full 62 = .ok (.invokevirtual 79, 3) := by decide +kernel
theorem dX4_full_65 : decode cX4_full 65 = .ok (.aload_n 1, 1) := by decide +kernel
theorem dX4_full_66 : decode cX4_full 66 = .ok (.getfield 82, 3) := by decide +kernel
theorem dX4_full_69 : decode cX4_full 69 = .ok (.ireturn, 1) := by decide +kernel
set_option maxRecDepth 20000 in
theorem ggX4_increment_X3_latest : GoodIn wsX4_increment wsX3_latest := goodIn_r _ [13, 14, 57, 58, 59, 60, 61] (by decide +kernel) (by decide +kernel)
set_option maxRecDepth 20000 in
theorem gX4_increment_X3_latest : GoodIn wsX4_increment (wsV RX4 85 RX3 yX3_latest wsX3_latest) := goodIn_app (goodIn_of _ (by decide +kernel)) ggX4_increment_X3_latest
set_option maxRecDepth 20000 in
theorem ggX4_increment_X0_init : GoodIn wsX4_increment wsX0_init := goodIn_r _ [17, 18, 19, 20, 21, 22, 23, 24, 25, 26, 62, 63, 64, 65, 66, 67, 68, 69, 70, 71, 72] (by decide +kernel) (by decide +kernel)
set_option maxRecDepth 20000 in
theorem gX4_increment_X0_init : GoodIn wsX4_increment (wsX0_init) := ggX4_increment_X0_init
set_option maxRecDepth 20000 in
theorem ggX4_increment_X1_keepChanged : GoodIn wsX4_increment wsX1_keepChanged := goodIn_r _ [31, 32, 33, 34, 35, 36, 37, 38, 39, 40, 30, 41, 42, 43, 44, 45, 6, 46, 22, 47, 73, 74, 75, 76, 62, 63, 64, 65, 66, 67, 68, 69, 70, 71, 72] (by decide +kernel) (by decide +kernel)
set_option maxRecDepth 20000 in
theorem gX4_increment_X1_keepChanged : GoodIn wsX4_increment (wsV RX4 94 RX1 yX1_keepChanged wsX1_keepChanged) := goodIn_app (goodIn_of _ (by decide +kernel)) ggX4_increment_X1_keepChanged
set_option maxRecDepth 20000 in
theorem ggX4_increment_X3_put : GoodIn wsX4_increment wsX3_put := goodIn_r _ [51, 52, 14, 57, 58, 59, 60, 61] (by decide +kernel) (by decide +kernel)
set_option maxRecDepth 20000 in
theorem gX4_increment_X3_put : GoodIn wsX4_increment (wsV RX4 79 RX3 yX3_put wsX3_put) := goodIn_app (goodIn_of _ (by decide +kernel)) ggX4_increment_X3_put
theorem dX4_increment_0 : decode cX4_increment 0 = .ok (.aload_n 0, 1) := by decide +kernel
theorem dX4_increment_1 : decode cX4_increment 1 = .ok (.getfield 19, 3) := by decide +kernel
theorem dX4_increment_4 : decode cX4_increment 4 = .ok (.invokevirtual 85, 3) := by decide +kernel
theorem dX4_increment_7 : decode cX4_increment 7 = .ok (.astore_n 1, 1) := by decide +kernel
theorem dX4_increment_8 : decode cX4_increment 8 = .ok (.aload_n 0, 1) := by decide +kernel
theorem dX4_increment_9 : decode cX4_increment 9 = .ok (.getfield 19, 3) := by decide +kernel
theorem dX4_increment_12 : decode cX4_increment 12 = .ok (.getfield 65, 3) := by decide +kernel
theorem dX4_increment_15 : decode cX4_increment 15 = .ok (.bipush 60, 2) := by decide +kernel
theorem dX4_increment_17 : decode cX4_increment 17 = .ok (.if_icmp .ge 7, 3) := by decide +kernel
theorem dX4_increment_20 : decode cX4_increment 20 = .ok (.aload_n 1, 1) := by decide +kernel
theorem dX4_increment_21 : decode cX4_increment 21 = .ok (.ifnonnull 13, 3) := by decide +kernel
theorem dX4_increment_24 : decode cX4_increment 24 = .ok (.new 48, 3) := by decide +kernel
theorem dX4_increment_27 : decode cX4_increment 27 = .ok (.dup, 1) := by decide +kernel
theorem dX4_increment_28 : decode cX4_increment 28 = .ok (.ldc 89, 2) := by decide +kernel
theorem dX4_increment_30 : decode cX4_increment 30 = .ok (.invokespecial 52, 3) := by decide +kernel
theorem dX4_increment_33 : decode cX4_increment 33 = .ok (.athrow, 1) := by decide +kernel
theorem dX4_increment_34 : decode cX4_increment 34 = .ok (.new 70, 3) := by decide +kernel
theorem dX4_increment_37 : decode cX4_increment 37 = .ok (.dup, 1) := by decide +kernel
theorem dX4_increment_38 : decode cX4_increment 38 = .ok (.aload_n 0, 1) := by decide +kernel
theorem dX4_increment_39 : decode cX4_increment 39 = .ok (.getfield 19, 3) := by decide +kernel
theorem dX4_increment_42 : decode cX4_increment 42 = .ok (.getfield 65, 3) := by decide +kernel
theorem dX4_increment_45 : decode cX4_increment 45 = .ok (.aload_n 0, 1) := by decide +kernel
theorem dX4_increment_46 : decode cX4_increment 46 = .ok (.getfield 30, 3) := by decide +kernel
theorem dX4_increment_49 : decode cX4_increment 49 = .ok (.aload_n 1, 1) := by decide +kernel
theorem dX4_increment_50 : decode cX4_increment 50 = .ok (.aload_n 0, 1) := by decide +kernel
theorem dX4_increment_51 : decode cX4_increment 51 = .ok (.getfield 10, 3) := by decide +kernel
theorem dX4_increment_54 : decode cX4_increment 54 = .ok (.getfield 45, 3) := by decide +kernel
theorem dX4_increment_57 : decode cX4_increment 57 = .ok (.invokespecial 72, 3) := by decide +kernel
theorem dX4_increment_60 : decode cX4_increment 60 = .ok (.astore_n 2, 1) := by decide +kernel
theorem dX4_increment_61 : decode cX4_increment 61 = .ok (.aload_n 0, 1) := by decide +kernel
theorem dX4_increment_62 : decode cX4_increment 62 = .ok (.getfield 10, 3) := by decide +kernel
theorem dX4_increment_65 : decode cX4_increment 65 = .ok (.aload_n 2, 1) := by decide +kernel
theorem dX4_increment_66 : decode cX4_increment 66 = .ok (.aload_n 1, 1) := by decide +kernel
theorem dX4_increment_67 : decode cX4_increment 67 = .ok (.getfield 91, 3) := by decide +kernel
theorem dX4_increment_70 : decode cX4_increment 70 = .ok (.invokevirtual 94, 3) := by decide +kernel
theorem dX4_increment_73 : decode cX4_increment 73 = .ok (.aload_n 0, 1) := by decide +kernel
theorem dX4_increment_74 : decode cX4_increment 74 = .ok (.getfield 19, 3) := by decide +kernel
theorem dX4_increment_77 : decode cX4_increment 77 = .ok (.aload_n 2, 1) := by decide +kernel
theorem dX4_increment_78 : decode cX4_increment 78 = .ok (.invokevirtual 79, 3) := by decide +kernel
theorem dX4_increment_81 : decode cX4_increment 81 = .ok (.aload_n 2, 1) := by decide +kernel
theorem dX4_increment_82 : decode cX4_increment 82 = .ok (.getfield 82, 3) := by decide +kernel
theorem dX4_increment_85 : decode cX4_increment 85 = .ok (.ireturn, 1) := by decide +kernel
set_option maxRecDepth 20000 in
theorem ggX4_damage_X4_requireCopy : GoodIn wsX4_damage wsX4_requireCopy := goodIn_ca (goodIn_r _ [6, 7, 8, 1, 9, 10, 11, 12, 13, 14, 58, 59, 60, 61, 62, 63, 64, 65, 66] (by decide +kernel) (by decide +kernel)) (goodIn_sub (fun _ h => List.mem_cons_of_mem _ (List.mem_append_right _ h)) (by decide +kernel))
set_option maxRecDepth 20000 in
theorem gX4_damage_X4_requireCopy : GoodIn wsX4_damage (wsV RX4 98 RX4 yX4_requireCopy wsX4_requireCopy) := goodIn_app (goodIn_of _ (by decide +kernel)) ggX4_damage_X4_requireCopy
set_option maxRecDepth 20000 in
theorem ggX4_damage_X3_countPromisedButDamaged : GoodIn wsX4_damage wsX3_countPromisedButDamaged := goodIn_r _ [18, 14, 19, 20, 21, 12, 22, 23, 24, 25, 26, 27, 28, 29, 30, 31, 32, 33, 34, 35, 36, 37, 38, 39, 40, 41, 42, 43, 44, 45, 46, 62, 63, 64, 65, 66, 47, 48, 49, 50, 51, 52, 53, 54, 55, 56, 57] (by decide +kernel) (by decide +kernel)
set_option maxRecDepth 20000 in
theorem gX4_damage_X3_countPromisedButDamaged : GoodIn wsX4_damage (wsV RX4 109 RX3 yX3_countPromisedButDamaged wsX3_countPromisedButDamaged) := goodIn_app (goodIn_of _ (by decide +kernel)) ggX4_damage_X3_countPromisedButDamaged
theorem dX4_damage_0 : decode cX4_damage 0 = .ok (.aload_n 0, 1) := by decide +kernel
theorem dX4_damage_1 : decode cX4_damage 1 = .ok (.iload_n 1, 1) := by decide +kernel
theorem dX4_damage_2 : decode cX4_damage 2 = .ok (.invokevirtual 98, 3) := by decide +kernel
theorem dX4_damage_5 : decode cX4_damage 5 = .ok (.astore_n 2, 1) := by decide +kernel
theorem dX4_damage_6 : decode cX4_damage 6 = .ok (.aload_n 2, 1) := by decide +kernel
theorem dX4_damage_7 : decode cX4_damage 7 = .ok (.iconst 1, 1) := by decide +kernel
theorem dX4_damage_8 : decode cX4_damage 8 = .ok (.putfield 102, 3) := by decide +kernel
theorem dX4_damage_11 : decode cX4_damage 11 = .ok (.aload_n 2, 1) := by decide +kernel
theorem dX4_damage_12 : decode cX4_damage 12 = .ok (.iconst 0, 1) := by decide +kernel
theorem dX4_damage_13 : decode cX4_damage 13 = .ok (.putfield 106, 3) := by decide +kernel
theorem dX4_damage_16 : decode cX4_damage 16 = .ok (.aload_n 0, 1) := by decide +kernel
theorem dX4_damage_17 : decode cX4_damage 17 = .ok (.getfield 19, 3) := by decide +kernel
theorem dX4_damage_20 : decode cX4_damage 20 = .ok (.invokevirtual 109, 3) := by decide +kernel
theorem dX4_damage_23 : decode cX4_damage 23 = .ok (.ireturn, 1) := by decide +kernel
set_option maxRecDepth 20000 in
theorem ggX4_drill_X4_requireCopy : GoodIn wsX4_drill wsX4_requireCopy := goodIn_ca (goodIn_r _ [5, 6, 7, 8, 9, 10, 11, 12, 13, 14, 31, 32, 33, 34, 35, 36, 37, 38, 39] (by decide +kernel) (by decide +kernel)) (goodIn_sub (fun _ h => List.mem_cons_of_mem _ (List.mem_append_right _ h)) (by decide +kernel))
set_option maxRecDepth 20000 in
theorem gX4_drill_X4_requireCopy : GoodIn wsX4_drill (wsV RX4 98 RX4 yX4_requireCopy wsX4_requireCopy) := goodIn_app (goodIn_of _ (by decide +kernel)) ggX4_drill_X4_requireCopy
set_option maxRecDepth 20000 in
theorem ggX4_drill_X0_hasDamagedChain : GoodIn wsX4_drill wsX0_hasDamagedChain := goodIn_r _ [19, 20, 21, 40, 41, 42, 43, 44, 45, 46, 47, 48, 49, 50] (by decide +kernel) (by decide +kernel)
set_option maxRecDepth 20000 in
theorem gX4_drill_X0_hasDamagedChain : GoodIn wsX4_drill (wsV RX4 113 RX0 yX0_hasDamagedChain wsX0_hasDamagedChain) := goodIn_app (goodIn_of _ (by decide +kernel)) ggX4_drill_X0_hasDamagedChain
set_option maxRecDepth 20000 in
theorem ggX4_drill_X0_proveChain : GoodIn wsX4_drill wsX0_proveChain := goodIn_r _ [25, 26, 21, 40, 41, 42, 43, 44, 45, 46, 47, 48, 49, 50] (by decide +kernel) (by decide +kernel)
set_option maxRecDepth 20000 in
theorem gX4_drill_X0_proveChain : GoodIn wsX4_drill (wsV RX4 117 RX0 yX0_proveChain wsX0_proveChain) := goodIn_app (goodIn_of _ (by decide +kernel)) ggX4_drill_X0_proveChain
set_option maxRecDepth 20000 in
theorem ggX4_drill_X0_chainLength : GoodIn wsX4_drill wsX0_chainLength := goodIn_r _ [30, 21, 40, 41, 42, 43, 44, 45, 46, 47, 48, 49, 50] (by decide +kernel) (by decide +kernel)
set_option maxRecDepth 20000 in
theorem gX4_drill_X0_chainLength : GoodIn wsX4_drill (wsV RX4 121 RX0 yX0_chainLength wsX0_chainLength) := goodIn_app (goodIn_of _ (by decide +kernel)) ggX4_drill_X0_chainLength
theorem dX4_drill_0 : decode cX4_drill 0 = .ok (.aload_n 0, 1) := by decide +kernel
theorem dX4_drill_1 : decode cX4_drill 1 = .ok (.iload_n 1, 1) := by decide +kernel
theorem dX4_drill_2 : decode cX4_drill 2 = .ok (.invokevirtual 98, 3) := by decide +kernel
theorem dX4_drill_5 : decode cX4_drill 5 = .ok (.astore_n 2, 1) := by decide +kernel
theorem dX4_drill_6 : decode cX4_drill 6 = .ok (.aload_n 2, 1) := by decide +kernel
theorem dX4_drill_7 : decode cX4_drill 7 = .ok (.invokevirtual 113, 3) := by decide +kernel
theorem dX4_drill_10 : decode cX4_drill 10 = .ok (.ifCond .ne 7, 3) := by decide +kernel
theorem dX4_drill_13 : decode cX4_drill 13 = .ok (.iconst 1, 1) := by decide +kernel
theorem dX4_drill_14 : decode cX4_drill 14 = .ok (.goto 4, 3) := by decide +kernel
theorem dX4_drill_17 : decode cX4_drill 17 = .ok (.iconst 0, 1) := by decide +kernel
theorem dX4_drill_18 : decode cX4_drill 18 = .ok (.istore_n 3, 1) := by decide +kernel
theorem dX4_drill_19 : decode cX4_drill 19 = .ok (.aload_n 2, 1) := by decide +kernel
theorem dX4_drill_20 : decode cX4_drill 20 = .ok (.iload_n 3, 1) := by decide +kernel
theorem dX4_drill_21 : decode cX4_drill 21 = .ok (.invokevirtual 117, 3) := by decide +kernel
theorem dX4_drill_24 : decode cX4_drill 24 = .ok (.iload_n 3, 1) := by decide +kernel
theorem dX4_drill_25 : decode cX4_drill 25 = .ok (.ifCond .eq 10, 3) := by decide +kernel
theorem dX4_drill_28 : decode cX4_drill 28 = .ok (.aload_n 2, 1) := by decide +kernel
theorem dX4_drill_29 : decode cX4_drill 29 = .ok (.invokevirtual 121, 3) := by decide +kernel
theorem dX4_drill_32 : decode cX4_drill 32 = .ok (.goto 4, 3) := by decide +kernel
theorem dX4_drill_35 : decode cX4_drill 35 = .ok (.iconst (-1), 1) := by decide +kernel
theorem dX4_drill_36 : decode cX4_drill 36 = .ok (.ireturn, 1) := by decide +kernel
set_option maxRecDepth 20000 in
theorem ggX4_setRules_X3_countPromised : GoodIn wsX4_setRules wsX3_countPromised := goodIn_r _ [8, 9, 10, 11, 12, 7, 13, 14, 15, 16, 17, 18, 19, 20, 21, 22, 23, 24, 25, 26, 27, 28, 29, 30, 31, 32, 37, 38, 39, 40, 41, 42, 43, 44, 45, 46, 47, 48, 49, 50, 51, 52] (by decide +kernel) (by decide +kernel)
set_option maxRecDepth 20000 in
theorem gX4_setRules_X3_countPromised : GoodIn wsX4_setRules (wsV RX4 137 RX3 yX3_countPromised wsX3_countPromised) := goodIn_app (goodIn_of _ (by decide +kernel)) ggX4_setRules_X3_countPromised
theorem dX4_setRules_0 : decode cX4_setRules 0 = .ok (.iload_n 1, 1) := by decide +kernel
theorem dX4_setRules_1 : decode cX4_setRules 1 = .ok (.ifCond .lt 9, 3) := by decide +kernel
theorem dX4_setRules_4 : decode cX4_setRules 4 = .ok (.iload_n 1, 1) := by decide +kernel
theorem dX4_setRules_5 : decode cX4_setRules 5 = .ok (.bipush 30, 2) := by decide +kernel
theorem dX4_setRules_7 : decode cX4_setRules 7 = .ok (.if_icmp .le 13, 3) := by decide +kernel
theorem dX4_setRules_10 : decode cX4_setRules 10 = .ok (.new 38, 3) := by decide +kernel
theorem dX4_setRules_13 : decode cX4_setRules 13 = .ok (.dup, 1) := by decide +kernel
theorem dX4_setRules_14 : decode cX4_setRules 14 = .ok (.ldc 61, 2) := by decide +kernel
theorem dX4_setRules_16 : decode cX4_setRules 16 = .ok (.invokespecial 42, 3) := by decide +kernel
theorem dX4_setRules_19 : decode cX4_setRules 19 = .ok (.athrow, 1) := by decide +kernel
theorem dX4_setRules_20 : decode cX4_setRules 20 = .ok (.iload_n 2, 1) := by decide +kernel
theorem dX4_setRules_21 : decode cX4_setRules 21 = .ok (.ifCond .lt 9, 3) := by decide +kernel
theorem dX4_setRules_24 : decode cX4_setRules 24 = .ok (.iload_n 2, 1) := by decide +kernel
theorem dX4_setRules_25 : decode cX4_setRules 25 = .ok (.bipush 20, 2) := by decide +kernel
theorem dX4_setRules_27 : decode cX4_setRules 27 = .ok (.if_icmp .le 13, 3) := by decide +kernel
theorem dX4_setRules_30 : decode cX4_setRules 30 = .ok (.new 38, 3) := by decide +kernel
theorem dX4_setRules_33 : decode cX4_setRules 33 = .ok (.dup, 1) := by decide +kernel
theorem dX4_setRules_34 : decode cX4_setRules 34 = .ok (.ldc 124, 2) := by decide +kernel
theorem dX4_setRules_36 : decode cX4_setRules 36 = .ok (.invokespecial 42, 3) := by decide +kernel
theorem dX4_setRules_39 : decode cX4_setRules 39 = .ok (.athrow, 1) := by decide +kernel
theorem dX4_setRules_40 : decode cX4_setRules 40 = .ok (.iload_n 3, 1) := by decide +kernel
theorem dX4_setRules_41 : decode cX4_setRules 41 = .ok (.ifCond .lt 9, 3) := by decide +kernel
theorem dX4_setRules_44 : decode cX4_setRules 44 = .ok (.iload_n 3, 1) := by decide +kernel
theorem dX4_setRules_45 : decode cX4_setRules 45 = .ok (.bipush 12, 2) := by decide +kernel
theorem dX4_setRules_47 : decode cX4_setRules 47 = .ok (.if_icmp .le 13, 3) := by decide +kernel
theorem dX4_setRules_50 : decode cX4_setRules 50 = .ok (.new 38, 3) := by decide +kernel
theorem dX4_setRules_53 : decode cX4_setRules 53 = .ok (.dup, 1) := by decide +kernel
theorem dX4_setRules_54 : decode cX4_setRules 54 = .ok (.ldc 126, 2) := by decide +kernel
theorem dX4_setRules_56 : decode cX4_setRules 56 = .ok (.invokespecial 42, 3) := by decide +kernel
theorem dX4_setRules_59 : decode cX4_setRules 59 = .ok (.athrow, 1) := by decide +kernel
theorem dX4_setRules_60 : decode cX4_setRules 60 = .ok (.aload_n 0, 1) := by decide +kernel
theorem dX4_setRules_61 : decode cX4_setRules 61 = .ok (.getfield 19, 3) := by decide +kernel
theorem dX4_setRules_64 : decode cX4_setRules 64 = .ok (.iload_n 1, 1) := by decide +kernel
theorem dX4_setRules_65 : decode cX4_setRules 65 = .ok (.putfield 128, 3) := by decide +kernel
theorem dX4_setRules_68 : decode cX4_setRules 68 = .ok (.aload_n 0, 1) := by decide +kernel
theorem dX4_setRules_69 : decode cX4_setRules 69 = .ok (.getfield 19, 3) := by decide +kernel
theorem dX4_setRules_72 : decode cX4_setRules 72 = .ok (.iload_n 2, 1) := by decide +kernel
theorem dX4_setRules_73 : decode cX4_setRules 73 = .ok (.putfield 131, 3) := by decide +kernel
theorem dX4_setRules_76 : decode cX4_setRules 76 = .ok (.aload_n 0, 1) := by decide +kernel
theorem dX4_setRules_77 : decode cX4_setRules 77 = .ok (.getfield 19, 3) := by decide +kernel
theorem dX4_setRules_80 : decode cX4_setRules 80 = .ok (.iload_n 3, 1) := by decide +kernel
theorem dX4_setRules_81 : decode cX4_setRules 81 = .ok (.putfield 134, 3) := by decide +kernel
theorem dX4_setRules_84 : decode cX4_setRules 84 = .ok (.aload_n 0, 1) := by decide +kernel
theorem dX4_setRules_85 : decode cX4_setRules 85 = .ok (.getfield 19, 3) := by decide +kernel
theorem dX4_setRules_88 : decode cX4_setRules 88 = .ok (.invokevirtual 137, 3) := by decide +kernel
theorem dX4_setRules_91 : decode cX4_setRules 91 = .ok (.ireturn, 1) := by decide +kernel
set_option maxRecDepth 20000 in
theorem ggX4_thin_X3_takeOffLoose : GoodIn wsX4_thin wsX3_takeOffLoose := goodIn_r _ [6, 7, 8, 9, 10, 5, 11, 12, 13, 14, 15, 16, 17, 18, 19, 20, 21, 22, 23, 24, 25, 26, 27, 28, 29, 30, 31, 32, 33, 34, 35, 36, 37, 38, 39, 40, 41, 42, 43, 44, 45, 46, 47, 52, 53, 54, 55, 56, 57, 58, 59, 60, 61, 62, 63, 64, 65, 66, 67] (by decide +kernel) (by decide +kernel)
set_option maxRecDepth 20000 in
theorem gX4_thin_X3_takeOffLoose : GoodIn wsX4_thin (wsV RX4 140 RX3 yX3_takeOffLoose wsX3_takeOffLoose) := goodIn_app (goodIn_of _ (by decide +kernel)) ggX4_thin_X3_takeOffLoose
theorem dX4_thin_0 : decode cX4_thin 0 = .ok (.aload_n 0, 1) := by decide +kernel
theorem dX4_thin_1 : decode cX4_thin 1 = .ok (.getfield 19, 3) := by decide +kernel
theorem dX4_thin_4 : decode cX4_thin 4 = .ok (.invokevirtual 140, 3) := by decide +kernel
theorem dX4_thin_7 : decode cX4_thin 7 = .ok (.ireturn, 1) := by decide +kernel
theorem dX4_day_0 : decode cX4_day 0 = .ok (.aload_n 0, 1) := by decide +kernel
theorem dX4_day_1 : decode cX4_day 1 = .ok (.getfield 30, 3) := by decide +kernel
theorem dX4_day_4 : decode cX4_day 4 = .ok (.ireturn, 1) := by decide +kernel
set_option maxRecDepth 20000 in
theorem ggX4_copies_X3_countThere : GoodIn wsX4_copies wsX3_countThere := goodIn_r _ [6, 7, 12, 13, 14, 15, 16] (by decide +kernel) (by decide +kernel)
set_option maxRecDepth 20000 in
theorem gX4_copies_X3_countThere : GoodIn wsX4_copies (wsV RX4 143 RX3 yX3_countThere wsX3_countThere) := goodIn_app (goodIn_of _ (by decide +kernel)) ggX4_copies_X3_countThere
theorem dX4_copies_0 : decode cX4_copies 0 = .ok (.aload_n 0, 1) := by decide +kernel
theorem dX4_copies_1 : decode cX4_copies 1 = .ok (.getfield 19, 3) := by decide +kernel
theorem dX4_copies_4 : decode cX4_copies 4 = .ok (.invokevirtual 143, 3) := by decide +kernel
theorem dX4_copies_7 : decode cX4_copies 7 = .ok (.ireturn, 1) := by decide +kernel
set_option maxRecDepth 20000 in
theorem ggX4_space_X3_spaceTaken : GoodIn wsX4_space wsX3_spaceTaken := goodIn_r _ [6, 7, 8, 9, 10, 11, 12, 13, 18, 19, 20, 21, 22, 23, 24, 25, 26, 27, 28, 29, 30, 31, 32, 33] (by decide +kernel) (by decide +kernel)
set_option maxRecDepth 20000 in
theorem gX4_space_X3_spaceTaken : GoodIn wsX4_space (wsV RX4 146 RX3 yX3_spaceTaken wsX3_spaceTaken) := goodIn_app (goodIn_of _ (by decide +kernel)) ggX4_space_X3_spaceTaken
theorem dX4_space_0 : decode cX4_space 0 = .ok (.aload_n 0, 1) := by decide +kernel
theorem dX4_space_1 : decode cX4_space 1 = .ok (.getfield 19, 3) := by decide +kernel
theorem dX4_space_4 : decode cX4_space 4 = .ok (.invokevirtual 146, 3) := by decide +kernel
theorem dX4_space_7 : decode cX4_space 7 = .ok (.ireturn, 1) := by decide +kernel
set_option maxRecDepth 20000 in
theorem ggX4_dayOf_X4_requireCopy : GoodIn wsX4_dayOf wsX4_requireCopy := goodIn_ca (goodIn_r _ [5, 6, 7, 8, 9, 10, 11, 12, 13, 14, 26, 27, 28, 29, 30, 31, 32, 33, 34] (by decide +kernel) (by decide +kernel)) (goodIn_sub (fun _ h => List.mem_cons_of_mem _ (List.mem_append_right _ h)) (by decide +kernel))
set_option maxRecDepth 20000 in
theorem gX4_dayOf_X4_requireCopy : GoodIn wsX4_dayOf (wsV RX4 98 RX4 yX4_requireCopy wsX4_requireCopy) := goodIn_app (goodIn_of _ (by decide +kernel)) ggX4_dayOf_X4_requireCopy
theorem dX4_dayOf_0 : decode cX4_dayOf 0 = .ok (.aload_n 0, 1) := by decide +kernel
theorem dX4_dayOf_1 : decode cX4_dayOf 1 = .ok (.iload_n 1, 1) := by decide +kernel
theorem dX4_dayOf_2 : decode cX4_dayOf 2 = .ok (.invokevirtual 98, 3) := by decide +kernel
theorem dX4_dayOf_5 : decode cX4_dayOf 5 = .ok (.getfield 149, 3) := by decide +kernel
theorem dX4_dayOf_8 : decode cX4_dayOf 8 = .ok (.ireturn, 1) := by decide +kernel
set_option maxRecDepth 20000 in
theorem ggX4_baseOf_X4_requireCopy : GoodIn wsX4_baseOf wsX4_requireCopy := goodIn_ca (goodIn_r _ [5, 6, 7, 8, 9, 10, 11, 12, 13, 14, 26, 27, 28, 29, 30, 31, 32, 33, 34] (by decide +kernel) (by decide +kernel)) (goodIn_sub (fun _ h => List.mem_cons_of_mem _ (List.mem_append_right _ h)) (by decide +kernel))
set_option maxRecDepth 20000 in
theorem gX4_baseOf_X4_requireCopy : GoodIn wsX4_baseOf (wsV RX4 98 RX4 yX4_requireCopy wsX4_requireCopy) := goodIn_app (goodIn_of _ (by decide +kernel)) ggX4_baseOf_X4_requireCopy
theorem dX4_baseOf_0 : decode cX4_baseOf 0 = .ok (.aload_n 0, 1) := by decide +kernel
theorem dX4_baseOf_1 : decode cX4_baseOf 1 = .ok (.iload_n 1, 1) := by decide +kernel
theorem dX4_baseOf_2 : decode cX4_baseOf 2 = .ok (.invokevirtual 98, 3) := by decide +kernel
theorem dX4_baseOf_5 : decode cX4_baseOf 5 = .ok (.getfield 152, 3) := by decide +kernel
theorem dX4_baseOf_8 : decode cX4_baseOf 8 = .ok (.astore_n 2, 1) := by decide +kernel
theorem dX4_baseOf_9 : decode cX4_baseOf 9 = .ok (.aload_n 2, 1) := by decide +kernel
theorem dX4_baseOf_10 : decode cX4_baseOf 10 = .ok (.ifnonnull 7, 3) := by decide +kernel
theorem dX4_baseOf_13 : decode cX4_baseOf 13 = .ok (.iconst (-1), 1) := by decide +kernel
theorem dX4_baseOf_14 : decode cX4_baseOf 14 = .ok (.goto 7, 3) := by decide +kernel
theorem dX4_baseOf_17 : decode cX4_baseOf 17 = .ok (.aload_n 2, 1) := by decide +kernel
theorem dX4_baseOf_18 : decode cX4_baseOf 18 = .ok (.getfield 82, 3) := by decide +kernel
theorem dX4_baseOf_21 : decode cX4_baseOf 21 = .ok (.ireturn, 1) := by decide +kernel
set_option maxRecDepth 20000 in
theorem ggX4_keeps_X4_requireCopy : GoodIn wsX4_keeps wsX4_requireCopy := goodIn_ca (goodIn_r _ [5, 6, 7, 8, 9, 10, 11, 12, 13, 14, 26, 27, 28, 29, 30, 31, 32, 33, 34] (by decide +kernel) (by decide +kernel)) (goodIn_sub (fun _ h => List.mem_cons_of_mem _ (List.mem_append_right _ h)) (by decide +kernel))
set_option maxRecDepth 20000 in
theorem gX4_keeps_X4_requireCopy : GoodIn wsX4_keeps (wsV RX4 98 RX4 yX4_requireCopy wsX4_requireCopy) := goodIn_app (goodIn_of _ (by decide +kernel)) ggX4_keeps_X4_requireCopy
theorem dX4_keeps_0 : decode cX4_keeps 0 = .ok (.aload_n 0, 1) := by decide +kernel
theorem dX4_keeps_1 : decode cX4_keeps 1 = .ok (.iload_n 1, 1) := by decide +kernel
theorem dX4_keeps_2 : decode cX4_keeps 2 = .ok (.invokevirtual 98, 3) := by decide +kernel
theorem dX4_keeps_5 : decode cX4_keeps 5 = .ok (.getfield 156, 3) := by decide +kernel
theorem dX4_keeps_8 : decode cX4_keeps 8 = .ok (.ireturn, 1) := by decide +kernel
set_option maxRecDepth 20000 in
theorem ggX4_isPromised_X4_requireCopy : GoodIn wsX4_isPromised wsX4_requireCopy := goodIn_ca (goodIn_r _ [6, 7, 8, 1, 9, 10, 11, 12, 13, 14, 38, 39, 40, 41, 53, 54, 55, 56, 57] (by decide +kernel) (by decide +kernel)) (goodIn_sub (fun _ h => List.mem_cons_of_mem _ (List.mem_append_right _ h)) (by decide +kernel))
set_option maxRecDepth 20000 in
theorem gX4_isPromised_X4_requireCopy : GoodIn wsX4_isPromised (wsV RX4 98 RX4 yX4_requireCopy wsX4_requireCopy) := goodIn_app (goodIn_of _ (by decide +kernel)) ggX4_isPromised_X4_requireCopy
set_option maxRecDepth 20000 in
theorem ggX4_isPromised_X3_markGenerations : GoodIn wsX4_isPromised wsX3_markGenerations := goodIn_r _ [18, 14, 19, 20, 21, 22, 23, 24, 12, 25, 26, 27, 28, 29, 30, 31, 32, 33, 34, 35, 36, 37, 53, 54, 55, 56, 57, 42, 43, 44, 45, 46, 47, 48, 49, 50, 51, 52] (by decide +kernel) (by decide +kernel)
set_option maxRecDepth 20000 in
theorem gX4_isPromised_X3_markGenerations : GoodIn wsX4_isPromised (wsV RX4 159 RX3 yX3_markGenerations wsX3_markGenerations) := goodIn_app (goodIn_of _ (by decide +kernel)) ggX4_isPromised_X3_markGenerations
theorem dX4_isPromised_0 : decode cX4_isPromised 0 = .ok (.aload_n 0, 1) := by decide +kernel
theorem dX4_isPromised_1 : decode cX4_isPromised 1 = .ok (.iload_n 1, 1) := by decide +kernel
theorem dX4_isPromised_2 : decode cX4_isPromised 2 = .ok (.invokevirtual 98, 3) := by decide +kernel
theorem dX4_isPromised_5 : decode cX4_isPromised 5 = .ok (.astore_n 2, 1) := by decide +kernel
theorem dX4_isPromised_6 : decode cX4_isPromised 6 = .ok (.aload_n 0, 1) := by decide +kernel
theorem dX4_isPromised_7 : decode cX4_isPromised 7 = .ok (.getfield 19, 3) := by decide +kernel
theorem dX4_isPromised_10 : decode cX4_isPromised 10 = .ok (.invokevirtual 159, 3) := by decide +kernel
theorem dX4_isPromised_13 : decode cX4_isPromised 13 = .ok (.aload_n 2, 1) := by decide +kernel
theorem dX4_isPromised_14 : decode cX4_isPromised 14 = .ok (.getfield 162, 3) := by decide +kernel
theorem dX4_isPromised_17 : decode cX4_isPromised 17 = .ok (.ireturn, 1) := by decide +kernel
set_option maxRecDepth 20000 in
theorem ggX4_isNeeded_X4_requireCopy : GoodIn wsX4_isNeeded wsX4_requireCopy := goodIn_ca (goodIn_r _ [6, 7, 8, 1, 9, 10, 11, 12, 13, 14, 38, 39, 40, 41, 53, 54, 55, 56, 57] (by decide +kernel) (by decide +kernel)) (goodIn_sub (fun _ h => List.mem_cons_of_mem _ (List.mem_append_right _ h)) (by decide +kernel))
set_option maxRecDepth 20000 in
theorem gX4_isNeeded_X4_requireCopy : GoodIn wsX4_isNeeded (wsV RX4 98 RX4 yX4_requireCopy wsX4_requireCopy) := goodIn_app (goodIn_of _ (by decide +kernel)) ggX4_isNeeded_X4_requireCopy
set_option maxRecDepth 20000 in
theorem ggX4_isNeeded_X3_markGenerations : GoodIn wsX4_isNeeded wsX3_markGenerations := goodIn_r _ [18, 14, 19, 20, 21, 22, 23, 24, 12, 25, 26, 27, 28, 29, 30, 31, 32, 33, 34, 35, 36, 37, 53, 54, 55, 56, 57, 42, 43, 44, 45, 46, 47, 48, 49, 50, 51, 52] (by decide +kernel) (by decide +kernel)
set_option maxRecDepth 20000 in
theorem gX4_isNeeded_X3_markGenerations : GoodIn wsX4_isNeeded (wsV RX4 159 RX3 yX3_markGenerations wsX3_markGenerations) := goodIn_app (goodIn_of _ (by decide +kernel)) ggX4_isNeeded_X3_markGenerations
theorem dX4_isNeeded_0 : decode cX4_isNeeded 0 = .ok (.aload_n 0, 1) := by decide +kernel
theorem dX4_isNeeded_1 : decode cX4_isNeeded 1 = .ok (.iload_n 1, 1) := by decide +kernel
theorem dX4_isNeeded_2 : decode cX4_isNeeded 2 = .ok (.invokevirtual 98, 3) := by decide +kernel
theorem dX4_isNeeded_5 : decode cX4_isNeeded 5 = .ok (.astore_n 2, 1) := by decide +kernel
theorem dX4_isNeeded_6 : decode cX4_isNeeded 6 = .ok (.aload_n 0, 1) := by decide +kernel
theorem dX4_isNeeded_7 : decode cX4_isNeeded 7 = .ok (.getfield 19, 3) := by decide +kernel
theorem dX4_isNeeded_10 : decode cX4_isNeeded 10 = .ok (.invokevirtual 159, 3) := by decide +kernel
theorem dX4_isNeeded_13 : decode cX4_isNeeded 13 = .ok (.aload_n 2, 1) := by decide +kernel
theorem dX4_isNeeded_14 : decode cX4_isNeeded 14 = .ok (.getfield 165, 3) := by decide +kernel
theorem dX4_isNeeded_17 : decode cX4_isNeeded 17 = .ok (.ireturn, 1) := by decide +kernel
set_option maxRecDepth 20000 in
theorem ggX4_isProved_X4_requireCopy : GoodIn wsX4_isProved wsX4_requireCopy := goodIn_ca (goodIn_r _ [5, 6, 7, 8, 9, 10, 11, 12, 13, 14, 26, 27, 28, 29, 30, 31, 32, 33, 34] (by decide +kernel) (by decide +kernel)) (goodIn_sub (fun _ h => List.mem_cons_of_mem _ (List.mem_append_right _ h)) (by decide +kernel))
set_option maxRecDepth 20000 in
theorem gX4_isProved_X4_requireCopy : GoodIn wsX4_isProved (wsV RX4 98 RX4 yX4_requireCopy wsX4_requireCopy) := goodIn_app (goodIn_of _ (by decide +kernel)) ggX4_isProved_X4_requireCopy
theorem dX4_isProved_0 : decode cX4_isProved 0 = .ok (.aload_n 0, 1) := by decide +kernel
theorem dX4_isProved_1 : decode cX4_isProved 1 = .ok (.iload_n 1, 1) := by decide +kernel
theorem dX4_isProved_2 : decode cX4_isProved 2 = .ok (.invokevirtual 98, 3) := by decide +kernel
theorem dX4_isProved_5 : decode cX4_isProved 5 = .ok (.getfield 106, 3) := by decide +kernel
theorem dX4_isProved_8 : decode cX4_isProved 8 = .ok (.ireturn, 1) := by decide +kernel
set_option maxRecDepth 20000 in
theorem ggX4_restore_X4_requireCopy : GoodIn wsX4_restore wsX4_requireCopy := goodIn_ca (goodIn_r _ [5, 6, 7, 8, 9, 10, 11, 12, 13, 14, 25, 26, 27, 28, 29, 30, 31, 32, 33] (by decide +kernel) (by decide +kernel)) (goodIn_sub (fun _ h => List.mem_cons_of_mem _ (List.mem_append_right _ h)) (by decide +kernel))
set_option maxRecDepth 20000 in
theorem gX4_restore_X4_requireCopy : GoodIn wsX4_restore (wsV RX4 98 RX4 yX4_requireCopy wsX4_requireCopy) := goodIn_app (goodIn_of _ (by decide +kernel)) ggX4_restore_X4_requireCopy
set_option maxRecDepth 20000 in
theorem ggX4_restore_X4_requireFile : GoodIn wsX4_restore wsX4_requireFile := goodIn_ca (goodIn_r _ [17, 6, 7] (by decide +kernel) (by decide +kernel)) (goodIn_sub (fun _ h => List.mem_cons_of_mem _ (List.mem_append_right _ h)) (by decide +kernel))
set_option maxRecDepth 20000 in
theorem gX4_restore_X4_requireFile : GoodIn wsX4_restore (va_wsS RX4 34 yX4_requireFile wsX4_requireFile) := goodIn_app (goodIn_of _ (by decide +kernel)) ggX4_restore_X4_requireFile
set_option maxRecDepth 20000 in
theorem ggX4_restore_X0_contentByChain : GoodIn wsX4_restore wsX0_contentByChain := goodIn_r _ [22, 23, 24, 34, 35, 36, 37, 38, 39, 40, 41, 42, 43, 44] (by decide +kernel) (by decide +kernel)
set_option maxRecDepth 20000 in
theorem gX4_restore_X0_contentByChain : GoodIn wsX4_restore (wsV RX4 168 RX0 yX0_contentByChain wsX0_contentByChain) := goodIn_app (goodIn_of _ (by decide +kernel)) ggX4_restore_X0_contentByChain
theorem dX4_restore_0 : decode cX4_restore 0 = .ok (.aload_n 0, 1) := by decide +kernel
theorem dX4_restore_1 : decode cX4_restore 1 = .ok (.iload_n 1, 1) := by decide +kernel
theorem dX4_restore_2 : decode cX4_restore 2 = .ok (.invokevirtual 98, 3) := by decide +kernel
theorem dX4_restore_5 : decode cX4_restore 5 = .ok (.astore_n 3, 1) := by decide +kernel
theorem dX4_restore_6 : decode cX4_restore 6 = .ok (.iload_n 2, 1) := by decide +kernel
theorem dX4_restore_7 : decode cX4_restore 7 = .ok (.invokestatic 34, 3) := by decide +kernel
theorem dX4_restore_10 : decode cX4_restore 10 = .ok (.aload_n 3, 1) := by decide +kernel
theorem dX4_restore_11 : decode cX4_restore 11 = .ok (.iload_n 2, 1) := by decide +kernel
theorem dX4_restore_12 : decode cX4_restore 12 = .ok (.invokevirtual 168, 3) := by decide +kernel
theorem dX4_restore_15 : decode cX4_restore 15 = .ok (.ireturn, 1) := by decide +kernel
set_option maxRecDepth 20000 in
theorem ggX4_restoreByChanges_X4_requireCopy : GoodIn wsX4_restoreByChanges wsX4_requireCopy := goodIn_ca (goodIn_r _ [6, 7, 8, 9, 10, 11, 12, 13, 14, 15, 26, 27, 28, 29, 41, 42, 43, 44, 45] (by decide +kernel) (by decide +kernel)) (goodIn_sub (fun _ h => List.mem_cons_of_mem _ (List.mem_append_right _ h)) (by decide +kernel))
set_option maxRecDepth 20000 in
theorem gX4_restoreByChanges_X4_requireCopy : GoodIn wsX4_restoreByChanges (wsV RX4 98 RX4 yX4_requireCopy wsX4_requireCopy) := goodIn_app (goodIn_of _ (by decide +kernel)) ggX4_restoreByChanges_X4_requireCopy
set_option maxRecDepth 20000 in
theorem ggX4_restoreByChanges_X4_requireFile : GoodIn wsX4_restoreByChanges wsX4_requireFile := goodIn_ca (goodIn_r _ [18, 7, 8] (by decide +kernel) (by decide +kernel)) (goodIn_sub (fun _ h => List.mem_cons_of_mem _ (List.mem_append_right _ h)) (by decide +kernel))
set_option maxRecDepth 20000 in
theorem gX4_restoreByChanges_X4_requireFile : GoodIn wsX4_restoreByChanges (va_wsS RX4 34 yX4_requireFile wsX4_requireFile) := goodIn_app (goodIn_of _ (by decide +kernel)) ggX4_restoreByChanges_X4_requireFile
set_option maxRecDepth 20000 in
theorem ggX4_restoreByChanges_X1_contentAfter : GoodIn wsX4_restoreByChanges wsX1_contentAfter := goodIn_r _ [23, 24, 25, 46, 47, 48, 49] (by decide +kernel) (by decide +kernel)
set_option maxRecDepth 20000 in
theorem gX4_restoreByChanges_X1_contentAfter : GoodIn wsX4_restoreByChanges (wsV RX4 171 RX1 yX1_contentAfter wsX1_contentAfter) := goodIn_app (goodIn_of _ (by decide +kernel)) ggX4_restoreByChanges_X1_contentAfter
theorem dX4_restoreByChanges_0 : decode cX4_restoreByChanges 0 = .ok (.aload_n 0, 1) := by decide +kernel
theorem dX4_restoreByChanges_1 : decode cX4_restoreByChanges 1 = .ok (.iload_n 1, 1) := by decide +kernel
theorem dX4_restoreByChanges_2 : decode cX4_restoreByChanges 2 = .ok (.invokevirtual 98, 3) := by decide +kernel
theorem dX4_restoreByChanges_5 : decode cX4_restoreByChanges 5 = .ok (.astore_n 3, 1) := by decide +kernel
theorem dX4_restoreByChanges_6 : decode cX4_restoreByChanges 6 = .ok (.iload_n 2, 1) := by decide +kernel
theorem dX4_restoreByChanges_7 : decode cX4_restoreByChanges 7 = .ok (.invokestatic 34, 3) := by decide +kernel
theorem dX4_restoreByChanges_10 : decode cX4_restoreByChanges 10 = .ok (.aload_n 0, 1) := by decide +kernel
theorem dX4_restoreByChanges_11 : decode cX4_restoreByChanges 11 = .ok (.getfield 10, 3) := by decide +kernel
theorem dX4_restoreByChanges_14 : decode cX4_restoreByChanges 14 = .ok (.aload_n 3, 1) := by decide +kernel
theorem dX4_restoreByChanges_15 : decode cX4_restoreByChanges 15 = .ok (.getfield 91, 3) := by decide +kernel
theorem dX4_restoreByChanges_18 : decode cX4_restoreByChanges 18 = .ok (.iload_n 2, 1) := by decide +kernel
theorem dX4_restoreByChanges_19 : decode cX4_restoreByChanges 19 = .ok (.invokevirtual 171, 3) := by decide +kernel
theorem dX4_restoreByChanges_22 : decode cX4_restoreByChanges 22 = .ok (.ireturn, 1) := by decide +kernel
set_option maxRecDepth 20000 in
theorem ggX4_onCall_X2_personOn : GoodIn wsX4_onCall wsX2_personOn := goodIn_r _ [8, 9, 14] (by decide +kernel) (by decide +kernel)
set_option maxRecDepth 20000 in
theorem gX4_onCall_X2_personOn : GoodIn wsX4_onCall (wsV RX4 177 RX2 yX2_personOn wsX2_personOn) := goodIn_app (goodIn_of _ (by decide +kernel)) ggX4_onCall_X2_personOn
theorem dX4_onCall_0 : decode cX4_onCall 0 = .ok (.iload_n 1, 1) := by decide +kernel
theorem dX4_onCall_1 : decode cX4_onCall 1 = .ok (.ifCond .lt 10, 3) := by decide +kernel
theorem dX4_onCall_4 : decode cX4_onCall 4 = .ok (.iload_n 1, 1) := by decide +kernel
theorem dX4_onCall_5 : decode cX4_onCall 5 = .ok (.sipush 364, 3) := by decide +kernel
theorem dX4_onCall_8 : decode cX4_onCall 8 = .ok (.if_icmp .le 13, 3) := by decide +kernel
theorem dX4_onCall_11 : decode cX4_onCall 11 = .ok (.new 38, 3) := by decide +kernel
theorem dX4_onCall_14 : decode cX4_onCall 14 = .ok (.dup, 1) := by decide +kernel
theorem dX4_onCall_15 : decode cX4_onCall 15 = .ok (.ldc 175, 2) := by decide +kernel
theorem dX4_onCall_17 : decode cX4_onCall 17 = .ok (.invokespecial 42, 3) := by decide +kernel
theorem dX4_onCall_20 : decode cX4_onCall 20 = .ok (.athrow, 1) := by decide +kernel
theorem dX4_onCall_21 : decode cX4_onCall 21 = .ok (.aload_n 0, 1) := by decide +kernel
theorem dX4_onCall_22 : decode cX4_onCall 22 = .ok (.getfield 26, 3) := by decide +kernel
theorem dX4_onCall_25 : decode cX4_onCall 25 = .ok (.iload_n 1, 1) := by decide +kernel
theorem dX4_onCall_26 : decode cX4_onCall 26 = .ok (.invokevirtual 177, 3) := by decide +kernel
theorem dX4_onCall_29 : decode cX4_onCall 29 = .ok (.ireturn, 1) := by decide +kernel
set_option maxRecDepth 20000 in
theorem ggX4_swap_X4_isOpenForSwaps : GoodIn wsX4_swap wsX4_isOpenForSwaps := goodIn_r _ [10, 11, 31, 32, 33, 34] (by decide +kernel) (by decide +kernel)
set_option maxRecDepth 20000 in
theorem gX4_swap_X4_isOpenForSwaps : GoodIn wsX4_swap (wsV RX4 180 RX4 yX4_isOpenForSwaps wsX4_isOpenForSwaps) := goodIn_app (goodIn_of _ (by decide +kernel)) ggX4_swap_X4_isOpenForSwaps
set_option maxRecDepth 20000 in
theorem ggX4_swap_X2_exchangeIfRested : GoodIn wsX4_swap wsX2_exchangeIfRested := goodIn_r _ [16, 17, 18, 19, 15, 20, 21, 22, 23, 24, 25, 26, 27, 28, 29, 35] (by decide +kernel) (by decide +kernel)
set_option maxRecDepth 20000 in
theorem gX4_swap_X2_exchangeIfRested : GoodIn wsX4_swap (wsV RX4 186 RX2 yX2_exchangeIfRested wsX2_exchangeIfRested) := goodIn_app (goodIn_of _ (by decide +kernel)) ggX4_swap_X2_exchangeIfRested
set_option maxRecDepth 20000 in
theorem ggX4_swap_X2_personOn : GoodIn wsX4_swap wsX2_personOn := goodIn_r _ [29, 21, 35] (by decide +kernel) (by decide +kernel)
set_option maxRecDepth 20000 in
theorem gX4_swap_X2_personOn : GoodIn wsX4_swap (wsV RX4 177 RX2 yX2_personOn wsX2_personOn) := goodIn_app (goodIn_of _ (by decide +kernel)) ggX4_swap_X2_personOn
theorem dX4_swap_0 : decode cX4_swap 0 = .ok (.aload_n 0, 1) := by decide +kernel
theorem dX4_swap_1 : decode cX4_swap 1 = .ok (.iload_n 1, 1) := by decide +kernel
theorem dX4_swap_2 : decode cX4_swap 2 = .ok (.invokevirtual 180, 3) := by decide +kernel
theorem dX4_swap_5 : decode cX4_swap 5 = .ok (.ifCond .eq 16, 3) := by decide +kernel
theorem dX4_swap_8 : decode cX4_swap 8 = .ok (.aload_n 0, 1) := by decide +kernel
theorem dX4_swap_9 : decode cX4_swap 9 = .ok (.iload_n 2, 1) := by decide +kernel
theorem dX4_swap_10 : decode cX4_swap 10 = .ok (.invokevirtual 180, 3) := by decide +kernel
theorem dX4_swap_13 : decode cX4_swap 13 = .ok (.ifCond .eq 8, 3) := by decide +kernel
theorem dX4_swap_16 : decode cX4_swap 16 = .ok (.iload_n 1, 1) := by decide +kernel
theorem dX4_swap_17 : decode cX4_swap 17 = .ok (.iload_n 2, 1) := by decide +kernel
theorem dX4_swap_18 : decode cX4_swap 18 = .ok (.if_icmp .ne 13, 3) := by decide +kernel
theorem dX4_swap_21 : decode cX4_swap 21 = .ok (.new 38, 3) := by decide +kernel
theorem dX4_swap_24 : decode cX4_swap 24 = .ok (.dup, 1) := by decide +kernel
theorem dX4_swap_25 : decode cX4_swap 25 = .ok (.ldc 184, 2) := by decide +kernel
theorem dX4_swap_27 : decode cX4_swap 27 = .ok (.invokespecial 42, 3) := by decide +kernel
theorem dX4_swap_30 : decode cX4_swap 30 = .ok (.athrow, 1) := by decide +kernel
theorem dX4_swap_31 : decode cX4_swap 31 = .ok (.aload_n 0, 1) := by decide +kernel
theorem dX4_swap_32 : decode cX4_swap 32 = .ok (.getfield 26, 3) := by decide +kernel
theorem dX4_swap_35 : decode cX4_swap 35 = .ok (.iload_n 1, 1) := by decide +kernel
theorem dX4_swap_36 : decode cX4_swap 36 = .ok (.iload_n 2, 1) := by decide +kernel
theorem dX4_swap_37 : decode cX4_swap 37 = .ok (.invokevirtual 186, 3) := by decide +kernel
theorem dX4_swap_40 : decode cX4_swap 40 = .ok (.ifCond .ne 13, 3) := by decide +kernel
theorem dX4_swap_43 : decode cX4_swap 43 = .ok (.new 48, 3) := by decide +kernel
theorem dX4_swap_46 : decode cX4_swap 46 = .ok (.dup, 1) := by decide +kernel
theorem dX4_swap_47 : decode cX4_swap 47 = .ok (.ldc 190, 2) := by decide +kernel
theorem dX4_swap_49 : decode cX4_swap 49 = .ok (.invokespecial 52, 3) := by decide +kernel
theorem dX4_swap_52 : decode cX4_swap 52 = .ok (.athrow, 1) := by decide +kernel
theorem dX4_swap_53 : decode cX4_swap 53 = .ok (.aload_n 0, 1) := by decide +kernel
theorem dX4_swap_54 : decode cX4_swap 54 = .ok (.getfield 26, 3) := by decide +kernel
theorem dX4_swap_57 : decode cX4_swap 57 = .ok (.iload_n 1, 1) := by decide +kernel
theorem dX4_swap_58 : decode cX4_swap 58 = .ok (.invokevirtual 177, 3) := by decide +kernel
theorem dX4_swap_61 : decode cX4_swap 61 = .ok (.ireturn, 1) := by decide +kernel
set_option maxRecDepth 20000 in
theorem ggX4_alarm_X2_firstToAnswer : GoodIn wsX4_alarm wsX2_firstToAnswer := goodIn_r _ [9, 10, 11, 12, 8, 13, 14, 19] (by decide +kernel) (by decide +kernel)
set_option maxRecDepth 20000 in
theorem gX4_alarm_X2_firstToAnswer : GoodIn wsX4_alarm (wsV RX4 194 RX2 yX2_firstToAnswer wsX2_firstToAnswer) := goodIn_app (goodIn_of _ (by decide +kernel)) ggX4_alarm_X2_firstToAnswer
theorem dX4_alarm_0 : decode cX4_alarm 0 = .ok (.iload_n 1, 1) := by decide +kernel
theorem dX4_alarm_1 : decode cX4_alarm 1 = .ok (.ifCond .lt 9, 3) := by decide +kernel
theorem dX4_alarm_4 : decode cX4_alarm 4 = .ok (.iload_n 1, 1) := by decide +kernel
theorem dX4_alarm_5 : decode cX4_alarm 5 = .ok (.bipush 31, 2) := by decide +kernel
theorem dX4_alarm_7 : decode cX4_alarm 7 = .ok (.if_icmp .le 13, 3) := by decide +kernel
theorem dX4_alarm_10 : decode cX4_alarm 10 = .ok (.new 38, 3) := by decide +kernel
theorem dX4_alarm_13 : decode cX4_alarm 13 = .ok (.dup, 1) := by decide +kernel
theorem dX4_alarm_14 : decode cX4_alarm 14 = .ok (.ldc 192, 2) := by decide +kernel
theorem dX4_alarm_16 : decode cX4_alarm 16 = .ok (.invokespecial 42, 3) := by decide +kernel
theorem dX4_alarm_19 : decode cX4_alarm 19 = .ok (.athrow, 1) := by decide +kernel
theorem dX4_alarm_20 : decode cX4_alarm 20 = .ok (.aload_n 0, 1) := by decide +kernel
theorem dX4_alarm_21 : decode cX4_alarm 21 = .ok (.getfield 26, 3) := by decide +kernel
theorem dX4_alarm_24 : decode cX4_alarm 24 = .ok (.aload_n 0, 1) := by decide +kernel
theorem dX4_alarm_25 : decode cX4_alarm 25 = .ok (.getfield 30, 3) := by decide +kernel
theorem dX4_alarm_28 : decode cX4_alarm 28 = .ok (.iload_n 1, 1) := by decide +kernel
theorem dX4_alarm_29 : decode cX4_alarm 29 = .ok (.invokevirtual 194, 3) := by decide +kernel
theorem dX4_alarm_32 : decode cX4_alarm 32 = .ok (.ireturn, 1) := by decide +kernel
theorem dX4_requireFile_0 : decode cX4_requireFile 0 = .ok (.iload_n 0, 1) := by decide +kernel
theorem dX4_requireFile_1 : decode cX4_requireFile 1 = .ok (.ifCond .lt 9, 3) := by decide +kernel
theorem dX4_requireFile_4 : decode cX4_requireFile 4 = .ok (.iload_n 0, 1) := by decide +kernel
theorem dX4_requireFile_5 : decode cX4_requireFile 5 = .ok (.bipush 10, 2) := by decide +kernel
theorem dX4_requireFile_7 : decode cX4_requireFile 7 = .ok (.if_icmp .lt 13, 3) := by decide +kernel
theorem dX4_requireFile_10 : decode cX4_requireFile 10 = .ok (.new 197, 3) := by decide +kernel
theorem dX4_requireFile_13 : decode cX4_requireFile 13 = .ok (.dup, 1) := by decide +kernel
theorem dX4_requireFile_14 : decode cX4_requireFile 14 = .ok (.ldc 199, 2) := by decide +kernel
theorem dX4_requireFile_16 : decode cX4_requireFile 16 = .ok (.invokespecial 201, 3) := by decide +kernel
theorem dX4_requireFile_19 : decode cX4_requireFile 19 = .ok (.athrow, 1) := by decide +kernel
theorem dX4_requireFile_20 : decode cX4_requireFile 20 = .ok (.return_, 1) := by decide +kernel
set_option maxRecDepth 20000 in
theorem ggX4_requireCopy_X3_find : GoodIn wsX4_requireCopy wsX3_find := goodIn_r _ [8, 9, 14, 15, 16, 17, 18] (by decide +kernel) (by decide +kernel)
set_option maxRecDepth 20000 in
theorem gX4_requireCopy_X3_find : GoodIn wsX4_requireCopy (wsV RX4 202 RX3 yX3_find wsX3_find) := goodIn_app (goodIn_of _ (by decide +kernel)) ggX4_requireCopy_X3_find
theorem dX4_requireCopy_0 : decode cX4_requireCopy 0 = .ok (.aload_n 0, 1) := by decide +kernel
theorem dX4_requireCopy_1 : decode cX4_requireCopy 1 = .ok (.getfield 19, 3) := by decide +kernel
theorem dX4_requireCopy_4 : decode cX4_requireCopy 4 = .ok (.iload_n 1, 1) := by decide +kernel
theorem dX4_requireCopy_5 : decode cX4_requireCopy 5 = .ok (.invokevirtual 202, 3) := by decide +kernel
theorem dX4_requireCopy_8 : decode cX4_requireCopy 8 = .ok (.astore_n 2, 1) := by decide +kernel
theorem dX4_requireCopy_9 : decode cX4_requireCopy 9 = .ok (.aload_n 2, 1) := by decide +kernel
theorem dX4_requireCopy_10 : decode cX4_requireCopy 10 = .ok (.ifnonnull 13, 3) := by decide +kernel
theorem dX4_requireCopy_13 : decode cX4_requireCopy 13 = .ok (.new 197, 3) := by decide +kernel
theorem dX4_requireCopy_16 : decode cX4_requireCopy 16 = .ok (.dup, 1) := by decide +kernel
theorem dX4_requireCopy_17 : decode cX4_requireCopy 17 = .ok (.ldc 205, 2) := by decide +kernel
theorem dX4_requireCopy_19 : decode cX4_requireCopy 19 = .ok (.invokespecial 201, 3) := by decide +kernel
theorem dX4_requireCopy_22 : decode cX4_requireCopy 22 = .ok (.athrow, 1) := by decide +kernel
theorem dX4_requireCopy_23 : decode cX4_requireCopy 23 = .ok (.aload_n 2, 1) := by decide +kernel
theorem dX4_requireCopy_24 : decode cX4_requireCopy 24 = .ok (.areturn, 1) := by decide +kernel
theorem dX4_isOpenForSwaps_0 : decode cX4_isOpenForSwaps 0 = .ok (.iload_n 1, 1) := by decide +kernel
theorem dX4_isOpenForSwaps_1 : decode cX4_isOpenForSwaps 1 = .ok (.aload_n 0, 1) := by decide +kernel
theorem dX4_isOpenForSwaps_2 : decode cX4_isOpenForSwaps 2 = .ok (.getfield 30, 3) := by decide +kernel
theorem dX4_isOpenForSwaps_5 : decode cX4_isOpenForSwaps 5 = .ok (.if_icmp .lt 14, 3) := by decide +kernel
theorem dX4_isOpenForSwaps_8 : decode cX4_isOpenForSwaps 8 = .ok (.iload_n 1, 1) := by decide +kernel
theorem dX4_isOpenForSwaps_9 : decode cX4_isOpenForSwaps 9 = .ok (.sipush 364, 3) := by decide +kernel
theorem dX4_isOpenForSwaps_12 : decode cX4_isOpenForSwaps 12 = .ok (.if_icmp .gt 7, 3) := by decide +kernel
theorem dX4_isOpenForSwaps_15 : decode cX4_isOpenForSwaps 15 = .ok (.iconst 1, 1) := by decide +kernel
theorem dX4_isOpenForSwaps_16 : decode cX4_isOpenForSwaps 16 = .ok (.goto 4, 3) := by decide +kernel
theorem dX4_isOpenForSwaps_19 : decode cX4_isOpenForSwaps 19 = .ok (.iconst 0, 1) := by decide +kernel
theorem dX4_isOpenForSwaps_20 : decode cX4_isOpenForSwaps 20 = .ok (.ireturn, 1) := by decide +kernel
