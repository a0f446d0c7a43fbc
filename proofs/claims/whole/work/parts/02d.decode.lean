theorem dX0_init_0 : decode cX0_init 0 = .ok (.aload_n 0, 1) := by decide +kernel
theorem dX0_init_1 : decode cX0_init 1 = .ok (.invokespecial 3, 3) := by decide +kernel
theorem dX0_init_4 : decode cX0_init 4 = .ok (.aload_n 0, 1) := by decide +kernel
theorem dX0_init_5 : decode cX0_init 5 = .ok (.bipush 10, 2) := by decide +kernel
theorem dX0_init_7 : decode cX0_init 7 = .ok (.newarray .int, 2) := by decide +kernel
theorem dX0_init_9 : decode cX0_init 9 = .ok (.putfield 9, 3) := by decide +kernel
theorem dX0_init_12 : decode cX0_init 12 = .ok (.aload_n 0, 1) := by decide +kernel
theorem dX0_init_13 : decode cX0_init 13 = .ok (.iload_n 1, 1) := by decide +kernel
theorem dX0_init_14 : decode cX0_init 14 = .ok (.putfield 15, 3) := by decide +kernel
theorem dX0_init_17 : decode cX0_init 17 = .ok (.aload_n 0, 1) := by decide +kernel
theorem dX0_init_18 : decode cX0_init 18 = .ok (.iload_n 2, 1) := by decide +kernel
theorem dX0_init_19 : decode cX0_init 19 = .ok (.putfield 19, 3) := by decide +kernel
theorem dX0_init_22 : decode cX0_init 22 = .ok (.aload_n 0, 1) := by decide +kernel
theorem dX0_init_23 : decode cX0_init 23 = .ok (.aload_n 3, 1) := by decide +kernel
theorem dX0_init_24 : decode cX0_init 24 = .ok (.putfield 22, 3) := by decide +kernel
theorem dX0_init_27 : decode cX0_init 27 = .ok (.aload_n 0, 1) := by decide +kernel
theorem dX0_init_28 : decode cX0_init 28 = .ok (.iload 4, 2) := by decide +kernel
theorem dX0_init_30 : decode cX0_init 30 = .ok (.putfield 26, 3) := by decide +kernel
theorem dX0_init_33 : decode cX0_init 33 = .ok (.iconst 0, 1) := by decide +kernel
theorem dX0_init_34 : decode cX0_init 34 = .ok (.istore 5, 2) := by decide +kernel
theorem dX0_init_36 : decode cX0_init 36 = .ok (.iload 5, 2) := by decide +kernel
theorem dX0_init_38 : decode cX0_init 38 = .ok (.aload_n 0, 1) := by decide +kernel
theorem dX0_init_39 : decode cX0_init 39 = .ok (.getfield 9, 3) := by decide +kernel
theorem dX0_init_42 : decode cX0_init 42 = .ok (.arraylength, 1) := by decide +kernel
theorem dX0_init_43 : decode cX0_init 43 = .ok (.if_icmp .ge 17, 3) := by decide +kernel
theorem dX0_init_46 : decode cX0_init 46 = .ok (.aload_n 0, 1) := by decide +kernel
theorem dX0_init_47 : decode cX0_init 47 = .ok (.getfield 9, 3) := by decide +kernel
theorem dX0_init_50 : decode cX0_init 50 = .ok (.iload 5, 2) := by decide +kernel
theorem dX0_init_52 : decode cX0_init 52 = .ok (.iconst (-1), 1) := by decide +kernel
theorem dX0_init_53 : decode cX0_init 53 = .ok (.iastore, 1) := by decide +kernel
theorem dX0_init_54 : decode cX0_init 54 = .ok (.iinc 5 1, 3) := by decide +kernel
theorem dX0_init_57 : decode cX0_init 57 = .ok (.goto (-21), 3) := by decide +kernel
theorem dX0_init_60 : decode cX0_init 60 = .ok (.return_, 1) := by decide +kernel
theorem dX0_keep_0 : decode cX0_keep 0 = .ok (.iload_n 1, 1) := by decide +kernel
theorem dX0_keep_1 : decode cX0_keep 1 = .ok (.ifCond .lt 12, 3) := by decide +kernel
theorem dX0_keep_4 : decode cX0_keep 4 = .ok (.iload_n 1, 1) := by decide +kernel
theorem dX0_keep_5 : decode cX0_keep 5 = .ok (.aload_n 0, 1) := by decide +kernel
theorem dX0_keep_6 : decode cX0_keep 6 = .ok (.getfield 9, 3) := by decide +kernel
theorem dX0_keep_9 : decode cX0_keep 9 = .ok (.arraylength, 1) := by decide +kernel
theorem dX0_keep_10 : decode cX0_keep 10 = .ok (.if_icmp .lt 4, 3) := by decide +kernel
theorem dX0_keep_13 : decode cX0_keep 13 = .ok (.return_, 1) := by decide +kernel
theorem dX0_keep_14 : decode cX0_keep 14 = .ok (.aload_n 0, 1) := by decide +kernel
theorem dX0_keep_15 : decode cX0_keep 15 = .ok (.getfield 9, 3) := by decide +kernel
theorem dX0_keep_18 : decode cX0_keep 18 = .ok (.iload_n 1, 1) := by decide +kernel
theorem dX0_keep_19 : decode cX0_keep 19 = .ok (.iaload, 1) := by decide +kernel
theorem dX0_keep_20 : decode cX0_keep 20 = .ok (.iconst (-1), 1) := by decide +kernel
theorem dX0_keep_21 : decode cX0_keep 21 = .ok (.if_icmp .ne 13, 3) := by decide +kernel
theorem dX0_keep_24 : decode cX0_keep 24 = .ok (.aload_n 0, 1) := by decide +kernel
theorem dX0_keep_25 : decode cX0_keep 25 = .ok (.dup, 1) := by decide +kernel
theorem dX0_keep_26 : decode cX0_keep 26 = .ok (.getfield 29, 3) := by decide +kernel
theorem dX0_keep_29 : decode cX0_keep 29 = .ok (.iconst 1, 1) := by decide +kernel
theorem dX0_keep_30 : decode cX0_keep 30 = .ok (.iadd, 1) := by decide +kernel
theorem dX0_keep_31 : decode cX0_keep 31 = .ok (.putfield 29, 3) := by decide +kernel
theorem dX0_keep_34 : decode cX0_keep 34 = .ok (.aload_n 0, 1) := by decide +kernel
theorem dX0_keep_35 : decode cX0_keep 35 = .ok (.getfield 9, 3) := by decide +kernel
theorem dX0_keep_38 : decode cX0_keep 38 = .ok (.iload_n 1, 1) := by decide +kernel
theorem dX0_keep_39 : decode cX0_keep 39 = .ok (.iload_n 2, 1) := by decide +kernel
theorem dX0_keep_40 : decode cX0_keep 40 = .ok (.iastore, 1) := by decide +kernel
theorem dX0_keep_41 : decode cX0_keep 41 = .ok (.return_, 1) := by decide +kernel
theorem dX0_spaceTaken_0 : decode cX0_spaceTaken 0 = .ok (.aload_n 0, 1) := by decide +kernel
theorem dX0_spaceTaken_1 : decode cX0_spaceTaken 1 = .ok (.getfield 29, 3) := by decide +kernel
theorem dX0_spaceTaken_4 : decode cX0_spaceTaken 4 = .ok (.iconst 1, 1) := by decide +kernel
theorem dX0_spaceTaken_5 : decode cX0_spaceTaken 5 = .ok (.iadd, 1) := by decide +kernel
theorem dX0_spaceTaken_6 : decode cX0_spaceTaken 6 = .ok (.ireturn, 1) := by decide +kernel
theorem dX0_periodOf_0 : decode cX0_periodOf 0 = .ok (.iload_n 1, 1) := by decide +kernel
theorem dX0_periodOf_1 : decode cX0_periodOf 1 = .ok (.lookupswitch 43 #[(1, 27), (2, 35)], 27) := by decide +kernel
theorem dX0_periodOf_28 : decode cX0_periodOf 28 = .ok (.aload_n 0, 1) := by decide +kernel
theorem dX0_periodOf_29 : decode cX0_periodOf 29 = .ok (.getfield 19, 3) := by decide +kernel
theorem dX0_periodOf_32 : decode cX0_periodOf 32 = .ok (.bipush 7, 2) := by decide +kernel
theorem dX0_periodOf_34 : decode cX0_periodOf 34 = .ok (.idiv, 1) := by decide +kernel
theorem dX0_periodOf_35 : decode cX0_periodOf 35 = .ok (.ireturn, 1) := by decide +kernel
theorem dX0_periodOf_36 : decode cX0_periodOf 36 = .ok (.aload_n 0, 1) := by decide +kernel
theorem dX0_periodOf_37 : decode cX0_periodOf 37 = .ok (.getfield 19, 3) := by decide +kernel
theorem dX0_periodOf_40 : decode cX0_periodOf 40 = .ok (.bipush 28, 2) := by decide +kernel
theorem dX0_periodOf_42 : decode cX0_periodOf 42 = .ok (.idiv, 1) := by decide +kernel
theorem dX0_periodOf_43 : decode cX0_periodOf 43 = .ok (.ireturn, 1) := by decide +kernel
theorem dX0_periodOf_44 : decode cX0_periodOf 44 = .ok (.aload_n 0, 1) := by decide +kernel
theorem dX0_periodOf_45 : decode cX0_periodOf 45 = .ok (.getfield 19, 3) := by decide +kernel
theorem dX0_periodOf_48 : decode cX0_periodOf 48 = .ok (.ireturn, 1) := by decide +kernel
theorem dX0_contentByChain_0 : decode cX0_contentByChain 0 = .ok (.iload_n 1, 1) := by decide +kernel
theorem dX0_contentByChain_1 : decode cX0_contentByChain 1 = .ok (.ifCond .lt 9, 3) := by decide +kernel
theorem dX0_contentByChain_4 : decode cX0_contentByChain 4 = .ok (.iload_n 1, 1) := by decide +kernel
theorem dX0_contentByChain_5 : decode cX0_contentByChain 5 = .ok (.bipush 10, 2) := by decide +kernel
theorem dX0_contentByChain_7 : decode cX0_contentByChain 7 = .ok (.if_icmp .lt 5, 3) := by decide +kernel
theorem dX0_contentByChain_10 : decode cX0_contentByChain 10 = .ok (.iconst (-1), 1) := by decide +kernel
theorem dX0_contentByChain_11 : decode cX0_contentByChain 11 = .ok (.ireturn, 1) := by decide +kernel
theorem dX0_contentByChain_12 : decode cX0_contentByChain 12 = .ok (.aload_n 0, 1) := by decide +kernel
theorem dX0_contentByChain_13 : decode cX0_contentByChain 13 = .ok (.astore_n 2, 1) := by decide +kernel
theorem dX0_contentByChain_14 : decode cX0_contentByChain 14 = .ok (.aload_n 2, 1) := by decide +kernel
theorem dX0_contentByChain_15 : decode cX0_contentByChain 15 = .ok (.ifnull 37, 3) := by decide +kernel
theorem dX0_contentByChain_18 : decode cX0_contentByChain 18 = .ok (.iload_n 1, 1) := by decide +kernel
theorem dX0_contentByChain_19 : decode cX0_contentByChain 19 = .ok (.aload_n 2, 1) := by decide +kernel
theorem dX0_contentByChain_20 : decode cX0_contentByChain 20 = .ok (.getfield 9, 3) := by decide +kernel
theorem dX0_contentByChain_23 : decode cX0_contentByChain 23 = .ok (.arraylength, 1) := by decide +kernel
theorem dX0_contentByChain_24 : decode cX0_contentByChain 24 = .ok (.if_icmp .ge 20, 3) := by decide +kernel
theorem dX0_contentByChain_27 : decode cX0_contentByChain 27 = .ok (.aload_n 2, 1) := by decide +kernel
theorem dX0_contentByChain_28 : decode cX0_contentByChain 28 = .ok (.getfield 9, 3) := by decide +kernel
theorem dX0_contentByChain_31 : decode cX0_contentByChain 31 = .ok (.iload_n 1, 1) := by decide +kernel
theorem dX0_contentByChain_32 : decode cX0_contentByChain 32 = .ok (.iaload, 1) := by decide +kernel
theorem dX0_contentByChain_33 : decode cX0_contentByChain 33 = .ok (.iconst (-1), 1) := by decide +kernel
theorem dX0_contentByChain_34 : decode cX0_contentByChain 34 = .ok (.if_icmp .eq 10, 3) := by decide +kernel
theorem dX0_contentByChain_37 : decode cX0_contentByChain 37 = .ok (.aload_n 2, 1) := by decide +kernel
theorem dX0_contentByChain_38 : decode cX0_contentByChain 38 = .ok (.getfield 9, 3) := by decide +kernel
theorem dX0_contentByChain_41 : decode cX0_contentByChain 41 = .ok (.iload_n 1, 1) := by decide +kernel
theorem dX0_contentByChain_42 : decode cX0_contentByChain 42 = .ok (.iaload, 1) := by decide +kernel
theorem dX0_contentByChain_43 : decode cX0_contentByChain 43 = .ok (.ireturn, 1) := by decide +kernel
theorem dX0_contentByChain_44 : decode cX0_contentByChain 44 = .ok (.aload_n 2, 1) := by decide +kernel
theorem dX0_contentByChain_45 : decode cX0_contentByChain 45 = .ok (.getfield 22, 3) := by decide +kernel
theorem dX0_contentByChain_48 : decode cX0_contentByChain 48 = .ok (.astore_n 2, 1) := by decide +kernel
theorem dX0_contentByChain_49 : decode cX0_contentByChain 49 = .ok (.goto (-35), 3) := by decide +kernel
theorem dX0_contentByChain_52 : decode cX0_contentByChain 52 = .ok (.iconst (-1), 1) := by decide +kernel
theorem dX0_contentByChain_53 : decode cX0_contentByChain 53 = .ok (.ireturn, 1) := by decide +kernel
theorem dX0_hasDamagedChain_0 : decode cX0_hasDamagedChain 0 = .ok (.aload_n 0, 1) := by decide +kernel
theorem dX0_hasDamagedChain_1 : decode cX0_hasDamagedChain 1 = .ok (.astore_n 1, 1) := by decide +kernel
theorem dX0_hasDamagedChain_2 : decode cX0_hasDamagedChain 2 = .ok (.aload_n 1, 1) := by decide +kernel
theorem dX0_hasDamagedChain_3 : decode cX0_hasDamagedChain 3 = .ok (.ifnull 20, 3) := by decide +kernel
theorem dX0_hasDamagedChain_6 : decode cX0_hasDamagedChain 6 = .ok (.aload_n 1, 1) := by decide +kernel
theorem dX0_hasDamagedChain_7 : decode cX0_hasDamagedChain 7 = .ok (.getfield 32, 3) := by decide +kernel
theorem dX0_hasDamagedChain_10 : decode cX0_hasDamagedChain 10 = .ok (.ifCond .eq 5, 3) := by decide +kernel
theorem dX0_hasDamagedChain_13 : decode cX0_hasDamagedChain 13 = .ok (.iconst 1, 1) := by decide +kernel
theorem dX0_hasDamagedChain_14 : decode cX0_hasDamagedChain 14 = .ok (.ireturn, 1) := by decide +kernel
theorem dX0_hasDamagedChain_15 : decode cX0_hasDamagedChain 15 = .ok (.aload_n 1, 1) := by decide +kernel
theorem dX0_hasDamagedChain_16 : decode cX0_hasDamagedChain 16 = .ok (.getfield 22, 3) := by decide +kernel
theorem dX0_hasDamagedChain_19 : decode cX0_hasDamagedChain 19 = .ok (.astore_n 1, 1) := by decide +kernel
theorem dX0_hasDamagedChain_20 : decode cX0_hasDamagedChain 20 = .ok (.goto (-18), 3) := by decide +kernel
theorem dX0_hasDamagedChain_23 : decode cX0_hasDamagedChain 23 = .ok (.iconst 0, 1) := by decide +kernel
theorem dX0_hasDamagedChain_24 : decode cX0_hasDamagedChain 24 = .ok (.ireturn, 1) := by decide +kernel
theorem dX0_proveChain_0 : decode cX0_proveChain 0 = .ok (.aload_n 0, 1) := by decide +kernel
theorem dX0_proveChain_1 : decode cX0_proveChain 1 = .ok (.astore_n 2, 1) := by decide +kernel
theorem dX0_proveChain_2 : decode cX0_proveChain 2 = .ok (.aload_n 2, 1) := by decide +kernel
theorem dX0_proveChain_3 : decode cX0_proveChain 3 = .ok (.ifnull 16, 3) := by decide +kernel
theorem dX0_proveChain_6 : decode cX0_proveChain 6 = .ok (.aload_n 2, 1) := by decide +kernel
theorem dX0_proveChain_7 : decode cX0_proveChain 7 = .ok (.iload_n 1, 1) := by decide +kernel
theorem dX0_proveChain_8 : decode cX0_proveChain 8 = .ok (.putfield 36, 3) := by decide +kernel
theorem dX0_proveChain_11 : decode cX0_proveChain 11 = .ok (.aload_n 2, 1) := by decide +kernel
theorem dX0_proveChain_12 : decode cX0_proveChain 12 = .ok (.getfield 22, 3) := by decide +kernel
theorem dX0_proveChain_15 : decode cX0_proveChain 15 = .ok (.astore_n 2, 1) := by decide +kernel
theorem dX0_proveChain_16 : decode cX0_proveChain 16 = .ok (.goto (-14), 3) := by decide +kernel
theorem dX0_proveChain_19 : decode cX0_proveChain 19 = .ok (.return_, 1) := by decide +kernel
theorem dX0_chainLength_0 : decode cX0_chainLength 0 = .ok (.iconst 0, 1) := by decide +kernel
theorem dX0_chainLength_1 : decode cX0_chainLength 1 = .ok (.istore_n 1, 1) := by decide +kernel
theorem dX0_chainLength_2 : decode cX0_chainLength 2 = .ok (.aload_n 0, 1) := by decide +kernel
theorem dX0_chainLength_3 : decode cX0_chainLength 3 = .ok (.astore_n 2, 1) := by decide +kernel
theorem dX0_chainLength_4 : decode cX0_chainLength 4 = .ok (.aload_n 2, 1) := by decide +kernel
theorem dX0_chainLength_5 : decode cX0_chainLength 5 = .ok (.ifnull 14, 3) := by decide +kernel
theorem dX0_chainLength_8 : decode cX0_chainLength 8 = .ok (.iinc 1 1, 3) := by decide +kernel
theorem dX0_chainLength_11 : decode cX0_chainLength 11 = .ok (.aload_n 2, 1) := by decide +kernel
theorem dX0_chainLength_12 : decode cX0_chainLength 12 = .ok (.getfield 22, 3) := by decide +kernel
theorem dX0_chainLength_15 : decode cX0_chainLength 15 = .ok (.astore_n 2, 1) := by decide +kernel
theorem dX0_chainLength_16 : decode cX0_chainLength 16 = .ok (.goto (-12), 3) := by decide +kernel
theorem dX0_chainLength_19 : decode cX0_chainLength 19 = .ok (.iload_n 1, 1) := by decide +kernel
theorem dX0_chainLength_20 : decode cX0_chainLength 20 = .ok (.ireturn, 1) := by decide +kernel
theorem dX0_markChainNeeded_0 : decode cX0_markChainNeeded 0 = .ok (.aload_n 0, 1) := by decide +kernel
theorem dX0_markChainNeeded_1 : decode cX0_markChainNeeded 1 = .ok (.astore_n 1, 1) := by decide +kernel
theorem dX0_markChainNeeded_2 : decode cX0_markChainNeeded 2 = .ok (.aload_n 1, 1) := by decide +kernel
theorem dX0_markChainNeeded_3 : decode cX0_markChainNeeded 3 = .ok (.ifnull 23, 3) := by decide +kernel
theorem dX0_markChainNeeded_6 : decode cX0_markChainNeeded 6 = .ok (.aload_n 1, 1) := by decide +kernel
theorem dX0_markChainNeeded_7 : decode cX0_markChainNeeded 7 = .ok (.getfield 39, 3) := by decide +kernel
theorem dX0_markChainNeeded_10 : decode cX0_markChainNeeded 10 = .ok (.ifCond .ne 16, 3) := by decide +kernel
theorem dX0_markChainNeeded_13 : decode cX0_markChainNeeded 13 = .ok (.aload_n 1, 1) := by decide +kernel
theorem dX0_markChainNeeded_14 : decode cX0_markChainNeeded 14 = .ok (.iconst 1, 1) := by decide +kernel
theorem dX0_markChainNeeded_15 : decode cX0_markChainNeeded 15 = .ok (.putfield 39, 3) := by decide +kernel
theorem dX0_markChainNeeded_18 : decode cX0_markChainNeeded 18 = .ok (.aload_n 1, 1) := by decide +kernel
theorem dX0_markChainNeeded_19 : decode cX0_markChainNeeded 19 = .ok (.getfield 22, 3) := by decide +kernel
theorem dX0_markChainNeeded_22 : decode cX0_markChainNeeded 22 = .ok (.astore_n 1, 1) := by decide +kernel
theorem dX0_markChainNeeded_23 : decode cX0_markChainNeeded 23 = .ok (.goto (-21), 3) := by decide +kernel
theorem dX0_markChainNeeded_26 : decode cX0_markChainNeeded 26 = .ok (.return_, 1) := by decide +kernel
theorem dX1_init_0 : decode cX1_init 0 = .ok (.aload_n 0, 1) := by decide +kernel
theorem dX1_init_1 : decode cX1_init 1 = .ok (.invokespecial 3, 3) := by decide +kernel
theorem dX1_init_4 : decode cX1_init 4 = .ok (.aload_n 0, 1) := by decide +kernel
theorem dX1_init_5 : decode cX1_init 5 = .ok (.bipush 10, 2) := by decide +kernel
theorem dX1_init_7 : decode cX1_init 7 = .ok (.newarray .int, 2) := by decide +kernel
theorem dX1_init_9 : decode cX1_init 9 = .ok (.putfield 9, 3) := by decide +kernel
theorem dX1_init_12 : decode cX1_init 12 = .ok (.aload_n 0, 1) := by decide +kernel
theorem dX1_init_13 : decode cX1_init 13 = .ok (.sipush 300, 3) := by decide +kernel
theorem dX1_init_16 : decode cX1_init 16 = .ok (.newarray .int, 2) := by decide +kernel
theorem dX1_init_18 : decode cX1_init 18 = .ok (.putfield 15, 3) := by decide +kernel
theorem dX1_init_21 : decode cX1_init 21 = .ok (.aload_n 0, 1) := by decide +kernel
theorem dX1_init_22 : decode cX1_init 22 = .ok (.sipush 300, 3) := by decide +kernel
theorem dX1_init_25 : decode cX1_init 25 = .ok (.newarray .int, 2) := by decide +kernel
theorem dX1_init_27 : decode cX1_init 27 = .ok (.putfield 18, 3) := by decide +kernel
theorem dX1_init_30 : decode cX1_init 30 = .ok (.return_, 1) := by decide +kernel
theorem dX1_contentNow_0 : decode cX1_contentNow 0 = .ok (.iload_n 1, 1) := by decide +kernel
theorem dX1_contentNow_1 : decode cX1_contentNow 1 = .ok (.ifCond .lt 21, 3) := by decide +kernel
theorem dX1_contentNow_4 : decode cX1_contentNow 4 = .ok (.iload_n 1, 1) := by decide +kernel
theorem dX1_contentNow_5 : decode cX1_contentNow 5 = .ok (.aload_n 0, 1) := by decide +kernel
theorem dX1_contentNow_6 : decode cX1_contentNow 6 = .ok (.getfield 9, 3) := by decide +kernel
theorem dX1_contentNow_9 : decode cX1_contentNow 9 = .ok (.arraylength, 1) := by decide +kernel
theorem dX1_contentNow_10 : decode cX1_contentNow 10 = .ok (.if_icmp .ge 12, 3) := by decide +kernel
theorem dX1_contentNow_13 : decode cX1_contentNow 13 = .ok (.aload_n 0, 1) := by decide +kernel
theorem dX1_contentNow_14 : decode cX1_contentNow 14 = .ok (.getfield 9, 3) := by decide +kernel
theorem dX1_contentNow_17 : decode cX1_contentNow 17 = .ok (.iload_n 1, 1) := by decide +kernel
theorem dX1_contentNow_18 : decode cX1_contentNow 18 = .ok (.iaload, 1) := by decide +kernel
theorem dX1_contentNow_19 : decode cX1_contentNow 19 = .ok (.goto 4, 3) := by decide +kernel
theorem dX1_contentNow_22 : decode cX1_contentNow 22 = .ok (.iconst (-1), 1) := by decide +kernel
theorem dX1_contentNow_23 : decode cX1_contentNow 23 = .ok (.ireturn, 1) := by decide +kernel
theorem dX1_write_0 : decode cX1_write 0 = .ok (.iload_n 1, 1) := by decide +kernel
theorem dX1_write_1 : decode cX1_write 1 = .ok (.ifCond .lt 12, 3) := by decide +kernel
theorem dX1_write_4 : decode cX1_write 4 = .ok (.iload_n 1, 1) := by decide +kernel
theorem dX1_write_5 : decode cX1_write 5 = .ok (.aload_n 0, 1) := by decide +kernel
theorem dX1_write_6 : decode cX1_write 6 = .ok (.getfield 9, 3) := by decide +kernel
theorem dX1_write_9 : decode cX1_write 9 = .ok (.arraylength, 1) := by decide +kernel
theorem dX1_write_10 : decode cX1_write 10 = .ok (.if_icmp .lt 4, 3) := by decide +kernel
theorem dX1_write_13 : decode cX1_write 13 = .ok (.return_, 1) := by decide +kernel
theorem dX1_write_14 : decode cX1_write 14 = .ok (.aload_n 0, 1) := by decide +kernel
theorem dX1_write_15 : decode cX1_write 15 = .ok (.getfield 21, 3) := by decide +kernel
theorem dX1_write_18 : decode cX1_write 18 = .ok (.ifCond .lt 27, 3) := by decide +kernel
theorem dX1_write_21 : decode cX1_write 21 = .ok (.aload_n 0, 1) := by decide +kernel
theorem dX1_write_22 : decode cX1_write 22 = .ok (.getfield 21, 3) := by decide +kernel
theorem dX1_write_25 : decode cX1_write 25 = .ok (.aload_n 0, 1) := by decide +kernel
theorem dX1_write_26 : decode cX1_write 26 = .ok (.getfield 15, 3) := by decide +kernel
theorem dX1_write_29 : decode cX1_write 29 = .ok (.arraylength, 1) := by decide +kernel
theorem dX1_write_30 : decode cX1_write 30 = .ok (.if_icmp .ge 15, 3) := by decide +kernel
theorem dX1_write_33 : decode cX1_write 33 = .ok (.aload_n 0, 1) := by decide +kernel
theorem dX1_write_34 : decode cX1_write 34 = .ok (.getfield 21, 3) := by decide +kernel
theorem dX1_write_37 : decode cX1_write 37 = .ok (.aload_n 0, 1) := by decide +kernel
theorem dX1_write_38 : decode cX1_write 38 = .ok (.getfield 18, 3) := by decide +kernel
theorem dX1_write_41 : decode cX1_write 41 = .ok (.arraylength, 1) := by decide +kernel
theorem dX1_write_42 : decode cX1_write 42 = .ok (.if_icmp .lt 4, 3) := by decide +kernel
theorem dX1_write_45 : decode cX1_write 45 = .ok (.return_, 1) := by decide +kernel
theorem dX1_write_46 : decode cX1_write 46 = .ok (.aload_n 0, 1) := by decide +kernel
theorem dX1_write_47 : decode cX1_write 47 = .ok (.getfield 9, 3) := by decide +kernel
theorem dX1_write_50 : decode cX1_write 50 = .ok (.iload_n 1, 1) := by decide +kernel
theorem dX1_write_51 : decode cX1_write 51 = .ok (.iload_n 2, 1) := by decide +kernel
theorem dX1_write_52 : decode cX1_write 52 = .ok (.iastore, 1) := by decide +kernel
theorem dX1_write_53 : decode cX1_write 53 = .ok (.aload_n 0, 1) := by decide +kernel
theorem dX1_write_54 : decode cX1_write 54 = .ok (.getfield 15, 3) := by decide +kernel
theorem dX1_write_57 : decode cX1_write 57 = .ok (.aload_n 0, 1) := by decide +kernel
theorem dX1_write_58 : decode cX1_write 58 = .ok (.getfield 21, 3) := by decide +kernel
theorem dX1_write_61 : decode cX1_write 61 = .ok (.iload_n 1, 1) := by decide +kernel
theorem dX1_write_62 : decode cX1_write 62 = .ok (.iastore, 1) := by decide +kernel
theorem dX1_write_63 : decode cX1_write 63 = .ok (.aload_n 0, 1) := by decide +kernel
theorem dX1_write_64 : decode cX1_write 64 = .ok (.getfield 18, 3) := by decide +kernel
theorem dX1_write_67 : decode cX1_write 67 = .ok (.aload_n 0, 1) := by decide +kernel
theorem dX1_write_68 : decode cX1_write 68 = .ok (.getfield 21, 3) := by decide +kernel
theorem dX1_write_71 : decode cX1_write 71 = .ok (.iload_n 2, 1) := by decide +kernel
theorem dX1_write_72 : decode cX1_write 72 = .ok (.iastore, 1) := by decide +kernel
theorem dX1_write_73 : decode cX1_write 73 = .ok (.aload_n 0, 1) := by decide +kernel
theorem dX1_write_74 : decode cX1_write 74 = .ok (.dup, 1) := by decide +kernel
theorem dX1_write_75 : decode cX1_write 75 = .ok (.getfield 21, 3) := by decide +kernel
theorem dX1_write_78 : decode cX1_write 78 = .ok (.iconst 1, 1) := by decide +kernel
theorem dX1_write_79 : decode cX1_write 79 = .ok (.iadd, 1) := by decide +kernel
theorem dX1_write_80 : decode cX1_write 80 = .ok (.putfield 21, 3) := by decide +kernel
theorem dX1_write_83 : decode cX1_write 83 = .ok (.return_, 1) := by decide +kernel
theorem dX1_keepAll_0 : decode cX1_keepAll 0 = .ok (.iconst 0, 1) := by decide +kernel
theorem dX1_keepAll_1 : decode cX1_keepAll 1 = .ok (.istore_n 2, 1) := by decide +kernel
theorem dX1_keepAll_2 : decode cX1_keepAll 2 = .ok (.iload_n 2, 1) := by decide +kernel
theorem dX1_keepAll_3 : decode cX1_keepAll 3 = .ok (.aload_n 0, 1) := by decide +kernel
theorem dX1_keepAll_4 : decode cX1_keepAll 4 = .ok (.getfield 9, 3) := by decide +kernel
theorem dX1_keepAll_7 : decode cX1_keepAll 7 = .ok (.arraylength, 1) := by decide +kernel
theorem dX1_keepAll_8 : decode cX1_keepAll 8 = .ok (.if_icmp .ge 20, 3) := by decide +kernel
theorem dX1_keepAll_11 : decode cX1_keepAll 11 = .ok (.aload_n 1, 1) := by decide +kernel
theorem dX1_keepAll_12 : decode cX1_keepAll 12 = .ok (.iload_n 2, 1) := by decide +kernel
theorem dX1_keepAll_13 : decode cX1_keepAll 13 = .ok (.aload_n 0, 1) := by decide +kernel
theorem dX1_keepAll_14 : decode cX1_keepAll 14 = .ok (.getfield 9, 3) := by decide +kernel
theorem dX1_keepAll_17 : decode cX1_keepAll 17 = .ok (.iload_n 2, 1) := by decide +kernel
theorem dX1_keepAll_18 : decode cX1_keepAll 18 = .ok (.iaload, 1) := by decide +kernel
theorem dX1_keepAll_19 : decode cX1_keepAll 19 = .ok (.invokevirtual 25, 3) := by decide +kernel
theorem dX1_keepAll_22 : decode cX1_keepAll 22 = .ok (.iinc 2 1, 3) := by decide +kernel
theorem dX1_keepAll_25 : decode cX1_keepAll 25 = .ok (.goto (-23), 3) := by decide +kernel
theorem dX1_keepAll_28 : decode cX1_keepAll 28 = .ok (.return_, 1) := by decide +kernel
theorem dX1_keepChanged_0 : decode cX1_keepChanged 0 = .ok (.iload_n 2, 1) := by decide +kernel
theorem dX1_keepChanged_1 : decode cX1_keepChanged 1 = .ok (.iconst 0, 1) := by decide +kernel
theorem dX1_keepChanged_2 : decode cX1_keepChanged 2 = .ok (.invokestatic 31, 3) := by decide +kernel
theorem dX1_keepChanged_5 : decode cX1_keepChanged 5 = .ok (.istore_n 3, 1) := by decide +kernel
theorem dX1_keepChanged_6 : decode cX1_keepChanged 6 = .ok (.iload_n 3, 1) := by decide +kernel
theorem dX1_keepChanged_7 : decode cX1_keepChanged 7 = .ok (.aload_n 0, 1) := by decide +kernel
theorem dX1_keepChanged_8 : decode cX1_keepChanged 8 = .ok (.getfield 21, 3) := by decide +kernel
theorem dX1_keepChanged_11 : decode cX1_keepChanged 11 = .ok (.if_icmp .ge 38, 3) := by decide +kernel
theorem dX1_keepChanged_14 : decode cX1_keepChanged 14 = .ok (.iload_n 3, 1) := by decide +kernel
theorem dX1_keepChanged_15 : decode cX1_keepChanged 15 = .ok (.aload_n 0, 1) := by decide +kernel
theorem dX1_keepChanged_16 : decode cX1_keepChanged 16 = .ok (.getfield 15, 3) := by decide +kernel
theorem dX1_keepChanged_19 : decode cX1_keepChanged 19 = .ok (.arraylength, 1) := by decide +kernel
theorem dX1_keepChanged_20 : decode cX1_keepChanged 20 = .ok (.if_icmp .ge 29, 3) := by decide +kernel
theorem dX1_keepChanged_23 : decode cX1_keepChanged 23 = .ok (.aload_n 1, 1) := by decide +kernel
theorem dX1_keepChanged_24 : decode cX1_keepChanged 24 = .ok (.aload_n 0, 1) := by decide +kernel
theorem dX1_keepChanged_25 : decode cX1_keepChanged 25 = .ok (.getfield 15, 3) := by decide +kernel
theorem dX1_keepChanged_28 : decode cX1_keepChanged 28 = .ok (.iload_n 3, 1) := by decide +kernel
theorem dX1_keepChanged_29 : decode cX1_keepChanged 29 = .ok (.iaload, 1) := by decide +kernel
theorem dX1_keepChanged_30 : decode cX1_keepChanged 30 = .ok (.aload_n 0, 1) := by decide +kernel
theorem dX1_keepChanged_31 : decode cX1_keepChanged 31 = .ok (.aload_n 0, 1) := by decide +kernel
theorem dX1_keepChanged_32 : decode cX1_keepChanged 32 = .ok (.getfield 15, 3) := by decide +kernel
theorem dX1_keepChanged_35 : decode cX1_keepChanged 35 = .ok (.iload_n 3, 1) := by decide +kernel
theorem dX1_keepChanged_36 : decode cX1_keepChanged 36 = .ok (.iaload, 1) := by decide +kernel
theorem dX1_keepChanged_37 : decode cX1_keepChanged 37 = .ok (.invokevirtual 37, 3) := by decide +kernel
theorem dX1_keepChanged_40 : decode cX1_keepChanged 40 = .ok (.invokevirtual 25, 3) := by decide +kernel
theorem dX1_keepChanged_43 : decode cX1_keepChanged 43 = .ok (.iinc 3 1, 3) := by decide +kernel
theorem dX1_keepChanged_46 : decode cX1_keepChanged 46 = .ok (.goto (-40), 3) := by decide +kernel
theorem dX1_keepChanged_49 : decode cX1_keepChanged 49 = .ok (.return_, 1) := by decide +kernel
theorem dX1_contentAfter_0 : decode cX1_contentAfter 0 = .ok (.iconst 0, 1) := by decide +kernel
theorem dX1_contentAfter_1 : decode cX1_contentAfter 1 = .ok (.istore_n 3, 1) := by decide +kernel
theorem dX1_contentAfter_2 : decode cX1_contentAfter 2 = .ok (.iconst 0, 1) := by decide +kernel
theorem dX1_contentAfter_3 : decode cX1_contentAfter 3 = .ok (.istore 4, 2) := by decide +kernel
theorem dX1_contentAfter_5 : decode cX1_contentAfter 5 = .ok (.iload 4, 2) := by decide +kernel
theorem dX1_contentAfter_7 : decode cX1_contentAfter 7 = .ok (.iload_n 1, 1) := by decide +kernel
theorem dX1_contentAfter_8 : decode cX1_contentAfter 8 = .ok (.if_icmp .ge 48, 3) := by decide +kernel
theorem dX1_contentAfter_11 : decode cX1_contentAfter 11 = .ok (.iload 4, 2) := by decide +kernel
theorem dX1_contentAfter_13 : decode cX1_contentAfter 13 = .ok (.aload_n 0, 1) := by decide +kernel
theorem dX1_contentAfter_14 : decode cX1_contentAfter 14 = .ok (.getfield 15, 3) := by decide +kernel
theorem dX1_contentAfter_17 : decode cX1_contentAfter 17 = .ok (.arraylength, 1) := by decide +kernel
theorem dX1_contentAfter_18 : decode cX1_contentAfter 18 = .ok (.if_icmp .ge 38, 3) := by decide +kernel
theorem dX1_contentAfter_21 : decode cX1_contentAfter 21 = .ok (.iload 4, 2) := by decide +kernel
theorem dX1_contentAfter_23 : decode cX1_contentAfter 23 = .ok (.aload_n 0, 1) := by decide +kernel
theorem dX1_contentAfter_24 : decode cX1_contentAfter 24 = .ok (.getfield 18, 3) := by decide +kernel
theorem dX1_contentAfter_27 : decode cX1_contentAfter 27 = .ok (.arraylength, 1) := by decide +kernel
theorem dX1_contentAfter_28 : decode cX1_contentAfter 28 = .ok (.if_icmp .ge 28, 3) := by decide +kernel
theorem dX1_contentAfter_31 : decode cX1_contentAfter 31 = .ok (.aload_n 0, 1) := by decide +kernel
theorem dX1_contentAfter_32 : decode cX1_contentAfter 32 = .ok (.getfield 15, 3) := by decide +kernel
theorem dX1_contentAfter_35 : decode cX1_contentAfter 35 = .ok (.iload 4, 2) := by decide +kernel
theorem dX1_contentAfter_37 : decode cX1_contentAfter 37 = .ok (.iaload, 1) := by decide +kernel
theorem dX1_contentAfter_38 : decode cX1_contentAfter 38 = .ok (.iload_n 2, 1) := by decide +kernel
theorem dX1_contentAfter_39 : decode cX1_contentAfter 39 = .ok (.if_icmp .ne 11, 3) := by decide +kernel
theorem dX1_contentAfter_42 : decode cX1_contentAfter 42 = .ok (.aload_n 0, 1) := by decide +kernel
theorem dX1_contentAfter_43 : decode cX1_contentAfter 43 = .ok (.getfield 18, 3) := by decide +kernel
theorem dX1_contentAfter_46 : decode cX1_contentAfter 46 = .ok (.iload 4, 2) := by decide +kernel
theorem dX1_contentAfter_48 : decode cX1_contentAfter 48 = .ok (.iaload, 1) := by decide +kernel
theorem dX1_contentAfter_49 : decode cX1_contentAfter 49 = .ok (.istore_n 3, 1) := by decide +kernel
theorem dX1_contentAfter_50 : decode cX1_contentAfter 50 = .ok (.iinc 4 1, 3) := by decide +kernel
theorem dX1_contentAfter_53 : decode cX1_contentAfter 53 = .ok (.goto (-48), 3) := by decide +kernel
theorem dX1_contentAfter_56 : decode cX1_contentAfter 56 = .ok (.iload_n 3, 1) := by decide +kernel
theorem dX1_contentAfter_57 : decode cX1_contentAfter 57 = .ok (.ireturn, 1) := by decide +kernel
theorem dX2_init_0 : decode cX2_init 0 = .ok (.aload_n 0, 1) := by decide +kernel
theorem dX2_init_1 : decode cX2_init 1 = .ok (.invokespecial 3, 3) := by decide +kernel
theorem dX2_init_4 : decode cX2_init 4 = .ok (.aload_n 0, 1) := by decide +kernel
theorem dX2_init_5 : decode cX2_init 5 = .ok (.sipush 365, 3) := by decide +kernel
theorem dX2_init_8 : decode cX2_init 8 = .ok (.newarray .int, 2) := by decide +kernel
theorem dX2_init_10 : decode cX2_init 10 = .ok (.putfield 9, 3) := by decide +kernel
theorem dX2_init_13 : decode cX2_init 13 = .ok (.iconst 0, 1) := by decide +kernel
theorem dX2_init_14 : decode cX2_init 14 = .ok (.istore_n 1, 1) := by decide +kernel
theorem dX2_init_15 : decode cX2_init 15 = .ok (.iload_n 1, 1) := by decide +kernel
theorem dX2_init_16 : decode cX2_init 16 = .ok (.aload_n 0, 1) := by decide +kernel
theorem dX2_init_17 : decode cX2_init 17 = .ok (.getfield 9, 3) := by decide +kernel
theorem dX2_init_20 : decode cX2_init 20 = .ok (.arraylength, 1) := by decide +kernel
theorem dX2_init_21 : decode cX2_init 21 = .ok (.if_icmp .ge 18, 3) := by decide +kernel
theorem dX2_init_24 : decode cX2_init 24 = .ok (.aload_n 0, 1) := by decide +kernel
theorem dX2_init_25 : decode cX2_init 25 = .ok (.getfield 9, 3) := by decide +kernel
theorem dX2_init_28 : decode cX2_init 28 = .ok (.iload_n 1, 1) := by decide +kernel
theorem dX2_init_29 : decode cX2_init 29 = .ok (.iload_n 1, 1) := by decide +kernel
theorem dX2_init_30 : decode cX2_init 30 = .ok (.iconst 5, 1) := by decide +kernel
theorem dX2_init_31 : decode cX2_init 31 = .ok (.irem, 1) := by decide +kernel
theorem dX2_init_32 : decode cX2_init 32 = .ok (.iastore, 1) := by decide +kernel
theorem dX2_init_33 : decode cX2_init 33 = .ok (.iinc 1 1, 3) := by decide +kernel
theorem dX2_init_36 : decode cX2_init 36 = .ok (.goto (-21), 3) := by decide +kernel
theorem dX2_init_39 : decode cX2_init 39 = .ok (.return_, 1) := by decide +kernel
theorem dX2_personOn_0 : decode cX2_personOn 0 = .ok (.iload_n 1, 1) := by decide +kernel
theorem dX2_personOn_1 : decode cX2_personOn 1 = .ok (.ifCond .lt 21, 3) := by decide +kernel
theorem dX2_personOn_4 : decode cX2_personOn 4 = .ok (.iload_n 1, 1) := by decide +kernel
theorem dX2_personOn_5 : decode cX2_personOn 5 = .ok (.aload_n 0, 1) := by decide +kernel
theorem dX2_personOn_6 : decode cX2_personOn 6 = .ok (.getfield 9, 3) := by decide +kernel
theorem dX2_personOn_9 : decode cX2_personOn 9 = .ok (.arraylength, 1) := by decide +kernel
theorem dX2_personOn_10 : decode cX2_personOn 10 = .ok (.if_icmp .ge 12, 3) := by decide +kernel
theorem dX2_personOn_13 : decode cX2_personOn 13 = .ok (.aload_n 0, 1) := by decide +kernel
theorem dX2_personOn_14 : decode cX2_personOn 14 = .ok (.getfield 9, 3) := by decide +kernel
theorem dX2_personOn_17 : decode cX2_personOn 17 = .ok (.iload_n 1, 1) := by decide +kernel
theorem dX2_personOn_18 : decode cX2_personOn 18 = .ok (.iaload, 1) := by decide +kernel
theorem dX2_personOn_19 : decode cX2_personOn 19 = .ok (.goto 4, 3) := by decide +kernel
theorem dX2_personOn_22 : decode cX2_personOn 22 = .ok (.iconst (-1), 1) := by decide +kernel
theorem dX2_personOn_23 : decode cX2_personOn 23 = .ok (.ireturn, 1) := by decide +kernel
theorem dX2_exchangeIfRested_0 : decode cX2_exchangeIfRested 0 = .ok (.aload_n 0, 1) := by decide +kernel
theorem dX2_exchangeIfRested_1 : decode cX2_exchangeIfRested 1 = .ok (.iload_n 1, 1) := by decide +kernel
theorem dX2_exchangeIfRested_2 : decode cX2_exchangeIfRested 2 = .ok (.iload_n 2, 1) := by decide +kernel
theorem dX2_exchangeIfRested_3 : decode cX2_exchangeIfRested 3 = .ok (.invokevirtual 15, 3) := by decide +kernel
theorem dX2_exchangeIfRested_6 : decode cX2_exchangeIfRested 6 = .ok (.aload_n 0, 1) := by decide +kernel
theorem dX2_exchangeIfRested_7 : decode cX2_exchangeIfRested 7 = .ok (.iload_n 1, 1) := by decide +kernel
theorem dX2_exchangeIfRested_8 : decode cX2_exchangeIfRested 8 = .ok (.invokevirtual 19, 3) := by decide +kernel
theorem dX2_exchangeIfRested_11 : decode cX2_exchangeIfRested 11 = .ok (.ifCond .eq 13, 3) := by decide +kernel
theorem dX2_exchangeIfRested_14 : decode cX2_exchangeIfRested 14 = .ok (.aload_n 0, 1) := by decide +kernel
theorem dX2_exchangeIfRested_15 : decode cX2_exchangeIfRested 15 = .ok (.iload_n 2, 1) := by decide +kernel
theorem dX2_exchangeIfRested_16 : decode cX2_exchangeIfRested 16 = .ok (.invokevirtual 19, 3) := by decide +kernel
theorem dX2_exchangeIfRested_19 : decode cX2_exchangeIfRested 19 = .ok (.ifCond .eq 5, 3) := by decide +kernel
theorem dX2_exchangeIfRested_22 : decode cX2_exchangeIfRested 22 = .ok (.iconst 1, 1) := by decide +kernel
theorem dX2_exchangeIfRested_23 : decode cX2_exchangeIfRested 23 = .ok (.ireturn, 1) := by decide +kernel
theorem dX2_exchangeIfRested_24 : decode cX2_exchangeIfRested 24 = .ok (.aload_n 0, 1) := by decide +kernel
theorem dX2_exchangeIfRested_25 : decode cX2_exchangeIfRested 25 = .ok (.iload_n 1, 1) := by decide +kernel
theorem dX2_exchangeIfRested_26 : decode cX2_exchangeIfRested 26 = .ok (.iload_n 2, 1) := by decide +kernel
theorem dX2_exchangeIfRested_27 : decode cX2_exchangeIfRested 27 = .ok (.invokevirtual 15, 3) := by decide +kernel
theorem dX2_exchangeIfRested_30 : decode cX2_exchangeIfRested 30 = .ok (.iconst 0, 1) := by decide +kernel
theorem dX2_exchangeIfRested_31 : decode cX2_exchangeIfRested 31 = .ok (.ireturn, 1) := by decide +kernel
theorem dX2_exchange_0 : decode cX2_exchange 0 = .ok (.iload_n 1, 1) := by decide +kernel
theorem dX2_exchange_1 : decode cX2_exchange 1 = .ok (.ifCond .lt 25, 3) := by decide +kernel
theorem dX2_exchange_4 : decode cX2_exchange 4 = .ok (.iload_n 1, 1) := by decide +kernel
theorem dX2_exchange_5 : decode cX2_exchange 5 = .ok (.aload_n 0, 1) := by decide +kernel
theorem dX2_exchange_6 : decode cX2_exchange 6 = .ok (.getfield 9, 3) := by decide +kernel
theorem dX2_exchange_9 : decode cX2_exchange 9 = .ok (.arraylength, 1) := by decide +kernel
theorem dX2_exchange_10 : decode cX2_exchange 10 = .ok (.if_icmp .ge 16, 3) := by decide +kernel
theorem dX2_exchange_13 : decode cX2_exchange 13 = .ok (.iload_n 2, 1) := by decide +kernel
theorem dX2_exchange_14 : decode cX2_exchange 14 = .ok (.ifCond .lt 12, 3) := by decide +kernel
theorem dX2_exchange_17 : decode cX2_exchange 17 = .ok (.iload_n 2, 1) := by decide +kernel
theorem dX2_exchange_18 : decode cX2_exchange 18 = .ok (.aload_n 0, 1) := by decide +kernel
theorem dX2_exchange_19 : decode cX2_exchange 19 = .ok (.getfield 9, 3) := by decide +kernel
theorem dX2_exchange_22 : decode cX2_exchange 22 = .ok (.arraylength, 1) := by decide +kernel
theorem dX2_exchange_23 : decode cX2_exchange 23 = .ok (.if_icmp .lt 4, 3) := by decide +kernel
theorem dX2_exchange_26 : decode cX2_exchange 26 = .ok (.return_, 1) := by decide +kernel
theorem dX2_exchange_27 : decode cX2_exchange 27 = .ok (.aload_n 0, 1) := by decide +kernel
theorem dX2_exchange_28 : decode cX2_exchange 28 = .ok (.getfield 9, 3) := by decide +kernel
theorem dX2_exchange_31 : decode cX2_exchange 31 = .ok (.iload_n 1, 1) := by decide +kernel
theorem dX2_exchange_32 : decode cX2_exchange 32 = .ok (.iaload, 1) := by decide +kernel
theorem dX2_exchange_33 : decode cX2_exchange 33 = .ok (.istore_n 3, 1) := by decide +kernel
theorem dX2_exchange_34 : decode cX2_exchange 34 = .ok (.aload_n 0, 1) := by decide +kernel
theorem dX2_exchange_35 : decode cX2_exchange 35 = .ok (.getfield 9, 3) := by decide +kernel
theorem dX2_exchange_38 : decode cX2_exchange 38 = .ok (.iload_n 1, 1) := by decide +kernel
theorem dX2_exchange_39 : decode cX2_exchange 39 = .ok (.aload_n 0, 1) := by decide +kernel
theorem dX2_exchange_40 : decode cX2_exchange 40 = .ok (.getfield 9, 3) := by decide +kernel
theorem dX2_exchange_43 : decode cX2_exchange 43 = .ok (.iload_n 2, 1) := by decide +kernel
theorem dX2_exchange_44 : decode cX2_exchange 44 = .ok (.iaload, 1) := by decide +kernel
theorem dX2_exchange_45 : decode cX2_exchange 45 = .ok (.iastore, 1) := by decide +kernel
theorem dX2_exchange_46 : decode cX2_exchange 46 = .ok (.aload_n 0, 1) := by decide +kernel
theorem dX2_exchange_47 : decode cX2_exchange 47 = .ok (.getfield 9, 3) := by decide +kernel
theorem dX2_exchange_50 : decode cX2_exchange 50 = .ok (.iload_n 2, 1) := by decide +kernel
theorem dX2_exchange_51 : decode cX2_exchange 51 = .ok (.iload_n 3, 1) := by decide +kernel
theorem dX2_exchange_52 : decode cX2_exchange 52 = .ok (.iastore, 1) := by decide +kernel
theorem dX2_exchange_53 : decode cX2_exchange 53 = .ok (.return_, 1) := by decide +kernel
theorem dX2_isRestedAround_0 : decode cX2_isRestedAround 0 = .ok (.aload_n 0, 1) := by decide +kernel
theorem dX2_isRestedAround_1 : decode cX2_isRestedAround 1 = .ok (.iload_n 1, 1) := by decide +kernel
theorem dX2_isRestedAround_2 : decode cX2_isRestedAround 2 = .ok (.invokevirtual 23, 3) := by decide +kernel
theorem dX2_isRestedAround_5 : decode cX2_isRestedAround 5 = .ok (.istore_n 2, 1) := by decide +kernel
theorem dX2_isRestedAround_6 : decode cX2_isRestedAround 6 = .ok (.iload_n 2, 1) := by decide +kernel
theorem dX2_isRestedAround_7 : decode cX2_isRestedAround 7 = .ok (.aload_n 0, 1) := by decide +kernel
theorem dX2_isRestedAround_8 : decode cX2_isRestedAround 8 = .ok (.iload_n 1, 1) := by decide +kernel
theorem dX2_isRestedAround_9 : decode cX2_isRestedAround 9 = .ok (.iconst 1, 1) := by decide +kernel
theorem dX2_isRestedAround_10 : decode cX2_isRestedAround 10 = .ok (.isub, 1) := by decide +kernel
theorem dX2_isRestedAround_11 : decode cX2_isRestedAround 11 = .ok (.invokevirtual 23, 3) := by decide +kernel
theorem dX2_isRestedAround_14 : decode cX2_isRestedAround 14 = .ok (.if_icmp .eq 18, 3) := by decide +kernel
theorem dX2_isRestedAround_17 : decode cX2_isRestedAround 17 = .ok (.iload_n 2, 1) := by decide +kernel
theorem dX2_isRestedAround_18 : decode cX2_isRestedAround 18 = .ok (.aload_n 0, 1) := by decide +kernel
theorem dX2_isRestedAround_19 : decode cX2_isRestedAround 19 = .ok (.iload_n 1, 1) := by decide +kernel
theorem dX2_isRestedAround_20 : decode cX2_isRestedAround 20 = .ok (.iconst 1, 1) := by decide +kernel
theorem dX2_isRestedAround_21 : decode cX2_isRestedAround 21 = .ok (.iadd, 1) := by decide +kernel
theorem dX2_isRestedAround_22 : decode cX2_isRestedAround 22 = .ok (.invokevirtual 23, 3) := by decide +kernel
theorem dX2_isRestedAround_25 : decode cX2_isRestedAround 25 = .ok (.if_icmp .eq 7, 3) := by decide +kernel
theorem dX2_isRestedAround_28 : decode cX2_isRestedAround 28 = .ok (.iconst 1, 1) := by decide +kernel
theorem dX2_isRestedAround_29 : decode cX2_isRestedAround 29 = .ok (.goto 4, 3) := by decide +kernel
theorem dX2_isRestedAround_32 : decode cX2_isRestedAround 32 = .ok (.iconst 0, 1) := by decide +kernel
theorem dX2_isRestedAround_33 : decode cX2_isRestedAround 33 = .ok (.ireturn, 1) := by decide +kernel
theorem dX2_firstToAnswer_0 : decode cX2_firstToAnswer 0 = .ok (.iconst 0, 1) := by decide +kernel
theorem dX2_firstToAnswer_1 : decode cX2_firstToAnswer 1 = .ok (.istore_n 3, 1) := by decide +kernel
theorem dX2_firstToAnswer_2 : decode cX2_firstToAnswer 2 = .ok (.iload_n 3, 1) := by decide +kernel
theorem dX2_firstToAnswer_3 : decode cX2_firstToAnswer 3 = .ok (.iconst 3, 1) := by decide +kernel
theorem dX2_firstToAnswer_4 : decode cX2_firstToAnswer 4 = .ok (.if_icmp .gt 41, 3) := by decide +kernel
theorem dX2_firstToAnswer_7 : decode cX2_firstToAnswer 7 = .ok (.aload_n 0, 1) := by decide +kernel
theorem dX2_firstToAnswer_8 : decode cX2_firstToAnswer 8 = .ok (.iload_n 1, 1) := by decide +kernel
theorem dX2_firstToAnswer_9 : decode cX2_firstToAnswer 9 = .ok (.iload_n 3, 1) := by decide +kernel
theorem dX2_firstToAnswer_10 : decode cX2_firstToAnswer 10 = .ok (.iadd, 1) := by decide +kernel
theorem dX2_firstToAnswer_11 : decode cX2_firstToAnswer 11 = .ok (.invokevirtual 23, 3) := by decide +kernel
theorem dX2_firstToAnswer_14 : decode cX2_firstToAnswer 14 = .ok (.istore 4, 2) := by decide +kernel
theorem dX2_firstToAnswer_16 : decode cX2_firstToAnswer 16 = .ok (.iload 4, 2) := by decide +kernel
theorem dX2_firstToAnswer_18 : decode cX2_firstToAnswer 18 = .ok (.ifCond .lt 21, 3) := by decide +kernel
theorem dX2_firstToAnswer_21 : decode cX2_firstToAnswer 21 = .ok (.iload 4, 2) := by decide +kernel
theorem dX2_firstToAnswer_23 : decode cX2_firstToAnswer 23 = .ok (.iconst 5, 1) := by decide +kernel
theorem dX2_firstToAnswer_24 : decode cX2_firstToAnswer 24 = .ok (.if_icmp .ge 15, 3) := by decide +kernel
theorem dX2_firstToAnswer_27 : decode cX2_firstToAnswer 27 = .ok (.iload_n 2, 1) := by decide +kernel
theorem dX2_firstToAnswer_28 : decode cX2_firstToAnswer 28 = .ok (.iconst 1, 1) := by decide +kernel
theorem dX2_firstToAnswer_29 : decode cX2_firstToAnswer 29 = .ok (.iload 4, 2) := by decide +kernel
theorem dX2_firstToAnswer_31 : decode cX2_firstToAnswer 31 = .ok (.ishl, 1) := by decide +kernel
theorem dX2_firstToAnswer_32 : decode cX2_firstToAnswer 32 = .ok (.iand, 1) := by decide +kernel
theorem dX2_firstToAnswer_33 : decode cX2_firstToAnswer 33 = .ok (.ifCond .eq 6, 3) := by decide +kernel
theorem dX2_firstToAnswer_36 : decode cX2_firstToAnswer 36 = .ok (.iload 4, 2) := by decide +kernel
theorem dX2_firstToAnswer_38 : decode cX2_firstToAnswer 38 = .ok (.ireturn, 1) := by decide +kernel
theorem dX2_firstToAnswer_39 : decode cX2_firstToAnswer 39 = .ok (.iinc 3 1, 3) := by decide +kernel
theorem dX2_firstToAnswer_42 : decode cX2_firstToAnswer 42 = .ok (.goto (-40), 3) := by decide +kernel
theorem dX2_firstToAnswer_45 : decode cX2_firstToAnswer 45 = .ok (.iconst (-1), 1) := by decide +kernel
theorem dX2_firstToAnswer_46 : decode cX2_firstToAnswer 46 = .ok (.ireturn, 1) := by decide +kernel
theorem dX3_init_0 : decode cX3_init 0 = .ok (.aload_n 0, 1) := by decide +kernel
theorem dX3_init_1 : decode cX3_init 1 = .ok (.invokespecial 3, 3) := by decide +kernel
theorem dX3_init_4 : decode cX3_init 4 = .ok (.aload_n 0, 1) := by decide +kernel
theorem dX3_init_5 : decode cX3_init 5 = .ok (.bipush 60, 2) := by decide +kernel
theorem dX3_init_7 : decode cX3_init 7 = .ok (.anewarray 9, 3) := by decide +kernel
theorem dX3_init_10 : decode cX3_init 10 = .ok (.putfield 11, 3) := by decide +kernel
theorem dX3_init_13 : decode cX3_init 13 = .ok (.aload_n 0, 1) := by decide +kernel
theorem dX3_init_14 : decode cX3_init 14 = .ok (.iconst 3, 1) := by decide +kernel
theorem dX3_init_15 : decode cX3_init 15 = .ok (.putfield 17, 3) := by decide +kernel
theorem dX3_init_18 : decode cX3_init 18 = .ok (.aload_n 0, 1) := by decide +kernel
theorem dX3_init_19 : decode cX3_init 19 = .ok (.iconst 2, 1) := by decide +kernel
theorem dX3_init_20 : decode cX3_init 20 = .ok (.putfield 21, 3) := by decide +kernel
theorem dX3_init_23 : decode cX3_init 23 = .ok (.aload_n 0, 1) := by decide +kernel
theorem dX3_init_24 : decode cX3_init 24 = .ok (.iconst 1, 1) := by decide +kernel
theorem dX3_init_25 : decode cX3_init 25 = .ok (.putfield 24, 3) := by decide +kernel
theorem dX3_init_28 : decode cX3_init 28 = .ok (.return_, 1) := by decide +kernel
theorem dX3_find_0 : decode cX3_find 0 = .ok (.iload_n 1, 1) := by decide +kernel
theorem dX3_find_1 : decode cX3_find 1 = .ok (.ifCond .lt 21, 3) := by decide +kernel
theorem dX3_find_4 : decode cX3_find 4 = .ok (.iload_n 1, 1) := by decide +kernel
theorem dX3_find_5 : decode cX3_find 5 = .ok (.aload_n 0, 1) := by decide +kernel
theorem dX3_find_6 : decode cX3_find 6 = .ok (.getfield 11, 3) := by decide +kernel
theorem dX3_find_9 : decode cX3_find 9 = .ok (.arraylength, 1) := by decide +kernel
theorem dX3_find_10 : decode cX3_find 10 = .ok (.if_icmp .ge 12, 3) := by decide +kernel
theorem dX3_find_13 : decode cX3_find 13 = .ok (.aload_n 0, 1) := by decide +kernel
theorem dX3_find_14 : decode cX3_find 14 = .ok (.getfield 11, 3) := by decide +kernel
theorem dX3_find_17 : decode cX3_find 17 = .ok (.iload_n 1, 1) := by decide +kernel
theorem dX3_find_18 : decode cX3_find 18 = .ok (.aaload, 1) := by decide +kernel
theorem dX3_find_19 : decode cX3_find 19 = .ok (.goto 4, 3) := by decide +kernel
theorem dX3_find_22 : decode cX3_find 22 = .ok (.aconst_null, 1) := by decide +kernel
theorem dX3_find_23 : decode cX3_find 23 = .ok (.areturn, 1) := by decide +kernel
theorem dX3_latest_0 : decode cX3_latest 0 = .ok (.aload_n 0, 1) := by decide +kernel
theorem dX3_latest_1 : decode cX3_latest 1 = .ok (.getfield 11, 3) := by decide +kernel
theorem dX3_latest_4 : decode cX3_latest 4 = .ok (.arraylength, 1) := by decide +kernel
theorem dX3_latest_5 : decode cX3_latest 5 = .ok (.iconst 1, 1) := by decide +kernel
theorem dX3_latest_6 : decode cX3_latest 6 = .ok (.isub, 1) := by decide +kernel
theorem dX3_latest_7 : decode cX3_latest 7 = .ok (.istore_n 1, 1) := by decide +kernel
theorem dX3_latest_8 : decode cX3_latest 8 = .ok (.iload_n 1, 1) := by decide +kernel
theorem dX3_latest_9 : decode cX3_latest 9 = .ok (.ifCond .lt 25, 3) := by decide +kernel
theorem dX3_latest_12 : decode cX3_latest 12 = .ok (.aload_n 0, 1) := by decide +kernel
theorem dX3_latest_13 : decode cX3_latest 13 = .ok (.getfield 11, 3) := by decide +kernel
theorem dX3_latest_16 : decode cX3_latest 16 = .ok (.iload_n 1, 1) := by decide +kernel
theorem dX3_latest_17 : decode cX3_latest 17 = .ok (.aaload, 1) := by decide +kernel
theorem dX3_latest_18 : decode cX3_latest 18 = .ok (.ifnull 10, 3) := by decide +kernel
theorem dX3_latest_21 : decode cX3_latest 21 = .ok (.aload_n 0, 1) := by decide +kernel
theorem dX3_latest_22 : decode cX3_latest 22 = .ok (.getfield 11, 3) := by decide +kernel
theorem dX3_latest_25 : decode cX3_latest 25 = .ok (.iload_n 1, 1) := by decide +kernel
theorem dX3_latest_26 : decode cX3_latest 26 = .ok (.aaload, 1) := by decide +kernel
theorem dX3_latest_27 : decode cX3_latest 27 = .ok (.areturn, 1) := by decide +kernel
theorem dX3_latest_28 : decode cX3_latest 28 = .ok (.iinc 1 (-1), 3) := by decide +kernel
theorem dX3_latest_31 : decode cX3_latest 31 = .ok (.goto (-23), 3) := by decide +kernel
theorem dX3_latest_34 : decode cX3_latest 34 = .ok (.aconst_null, 1) := by decide +kernel
theorem dX3_latest_35 : decode cX3_latest 35 = .ok (.areturn, 1) := by decide +kernel
theorem dX3_put_0 : decode cX3_put 0 = .ok (.aload_n 0, 1) := by decide +kernel
theorem dX3_put_1 : decode cX3_put 1 = .ok (.getfield 27, 3) := by decide +kernel
theorem dX3_put_4 : decode cX3_put 4 = .ok (.ifCond .lt 35, 3) := by decide +kernel
theorem dX3_put_7 : decode cX3_put 7 = .ok (.aload_n 0, 1) := by decide +kernel
theorem dX3_put_8 : decode cX3_put 8 = .ok (.getfield 27, 3) := by decide +kernel
theorem dX3_put_11 : decode cX3_put 11 = .ok (.aload_n 0, 1) := by decide +kernel
theorem dX3_put_12 : decode cX3_put 12 = .ok (.getfield 11, 3) := by decide +kernel
theorem dX3_put_15 : decode cX3_put 15 = .ok (.arraylength, 1) := by decide +kernel
theorem dX3_put_16 : decode cX3_put 16 = .ok (.if_icmp .ge 23, 3) := by decide +kernel
theorem dX3_put_19 : decode cX3_put 19 = .ok (.aload_n 0, 1) := by decide +kernel
theorem dX3_put_20 : decode cX3_put 20 = .ok (.getfield 11, 3) := by decide +kernel
theorem dX3_put_23 : decode cX3_put 23 = .ok (.aload_n 0, 1) := by decide +kernel
theorem dX3_put_24 : decode cX3_put 24 = .ok (.getfield 27, 3) := by decide +kernel
theorem dX3_put_27 : decode cX3_put 27 = .ok (.aload_n 1, 1) := by decide +kernel
theorem dX3_put_28 : decode cX3_put 28 = .ok (.aastore, 1) := by decide +kernel
theorem dX3_put_29 : decode cX3_put 29 = .ok (.aload_n 0, 1) := by decide +kernel
theorem dX3_put_30 : decode cX3_put 30 = .ok (.dup, 1) := by decide +kernel
theorem dX3_put_31 : decode cX3_put 31 = .ok (.getfield 27, 3) := by decide +kernel
theorem dX3_put_34 : decode cX3_put 34 = .ok (.iconst 1, 1) := by decide +kernel
theorem dX3_put_35 : decode cX3_put 35 = .ok (.iadd, 1) := by decide +kernel
theorem dX3_put_36 : decode cX3_put 36 = .ok (.putfield 27, 3) := by decide +kernel
theorem dX3_put_39 : decode cX3_put 39 = .ok (.return_, 1) := by decide +kernel
theorem dX3_countThere_0 : decode cX3_countThere 0 = .ok (.iconst 0, 1) := by decide +kernel
theorem dX3_countThere_1 : decode cX3_countThere 1 = .ok (.istore_n 1, 1) := by decide +kernel
theorem dX3_countThere_2 : decode cX3_countThere 2 = .ok (.aload_n 0, 1) := by decide +kernel
theorem dX3_countThere_3 : decode cX3_countThere 3 = .ok (.getfield 11, 3) := by decide +kernel
theorem dX3_countThere_6 : decode cX3_countThere 6 = .ok (.astore_n 2, 1) := by decide +kernel
theorem dX3_countThere_7 : decode cX3_countThere 7 = .ok (.aload_n 2, 1) := by decide +kernel
theorem dX3_countThere_8 : decode cX3_countThere 8 = .ok (.arraylength, 1) := by decide +kernel
theorem dX3_countThere_9 : decode cX3_countThere 9 = .ok (.istore_n 3, 1) := by decide +kernel
theorem dX3_countThere_10 : decode cX3_countThere 10 = .ok (.iconst 0, 1) := by decide +kernel
theorem dX3_countThere_11 : decode cX3_countThere 11 = .ok (.istore 4, 2) := by decide +kernel
theorem dX3_countThere_13 : decode cX3_countThere 13 = .ok (.iload 4, 2) := by decide +kernel
theorem dX3_countThere_15 : decode cX3_countThere 15 = .ok (.iload_n 3, 1) := by decide +kernel
theorem dX3_countThere_16 : decode cX3_countThere 16 = .ok (.if_icmp .ge 23, 3) := by decide +kernel
theorem dX3_countThere_19 : decode cX3_countThere 19 = .ok (.aload_n 2, 1) := by decide +kernel
theorem dX3_countThere_20 : decode cX3_countThere 20 = .ok (.iload 4, 2) := by decide +kernel
theorem dX3_countThere_22 : decode cX3_countThere 22 = .ok (.aaload, 1) := by decide +kernel
theorem dX3_countThere_23 : decode cX3_countThere 23 = .ok (.astore 5, 2) := by decide +kernel
theorem dX3_countThere_25 : decode cX3_countThere 25 = .ok (.aload 5, 2) := by decide +kernel
theorem dX3_countThere_27 : decode cX3_countThere 27 = .ok (.ifnull 6, 3) := by decide +kernel
theorem dX3_countThere_30 : decode cX3_countThere 30 = .ok (.iinc 1 1, 3) := by decide +kernel
theorem dX3_countThere_33 : decode cX3_countThere 33 = .ok (.iinc 4 1, 3) := by decide +kernel
theorem dX3_countThere_36 : decode cX3_countThere 36 = .ok (.goto (-23), 3) := by decide +kernel
theorem dX3_countThere_39 : decode cX3_countThere 39 = .ok (.iload_n 1, 1) := by decide +kernel
theorem dX3_countThere_40 : decode cX3_countThere 40 = .ok (.ireturn, 1) := by decide +kernel
theorem dX3_spaceTaken_0 : decode cX3_spaceTaken 0 = .ok (.iconst 0, 1) := by decide +kernel
theorem dX3_spaceTaken_1 : decode cX3_spaceTaken 1 = .ok (.istore_n 1, 1) := by decide +kernel
theorem dX3_spaceTaken_2 : decode cX3_spaceTaken 2 = .ok (.aload_n 0, 1) := by decide +kernel
theorem dX3_spaceTaken_3 : decode cX3_spaceTaken 3 = .ok (.getfield 11, 3) := by decide +kernel
theorem dX3_spaceTaken_6 : decode cX3_spaceTaken 6 = .ok (.astore_n 2, 1) := by decide +kernel
theorem dX3_spaceTaken_7 : decode cX3_spaceTaken 7 = .ok (.aload_n 2, 1) := by decide +kernel
theorem dX3_spaceTaken_8 : decode cX3_spaceTaken 8 = .ok (.arraylength, 1) := by decide +kernel
theorem dX3_spaceTaken_9 : decode cX3_spaceTaken 9 = .ok (.istore_n 3, 1) := by decide +kernel
theorem dX3_spaceTaken_10 : decode cX3_spaceTaken 10 = .ok (.iconst 0, 1) := by decide +kernel
theorem dX3_spaceTaken_11 : decode cX3_spaceTaken 11 = .ok (.istore 4, 2) := by decide +kernel
theorem dX3_spaceTaken_13 : decode cX3_spaceTaken 13 = .ok (.iload 4, 2) := by decide +kernel
theorem dX3_spaceTaken_15 : decode cX3_spaceTaken 15 = .ok (.iload_n 3, 1) := by decide +kernel
theorem dX3_spaceTaken_16 : decode cX3_spaceTaken 16 = .ok (.if_icmp .ge 28, 3) := by decide +kernel
theorem dX3_spaceTaken_19 : decode cX3_spaceTaken 19 = .ok (.aload_n 2, 1) := by decide +kernel
theorem dX3_spaceTaken_20 : decode cX3_spaceTaken 20 = .ok (.iload 4, 2) := by decide +kernel
theorem dX3_spaceTaken_22 : decode cX3_spaceTaken 22 = .ok (.aaload, 1) := by decide +kernel
theorem dX3_spaceTaken_23 : decode cX3_spaceTaken 23 = .ok (.astore 5, 2) := by decide +kernel
theorem dX3_spaceTaken_25 : decode cX3_spaceTaken 25 = .ok (.aload 5, 2) := by decide +kernel
theorem dX3_spaceTaken_27 : decode cX3_spaceTaken 27 = .ok (.ifnull 11, 3) := by decide +kernel
theorem dX3_spaceTaken_30 : decode cX3_spaceTaken 30 = .ok (.iload_n 1, 1) := by decide +kernel
theorem dX3_spaceTaken_31 : decode cX3_spaceTaken 31 = .ok (.aload 5, 2) := by decide +kernel
theorem dX3_spaceTaken_33 : decode cX3_spaceTaken 33 = .ok (.invokevirtual 30, 3) := by decide +kernel
theorem dX3_spaceTaken_36 : decode cX3_spaceTaken 36 = .ok (.iadd, 1) := by decide +kernel
theorem dX3_spaceTaken_37 : decode cX3_spaceTaken 37 = .ok (.istore_n 1, 1) := by decide +kernel
theorem dX3_spaceTaken_38 : decode cX3_spaceTaken 38 = .ok (.iinc 4 1, 3) := by decide +kernel
theorem dX3_spaceTaken_41 : decode cX3_spaceTaken 41 = .ok (.goto (-28), 3) := by decide +kernel
theorem dX3_spaceTaken_44 : decode cX3_spaceTaken 44 = .ok (.iload_n 1, 1) := by decide +kernel
theorem dX3_spaceTaken_45 : decode cX3_spaceTaken 45 = .ok (.ireturn, 1) := by decide +kernel
theorem dX3_markGenerations_0 : decode cX3_markGenerations 0 = .ok (.aload_n 0, 1) := by decide +kernel
theorem dX3_markGenerations_1 : decode cX3_markGenerations 1 = .ok (.getfield 11, 3) := by decide +kernel
theorem dX3_markGenerations_4 : decode cX3_markGenerations 4 = .ok (.astore_n 1, 1) := by decide +kernel
theorem dX3_markGenerations_5 : decode cX3_markGenerations 5 = .ok (.aload_n 1, 1) := by decide +kernel
theorem dX3_markGenerations_6 : decode cX3_markGenerations 6 = .ok (.arraylength, 1) := by decide +kernel
theorem dX3_markGenerations_7 : decode cX3_markGenerations 7 = .ok (.istore_n 2, 1) := by decide +kernel
theorem dX3_markGenerations_8 : decode cX3_markGenerations 8 = .ok (.iconst 0, 1) := by decide +kernel
theorem dX3_markGenerations_9 : decode cX3_markGenerations 9 = .ok (.istore_n 3, 1) := by decide +kernel
theorem dX3_markGenerations_10 : decode cX3_markGenerations 10 = .ok (.iload_n 3, 1) := by decide +kernel
theorem dX3_markGenerations_11 : decode cX3_markGenerations 11 = .ok (.iload_n 2, 1) := by decide +kernel
theorem dX3_markGenerations_12 : decode cX3_markGenerations 12 = .ok (.if_icmp .ge 31, 3) := by decide +kernel
theorem dX3_markGenerations_15 : decode cX3_markGenerations 15 = .ok (.aload_n 1, 1) := by decide +kernel
theorem dX3_markGenerations_16 : decode cX3_markGenerations 16 = .ok (.iload_n 3, 1) := by decide +kernel
theorem dX3_markGenerations_17 : decode cX3_markGenerations 17 = .ok (.aaload, 1) := by decide +kernel
theorem dX3_markGenerations_18 : decode cX3_markGenerations 18 = .ok (.astore 4, 2) := by decide +kernel
theorem dX3_markGenerations_20 : decode cX3_markGenerations 20 = .ok (.aload 4, 2) := by decide +kernel
theorem dX3_markGenerations_22 : decode cX3_markGenerations 22 = .ok (.ifnull 15, 3) := by decide +kernel
theorem dX3_markGenerations_25 : decode cX3_markGenerations 25 = .ok (.aload 4, 2) := by decide +kernel
theorem dX3_markGenerations_27 : decode cX3_markGenerations 27 = .ok (.iconst 0, 1) := by decide +kernel
theorem dX3_markGenerations_28 : decode cX3_markGenerations 28 = .ok (.putfield 34, 3) := by decide +kernel
theorem dX3_markGenerations_31 : decode cX3_markGenerations 31 = .ok (.aload 4, 2) := by decide +kernel
theorem dX3_markGenerations_33 : decode cX3_markGenerations 33 = .ok (.iconst 0, 1) := by decide +kernel
theorem dX3_markGenerations_34 : decode cX3_markGenerations 34 = .ok (.putfield 38, 3) := by decide +kernel
theorem dX3_markGenerations_37 : decode cX3_markGenerations 37 = .ok (.iinc 3 1, 3) := by decide +kernel
theorem dX3_markGenerations_40 : decode cX3_markGenerations 40 = .ok (.goto (-30), 3) := by decide +kernel
theorem dX3_markGenerations_43 : decode cX3_markGenerations 43 = .ok (.aload_n 0, 1) := by decide +kernel
theorem dX3_markGenerations_44 : decode cX3_markGenerations 44 = .ok (.iconst 0, 1) := by decide +kernel
theorem dX3_markGenerations_45 : decode cX3_markGenerations 45 = .ok (.aload_n 0, 1) := by decide +kernel
theorem dX3_markGenerations_46 : decode cX3_markGenerations 46 = .ok (.getfield 17, 3) := by decide +kernel
theorem dX3_markGenerations_49 : decode cX3_markGenerations 49 = .ok (.invokevirtual 41, 3) := by decide +kernel
theorem dX3_markGenerations_52 : decode cX3_markGenerations 52 = .ok (.aload_n 0, 1) := by decide +kernel
theorem dX3_markGenerations_53 : decode cX3_markGenerations 53 = .ok (.iconst 1, 1) := by decide +kernel
theorem dX3_markGenerations_54 : decode cX3_markGenerations 54 = .ok (.aload_n 0, 1) := by decide +kernel
theorem dX3_markGenerations_55 : decode cX3_markGenerations 55 = .ok (.getfield 21, 3) := by decide +kernel
theorem dX3_markGenerations_58 : decode cX3_markGenerations 58 = .ok (.invokevirtual 41, 3) := by decide +kernel
theorem dX3_markGenerations_61 : decode cX3_markGenerations 61 = .ok (.aload_n 0, 1) := by decide +kernel
theorem dX3_markGenerations_62 : decode cX3_markGenerations 62 = .ok (.iconst 2, 1) := by decide +kernel
theorem dX3_markGenerations_63 : decode cX3_markGenerations 63 = .ok (.aload_n 0, 1) := by decide +kernel
theorem dX3_markGenerations_64 : decode cX3_markGenerations 64 = .ok (.getfield 24, 3) := by decide +kernel
theorem dX3_markGenerations_67 : decode cX3_markGenerations 67 = .ok (.invokevirtual 41, 3) := by decide +kernel
theorem dX3_markGenerations_70 : decode cX3_markGenerations 70 = .ok (.aload_n 0, 1) := by decide +kernel
theorem dX3_markGenerations_71 : decode cX3_markGenerations 71 = .ok (.getfield 11, 3) := by decide +kernel
theorem dX3_markGenerations_74 : decode cX3_markGenerations 74 = .ok (.astore_n 1, 1) := by decide +kernel
theorem dX3_markGenerations_75 : decode cX3_markGenerations 75 = .ok (.aload_n 1, 1) := by decide +kernel
theorem dX3_markGenerations_76 : decode cX3_markGenerations 76 = .ok (.arraylength, 1) := by decide +kernel
theorem dX3_markGenerations_77 : decode cX3_markGenerations 77 = .ok (.istore_n 2, 1) := by decide +kernel
theorem dX3_markGenerations_78 : decode cX3_markGenerations 78 = .ok (.iconst 0, 1) := by decide +kernel
theorem dX3_markGenerations_79 : decode cX3_markGenerations 79 = .ok (.istore_n 3, 1) := by decide +kernel
theorem dX3_markGenerations_80 : decode cX3_markGenerations 80 = .ok (.iload_n 3, 1) := by decide +kernel
theorem dX3_markGenerations_81 : decode cX3_markGenerations 81 = .ok (.iload_n 2, 1) := by decide +kernel
theorem dX3_markGenerations_82 : decode cX3_markGenerations 82 = .ok (.if_icmp .ge 32, 3) := by decide +kernel
theorem dX3_markGenerations_85 : decode cX3_markGenerations 85 = .ok (.aload_n 1, 1) := by decide +kernel
theorem dX3_markGenerations_86 : decode cX3_markGenerations 86 = .ok (.iload_n 3, 1) := by decide +kernel
theorem dX3_markGenerations_87 : decode cX3_markGenerations 87 = .ok (.aaload, 1) := by decide +kernel
theorem dX3_markGenerations_88 : decode cX3_markGenerations 88 = .ok (.astore 4, 2) := by decide +kernel
theorem dX3_markGenerations_90 : decode cX3_markGenerations 90 = .ok (.aload 4, 2) := by decide +kernel
theorem dX3_markGenerations_92 : decode cX3_markGenerations 92 = .ok (.ifnull 16, 3) := by decide +kernel
theorem dX3_markGenerations_95 : decode cX3_markGenerations 95 = .ok (.aload 4, 2) := by decide +kernel
theorem dX3_markGenerations_97 : decode cX3_markGenerations 97 = .ok (.getfield 34, 3) := by decide +kernel
theorem dX3_markGenerations_100 : decode cX3_markGenerations 100 = .ok (.ifCond .eq 8, 3) := by decide +kernel
theorem dX3_markGenerations_103 : decode cX3_markGenerations 103 = .ok (.aload 4, 2) := by decide +kernel
theorem dX3_markGenerations_105 : decode cX3_markGenerations 105 = .ok (.invokevirtual 45, 3) := by decide +kernel
theorem dX3_markGenerations_108 : decode cX3_markGenerations 108 = .ok (.iinc 3 1, 3) := by decide +kernel
theorem dX3_markGenerations_111 : decode cX3_markGenerations 111 = .ok (.goto (-31), 3) := by decide +kernel
theorem dX3_markGenerations_114 : decode cX3_markGenerations 114 = .ok (.return_, 1) := by decide +kernel
theorem dX3_promiseLatest_0 : decode cX3_promiseLatest 0 = .ok (.iload_n 2, 1) := by decide +kernel
theorem dX3_promiseLatest_1 : decode cX3_promiseLatest 1 = .ok (.istore_n 3, 1) := by decide +kernel
theorem dX3_promiseLatest_2 : decode cX3_promiseLatest 2 = .ok (.iconst (-1), 1) := by decide +kernel
theorem dX3_promiseLatest_3 : decode cX3_promiseLatest 3 = .ok (.istore 4, 2) := by decide +kernel
theorem dX3_promiseLatest_5 : decode cX3_promiseLatest 5 = .ok (.aload_n 0, 1) := by decide +kernel
theorem dX3_promiseLatest_6 : decode cX3_promiseLatest 6 = .ok (.getfield 11, 3) := by decide +kernel
theorem dX3_promiseLatest_9 : decode cX3_promiseLatest 9 = .ok (.arraylength, 1) := by decide +kernel
theorem dX3_promiseLatest_10 : decode cX3_promiseLatest 10 = .ok (.iconst 1, 1) := by decide +kernel
theorem dX3_promiseLatest_11 : decode cX3_promiseLatest 11 = .ok (.isub, 1) := by decide +kernel
theorem dX3_promiseLatest_12 : decode cX3_promiseLatest 12 = .ok (.istore 5, 2) := by decide +kernel
theorem dX3_promiseLatest_14 : decode cX3_promiseLatest 14 = .ok (.iload 5, 2) := by decide +kernel
theorem dX3_promiseLatest_16 : decode cX3_promiseLatest 16 = .ok (.ifCond .lt 55, 3) := by decide +kernel
theorem dX3_promiseLatest_19 : decode cX3_promiseLatest 19 = .ok (.iload_n 3, 1) := by decide +kernel
theorem dX3_promiseLatest_20 : decode cX3_promiseLatest 20 = .ok (.ifCond .le 51, 3) := by decide +kernel
theorem dX3_promiseLatest_23 : decode cX3_promiseLatest 23 = .ok (.aload_n 0, 1) := by decide +kernel
theorem dX3_promiseLatest_24 : decode cX3_promiseLatest 24 = .ok (.getfield 11, 3) := by decide +kernel
theorem dX3_promiseLatest_27 : decode cX3_promiseLatest 27 = .ok (.iload 5, 2) := by decide +kernel
theorem dX3_promiseLatest_29 : decode cX3_promiseLatest 29 = .ok (.aaload, 1) := by decide +kernel
theorem dX3_promiseLatest_30 : decode cX3_promiseLatest 30 = .ok (.astore 6, 2) := by decide +kernel
theorem dX3_promiseLatest_32 : decode cX3_promiseLatest 32 = .ok (.aload 6, 2) := by decide +kernel
theorem dX3_promiseLatest_34 : decode cX3_promiseLatest 34 = .ok (.ifnull 31, 3) := by decide +kernel
theorem dX3_promiseLatest_37 : decode cX3_promiseLatest 37 = .ok (.aload 6, 2) := by decide +kernel
theorem dX3_promiseLatest_39 : decode cX3_promiseLatest 39 = .ok (.iload_n 1, 1) := by decide +kernel
theorem dX3_promiseLatest_40 : decode cX3_promiseLatest 40 = .ok (.invokevirtual 48, 3) := by decide +kernel
theorem dX3_promiseLatest_43 : decode cX3_promiseLatest 43 = .ok (.iload 4, 2) := by decide +kernel
theorem dX3_promiseLatest_45 : decode cX3_promiseLatest 45 = .ok (.if_icmp .eq 20, 3) := by decide +kernel
theorem dX3_promiseLatest_48 : decode cX3_promiseLatest 48 = .ok (.aload 6, 2) := by decide +kernel
theorem dX3_promiseLatest_50 : decode cX3_promiseLatest 50 = .ok (.iload_n 1, 1) := by decide +kernel
theorem dX3_promiseLatest_51 : decode cX3_promiseLatest 51 = .ok (.invokevirtual 48, 3) := by decide +kernel
theorem dX3_promiseLatest_54 : decode cX3_promiseLatest 54 = .ok (.istore 4, 2) := by decide +kernel
theorem dX3_promiseLatest_56 : decode cX3_promiseLatest 56 = .ok (.aload 6, 2) := by decide +kernel
theorem dX3_promiseLatest_58 : decode cX3_promiseLatest 58 = .ok (.iconst 1, 1) := by decide +kernel
theorem dX3_promiseLatest_59 : decode cX3_promiseLatest 59 = .ok (.putfield 34, 3) := by decide +kernel
theorem dX3_promiseLatest_62 : decode cX3_promiseLatest 62 = .ok (.iinc 3 (-1), 3) := by decide +kernel
theorem dX3_promiseLatest_65 : decode cX3_promiseLatest 65 = .ok (.iinc 5 (-1), 3) := by decide +kernel
theorem dX3_promiseLatest_68 : decode cX3_promiseLatest 68 = .ok (.goto (-54), 3) := by decide +kernel
theorem dX3_promiseLatest_71 : decode cX3_promiseLatest 71 = .ok (.return_, 1) := by decide +kernel
theorem dX3_countPromised_0 : decode cX3_countPromised 0 = .ok (.aload_n 0, 1) := by decide +kernel
theorem dX3_countPromised_1 : decode cX3_countPromised 1 = .ok (.invokevirtual 52, 3) := by decide +kernel
theorem dX3_countPromised_4 : decode cX3_countPromised 4 = .ok (.iconst 0, 1) := by decide +kernel
theorem dX3_countPromised_5 : decode cX3_countPromised 5 = .ok (.istore_n 1, 1) := by decide +kernel
theorem dX3_countPromised_6 : decode cX3_countPromised 6 = .ok (.aload_n 0, 1) := by decide +kernel
theorem dX3_countPromised_7 : decode cX3_countPromised 7 = .ok (.getfield 11, 3) := by decide +kernel
theorem dX3_countPromised_10 : decode cX3_countPromised 10 = .ok (.astore_n 2, 1) := by decide +kernel
theorem dX3_countPromised_11 : decode cX3_countPromised 11 = .ok (.aload_n 2, 1) := by decide +kernel
theorem dX3_countPromised_12 : decode cX3_countPromised 12 = .ok (.arraylength, 1) := by decide +kernel
theorem dX3_countPromised_13 : decode cX3_countPromised 13 = .ok (.istore_n 3, 1) := by decide +kernel
theorem dX3_countPromised_14 : decode cX3_countPromised 14 = .ok (.iconst 0, 1) := by decide +kernel
theorem dX3_countPromised_15 : decode cX3_countPromised 15 = .ok (.istore 4, 2) := by decide +kernel
theorem dX3_countPromised_17 : decode cX3_countPromised 17 = .ok (.iload 4, 2) := by decide +kernel
theorem dX3_countPromised_19 : decode cX3_countPromised 19 = .ok (.iload_n 3, 1) := by decide +kernel
theorem dX3_countPromised_20 : decode cX3_countPromised 20 = .ok (.if_icmp .ge 31, 3) := by decide +kernel
theorem dX3_countPromised_23 : decode cX3_countPromised 23 = .ok (.aload_n 2, 1) := by decide +kernel
theorem dX3_countPromised_24 : decode cX3_countPromised 24 = .ok (.iload 4, 2) := by decide +kernel
theorem dX3_countPromised_26 : decode cX3_countPromised 26 = .ok (.aaload, 1) := by decide +kernel
theorem dX3_countPromised_27 : decode cX3_countPromised 27 = .ok (.astore 5, 2) := by decide +kernel
theorem dX3_countPromised_29 : decode cX3_countPromised 29 = .ok (.aload 5, 2) := by decide +kernel
theorem dX3_countPromised_31 : decode cX3_countPromised 31 = .ok (.ifnull 14, 3) := by decide +kernel
theorem dX3_countPromised_34 : decode cX3_countPromised 34 = .ok (.aload 5, 2) := by decide +kernel
theorem dX3_countPromised_36 : decode cX3_countPromised 36 = .ok (.getfield 34, 3) := by decide +kernel
theorem dX3_countPromised_39 : decode cX3_countPromised 39 = .ok (.ifCond .eq 6, 3) := by decide +kernel
theorem dX3_countPromised_42 : decode cX3_countPromised 42 = .ok (.iinc 1 1, 3) := by decide +kernel
theorem dX3_countPromised_45 : decode cX3_countPromised 45 = .ok (.iinc 4 1, 3) := by decide +kernel
theorem dX3_countPromised_48 : decode cX3_countPromised 48 = .ok (.goto (-31), 3) := by decide +kernel
theorem dX3_countPromised_51 : decode cX3_countPromised 51 = .ok (.iload_n 1, 1) := by decide +kernel
theorem dX3_countPromised_52 : decode cX3_countPromised 52 = .ok (.ireturn, 1) := by decide +kernel
theorem dX3_countPromisedButDamaged_0 : decode cX3_countPromisedButDamaged 0 = .ok (.aload_n 0, 1) := by decide +kernel
theorem dX3_countPromisedButDamaged_1 : decode cX3_countPromisedButDamaged 1 = .ok (.invokevirtual 52, 3) := by decide +kernel
theorem dX3_countPromisedButDamaged_4 : decode cX3_countPromisedButDamaged 4 = .ok (.iconst 0, 1) := by decide +kernel
theorem dX3_countPromisedButDamaged_5 : decode cX3_countPromisedButDamaged 5 = .ok (.istore_n 1, 1) := by decide +kernel
theorem dX3_countPromisedButDamaged_6 : decode cX3_countPromisedButDamaged 6 = .ok (.aload_n 0, 1) := by decide +kernel
theorem dX3_countPromisedButDamaged_7 : decode cX3_countPromisedButDamaged 7 = .ok (.getfield 11, 3) := by decide +kernel
theorem dX3_countPromisedButDamaged_10 : decode cX3_countPromisedButDamaged 10 = .ok (.astore_n 2, 1) := by decide +kernel
theorem dX3_countPromisedButDamaged_11 : decode cX3_countPromisedButDamaged 11 = .ok (.aload_n 2, 1) := by decide +kernel
theorem dX3_countPromisedButDamaged_12 : decode cX3_countPromisedButDamaged 12 = .ok (.arraylength, 1) := by decide +kernel
theorem dX3_countPromisedButDamaged_13 : decode cX3_countPromisedButDamaged 13 = .ok (.istore_n 3, 1) := by decide +kernel
theorem dX3_countPromisedButDamaged_14 : decode cX3_countPromisedButDamaged 14 = .ok (.iconst 0, 1) := by decide +kernel
theorem dX3_countPromisedButDamaged_15 : decode cX3_countPromisedButDamaged 15 = .ok (.istore 4, 2) := by decide +kernel
theorem dX3_countPromisedButDamaged_17 : decode cX3_countPromisedButDamaged 17 = .ok (.iload 4, 2) := by decide +kernel
theorem dX3_countPromisedButDamaged_19 : decode cX3_countPromisedButDamaged 19 = .ok (.iload_n 3, 1) := by decide +kernel
theorem dX3_countPromisedButDamaged_20 : decode cX3_countPromisedButDamaged 20 = .ok (.if_icmp .ge 39, 3) := by decide +kernel
theorem dX3_countPromisedButDamaged_23 : decode cX3_countPromisedButDamaged 23 = .ok (.aload_n 2, 1) := by decide +kernel
theorem dX3_countPromisedButDamaged_24 : decode cX3_countPromisedButDamaged 24 = .ok (.iload 4, 2) := by decide +kernel
theorem dX3_countPromisedButDamaged_26 : decode cX3_countPromisedButDamaged 26 = .ok (.aaload, 1) := by decide +kernel
theorem dX3_countPromisedButDamaged_27 : decode cX3_countPromisedButDamaged 27 = .ok (.astore 5, 2) := by decide +kernel
theorem dX3_countPromisedButDamaged_29 : decode cX3_countPromisedButDamaged 29 = .ok (.aload 5, 2) := by decide +kernel
theorem dX3_countPromisedButDamaged_31 : decode cX3_countPromisedButDamaged 31 = .ok (.ifnull 22, 3) := by decide +kernel
theorem dX3_countPromisedButDamaged_34 : decode cX3_countPromisedButDamaged 34 = .ok (.aload 5, 2) := by decide +kernel
theorem dX3_countPromisedButDamaged_36 : decode cX3_countPromisedButDamaged 36 = .ok (.getfield 34, 3) := by decide +kernel
theorem dX3_countPromisedButDamaged_39 : decode cX3_countPromisedButDamaged 39 = .ok (.ifCond .eq 14, 3) := by decide +kernel
theorem dX3_countPromisedButDamaged_42 : decode cX3_countPromisedButDamaged 42 = .ok (.aload 5, 2) := by decide +kernel
theorem dX3_countPromisedButDamaged_44 : decode cX3_countPromisedButDamaged 44 = .ok (.invokevirtual 55, 3) := by decide +kernel
theorem dX3_countPromisedButDamaged_47 : decode cX3_countPromisedButDamaged 47 = .ok (.ifCond .eq 6, 3) := by decide +kernel
theorem dX3_countPromisedButDamaged_50 : decode cX3_countPromisedButDamaged 50 = .ok (.iinc 1 1, 3) := by decide +kernel
theorem dX3_countPromisedButDamaged_53 : decode cX3_countPromisedButDamaged 53 = .ok (.iinc 4 1, 3) := by decide +kernel
theorem dX3_countPromisedButDamaged_56 : decode cX3_countPromisedButDamaged 56 = .ok (.goto (-39), 3) := by decide +kernel
theorem dX3_countPromisedButDamaged_59 : decode cX3_countPromisedButDamaged 59 = .ok (.iload_n 1, 1) := by decide +kernel
theorem dX3_countPromisedButDamaged_60 : decode cX3_countPromisedButDamaged 60 = .ok (.ireturn, 1) := by decide +kernel
theorem dX3_takeOffLoose_0 : decode cX3_takeOffLoose 0 = .ok (.aload_n 0, 1) := by decide +kernel
theorem dX3_takeOffLoose_1 : decode cX3_takeOffLoose 1 = .ok (.invokevirtual 52, 3) := by decide +kernel
theorem dX3_takeOffLoose_4 : decode cX3_takeOffLoose 4 = .ok (.aload_n 0, 1) := by decide +kernel
theorem dX3_takeOffLoose_5 : decode cX3_takeOffLoose 5 = .ok (.aload_n 0, 1) := by decide +kernel
theorem dX3_takeOffLoose_6 : decode cX3_takeOffLoose 6 = .ok (.invokevirtual 59, 3) := by decide +kernel
theorem dX3_takeOffLoose_9 : decode cX3_takeOffLoose 9 = .ok (.invokevirtual 62, 3) := by decide +kernel
theorem dX3_takeOffLoose_12 : decode cX3_takeOffLoose 12 = .ok (.iconst 0, 1) := by decide +kernel
theorem dX3_takeOffLoose_13 : decode cX3_takeOffLoose 13 = .ok (.istore_n 1, 1) := by decide +kernel
theorem dX3_takeOffLoose_14 : decode cX3_takeOffLoose 14 = .ok (.iconst 0, 1) := by decide +kernel
theorem dX3_takeOffLoose_15 : decode cX3_takeOffLoose 15 = .ok (.istore_n 2, 1) := by decide +kernel
theorem dX3_takeOffLoose_16 : decode cX3_takeOffLoose 16 = .ok (.iload_n 2, 1) := by decide +kernel
theorem dX3_takeOffLoose_17 : decode cX3_takeOffLoose 17 = .ok (.aload_n 0, 1) := by decide +kernel
theorem dX3_takeOffLoose_18 : decode cX3_takeOffLoose 18 = .ok (.getfield 11, 3) := by decide +kernel
theorem dX3_takeOffLoose_21 : decode cX3_takeOffLoose 21 = .ok (.arraylength, 1) := by decide +kernel
theorem dX3_takeOffLoose_22 : decode cX3_takeOffLoose 22 = .ok (.if_icmp .ge 41, 3) := by decide +kernel
theorem dX3_takeOffLoose_25 : decode cX3_takeOffLoose 25 = .ok (.aload_n 0, 1) := by decide +kernel
theorem dX3_takeOffLoose_26 : decode cX3_takeOffLoose 26 = .ok (.getfield 11, 3) := by decide +kernel
theorem dX3_takeOffLoose_29 : decode cX3_takeOffLoose 29 = .ok (.iload_n 2, 1) := by decide +kernel
theorem dX3_takeOffLoose_30 : decode cX3_takeOffLoose 30 = .ok (.aaload, 1) := by decide +kernel
theorem dX3_takeOffLoose_31 : decode cX3_takeOffLoose 31 = .ok (.astore_n 3, 1) := by decide +kernel
theorem dX3_takeOffLoose_32 : decode cX3_takeOffLoose 32 = .ok (.aload_n 3, 1) := by decide +kernel
theorem dX3_takeOffLoose_33 : decode cX3_takeOffLoose 33 = .ok (.ifnull 24, 3) := by decide +kernel
theorem dX3_takeOffLoose_36 : decode cX3_takeOffLoose 36 = .ok (.aload_n 3, 1) := by decide +kernel
theorem dX3_takeOffLoose_37 : decode cX3_takeOffLoose 37 = .ok (.getfield 66, 3) := by decide +kernel
theorem dX3_takeOffLoose_40 : decode cX3_takeOffLoose 40 = .ok (.ifCond .ne 17, 3) := by decide +kernel
theorem dX3_takeOffLoose_43 : decode cX3_takeOffLoose 43 = .ok (.iload_n 1, 1) := by decide +kernel
theorem dX3_takeOffLoose_44 : decode cX3_takeOffLoose 44 = .ok (.aload_n 3, 1) := by decide +kernel
theorem dX3_takeOffLoose_45 : decode cX3_takeOffLoose 45 = .ok (.invokevirtual 30, 3) := by decide +kernel
theorem dX3_takeOffLoose_48 : decode cX3_takeOffLoose 48 = .ok (.iadd, 1) := by decide +kernel
theorem dX3_takeOffLoose_49 : decode cX3_takeOffLoose 49 = .ok (.istore_n 1, 1) := by decide +kernel
theorem dX3_takeOffLoose_50 : decode cX3_takeOffLoose 50 = .ok (.aload_n 0, 1) := by decide +kernel
theorem dX3_takeOffLoose_51 : decode cX3_takeOffLoose 51 = .ok (.getfield 11, 3) := by decide +kernel
theorem dX3_takeOffLoose_54 : decode cX3_takeOffLoose 54 = .ok (.iload_n 2, 1) := by decide +kernel
theorem dX3_takeOffLoose_55 : decode cX3_takeOffLoose 55 = .ok (.aconst_null, 1) := by decide +kernel
theorem dX3_takeOffLoose_56 : decode cX3_takeOffLoose 56 = .ok (.aastore, 1) := by decide +kernel
theorem dX3_takeOffLoose_57 : decode cX3_takeOffLoose 57 = .ok (.iinc 2 1, 3) := by decide +kernel
theorem dX3_takeOffLoose_60 : decode cX3_takeOffLoose 60 = .ok (.goto (-44), 3) := by decide +kernel
theorem dX3_takeOffLoose_63 : decode cX3_takeOffLoose 63 = .ok (.iload_n 1, 1) := by decide +kernel
theorem dX3_takeOffLoose_64 : decode cX3_takeOffLoose 64 = .ok (.ireturn, 1) := by decide +kernel
theorem dX3_latestProvedDay_0 : decode cX3_latestProvedDay 0 = .ok (.iconst (-1), 1) := by decide +kernel
theorem dX3_latestProvedDay_1 : decode cX3_latestProvedDay 1 = .ok (.istore_n 1, 1) := by decide +kernel
theorem dX3_latestProvedDay_2 : decode cX3_latestProvedDay 2 = .ok (.aload_n 0, 1) := by decide +kernel
theorem dX3_latestProvedDay_3 : decode cX3_latestProvedDay 3 = .ok (.getfield 11, 3) := by decide +kernel
theorem dX3_latestProvedDay_6 : decode cX3_latestProvedDay 6 = .ok (.astore_n 2, 1) := by decide +kernel
theorem dX3_latestProvedDay_7 : decode cX3_latestProvedDay 7 = .ok (.aload_n 2, 1) := by decide +kernel
theorem dX3_latestProvedDay_8 : decode cX3_latestProvedDay 8 = .ok (.arraylength, 1) := by decide +kernel
theorem dX3_latestProvedDay_9 : decode cX3_latestProvedDay 9 = .ok (.istore_n 3, 1) := by decide +kernel
theorem dX3_latestProvedDay_10 : decode cX3_latestProvedDay 10 = .ok (.iconst 0, 1) := by decide +kernel
theorem dX3_latestProvedDay_11 : decode cX3_latestProvedDay 11 = .ok (.istore 4, 2) := by decide +kernel
theorem dX3_latestProvedDay_13 : decode cX3_latestProvedDay 13 = .ok (.iload 4, 2) := by decide +kernel
theorem dX3_latestProvedDay_15 : decode cX3_latestProvedDay 15 = .ok (.iload_n 3, 1) := by decide +kernel
theorem dX3_latestProvedDay_16 : decode cX3_latestProvedDay 16 = .ok (.if_icmp .ge 38, 3) := by decide +kernel
theorem dX3_latestProvedDay_19 : decode cX3_latestProvedDay 19 = .ok (.aload_n 2, 1) := by decide +kernel
theorem dX3_latestProvedDay_20 : decode cX3_latestProvedDay 20 = .ok (.iload 4, 2) := by decide +kernel
theorem dX3_latestProvedDay_22 : decode cX3_latestProvedDay 22 = .ok (.aaload, 1) := by decide +kernel
theorem dX3_latestProvedDay_23 : decode cX3_latestProvedDay 23 = .ok (.astore 5, 2) := by decide +kernel
theorem dX3_latestProvedDay_25 : decode cX3_latestProvedDay 25 = .ok (.aload 5, 2) := by decide +kernel
theorem dX3_latestProvedDay_27 : decode cX3_latestProvedDay 27 = .ok (.ifnull 21, 3) := by decide +kernel
theorem dX3_latestProvedDay_30 : decode cX3_latestProvedDay 30 = .ok (.aload 5, 2) := by decide +kernel
theorem dX3_latestProvedDay_32 : decode cX3_latestProvedDay 32 = .ok (.getfield 69, 3) := by decide +kernel
theorem dX3_latestProvedDay_35 : decode cX3_latestProvedDay 35 = .ok (.ifCond .eq 13, 3) := by decide +kernel
theorem dX3_latestProvedDay_38 : decode cX3_latestProvedDay 38 = .ok (.iload_n 1, 1) := by decide +kernel
theorem dX3_latestProvedDay_39 : decode cX3_latestProvedDay 39 = .ok (.aload 5, 2) := by decide +kernel
theorem dX3_latestProvedDay_41 : decode cX3_latestProvedDay 41 = .ok (.getfield 72, 3) := by decide +kernel
theorem dX3_latestProvedDay_44 : decode cX3_latestProvedDay 44 = .ok (.invokestatic 75, 3) := by decide +kernel
theorem dX3_latestProvedDay_47 : decode cX3_latestProvedDay 47 = .ok (.istore_n 1, 1) := by decide +kernel
theorem dX3_latestProvedDay_48 : decode cX3_latestProvedDay 48 = .ok (.iinc 4 1, 3) := by decide +kernel
theorem dX3_latestProvedDay_51 : decode cX3_latestProvedDay 51 = .ok (.goto (-38), 3) := by decide +kernel
theorem dX3_latestProvedDay_54 : decode cX3_latestProvedDay 54 = .ok (.iload_n 1, 1) := by decide +kernel
theorem dX3_latestProvedDay_55 : decode cX3_latestProvedDay 55 = .ok (.ireturn, 1) := by decide +kernel
theorem dX3_markHeld_0 : decode cX3_markHeld 0 = .ok (.aload_n 0, 1) := by decide +kernel
theorem dX3_markHeld_1 : decode cX3_markHeld 1 = .ok (.getfield 11, 3) := by decide +kernel
theorem dX3_markHeld_4 : decode cX3_markHeld 4 = .ok (.astore_n 2, 1) := by decide +kernel
theorem dX3_markHeld_5 : decode cX3_markHeld 5 = .ok (.aload_n 2, 1) := by decide +kernel
theorem dX3_markHeld_6 : decode cX3_markHeld 6 = .ok (.arraylength, 1) := by decide +kernel
theorem dX3_markHeld_7 : decode cX3_markHeld 7 = .ok (.istore_n 3, 1) := by decide +kernel
theorem dX3_markHeld_8 : decode cX3_markHeld 8 = .ok (.iconst 0, 1) := by decide +kernel
theorem dX3_markHeld_9 : decode cX3_markHeld 9 = .ok (.istore 4, 2) := by decide +kernel
theorem dX3_markHeld_11 : decode cX3_markHeld 11 = .ok (.iload 4, 2) := by decide +kernel
theorem dX3_markHeld_13 : decode cX3_markHeld 13 = .ok (.iload_n 3, 1) := by decide +kernel
theorem dX3_markHeld_14 : decode cX3_markHeld 14 = .ok (.if_icmp .ge 47, 3) := by decide +kernel
theorem dX3_markHeld_17 : decode cX3_markHeld 17 = .ok (.aload_n 2, 1) := by decide +kernel
theorem dX3_markHeld_18 : decode cX3_markHeld 18 = .ok (.iload 4, 2) := by decide +kernel
theorem dX3_markHeld_20 : decode cX3_markHeld 20 = .ok (.aaload, 1) := by decide +kernel
theorem dX3_markHeld_21 : decode cX3_markHeld 21 = .ok (.astore 5, 2) := by decide +kernel
theorem dX3_markHeld_23 : decode cX3_markHeld 23 = .ok (.aload 5, 2) := by decide +kernel
theorem dX3_markHeld_25 : decode cX3_markHeld 25 = .ok (.ifnull 30, 3) := by decide +kernel
theorem dX3_markHeld_28 : decode cX3_markHeld 28 = .ok (.aload 5, 2) := by decide +kernel
theorem dX3_markHeld_30 : decode cX3_markHeld 30 = .ok (.aload 5, 2) := by decide +kernel
theorem dX3_markHeld_32 : decode cX3_markHeld 32 = .ok (.getfield 38, 3) := by decide +kernel
theorem dX3_markHeld_35 : decode cX3_markHeld 35 = .ok (.ifCond .ne 12, 3) := by decide +kernel
theorem dX3_markHeld_38 : decode cX3_markHeld 38 = .ok (.aload 5, 2) := by decide +kernel
theorem dX3_markHeld_40 : decode cX3_markHeld 40 = .ok (.getfield 72, 3) := by decide +kernel
theorem dX3_markHeld_43 : decode cX3_markHeld 43 = .ok (.iload_n 1, 1) := by decide +kernel
theorem dX3_markHeld_44 : decode cX3_markHeld 44 = .ok (.if_icmp .lt 7, 3) := by decide +kernel
theorem dX3_markHeld_47 : decode cX3_markHeld 47 = .ok (.iconst 1, 1) := by decide +kernel
theorem dX3_markHeld_48 : decode cX3_markHeld 48 = .ok (.goto 4, 3) := by decide +kernel
theorem dX3_markHeld_51 : decode cX3_markHeld 51 = .ok (.iconst 0, 1) := by decide +kernel
theorem dX3_markHeld_52 : decode cX3_markHeld 52 = .ok (.putfield 66, 3) := by decide +kernel
theorem dX3_markHeld_55 : decode cX3_markHeld 55 = .ok (.iinc 4 1, 3) := by decide +kernel
theorem dX3_markHeld_58 : decode cX3_markHeld 58 = .ok (.goto (-47), 3) := by decide +kernel
theorem dX3_markHeld_61 : decode cX3_markHeld 61 = .ok (.aload_n 0, 1) := by decide +kernel
theorem dX3_markHeld_62 : decode cX3_markHeld 62 = .ok (.getfield 11, 3) := by decide +kernel
theorem dX3_markHeld_65 : decode cX3_markHeld 65 = .ok (.arraylength, 1) := by decide +kernel
theorem dX3_markHeld_66 : decode cX3_markHeld 66 = .ok (.iconst 1, 1) := by decide +kernel
theorem dX3_markHeld_67 : decode cX3_markHeld 67 = .ok (.isub, 1) := by decide +kernel
theorem dX3_markHeld_68 : decode cX3_markHeld 68 = .ok (.istore_n 2, 1) := by decide +kernel
theorem dX3_markHeld_69 : decode cX3_markHeld 69 = .ok (.iload_n 2, 1) := by decide +kernel
theorem dX3_markHeld_70 : decode cX3_markHeld 70 = .ok (.ifCond .lt 42, 3) := by decide +kernel
theorem dX3_markHeld_73 : decode cX3_markHeld 73 = .ok (.aload_n 0, 1) := by decide +kernel
theorem dX3_markHeld_74 : decode cX3_markHeld 74 = .ok (.getfield 11, 3) := by decide +kernel
theorem dX3_markHeld_77 : decode cX3_markHeld 77 = .ok (.iload_n 2, 1) := by decide +kernel
theorem dX3_markHeld_78 : decode cX3_markHeld 78 = .ok (.aaload, 1) := by decide +kernel
theorem dX3_markHeld_79 : decode cX3_markHeld 79 = .ok (.astore_n 3, 1) := by decide +kernel
theorem dX3_markHeld_80 : decode cX3_markHeld 80 = .ok (.aload_n 3, 1) := by decide +kernel
theorem dX3_markHeld_81 : decode cX3_markHeld 81 = .ok (.ifnull 25, 3) := by decide +kernel
theorem dX3_markHeld_84 : decode cX3_markHeld 84 = .ok (.aload_n 3, 1) := by decide +kernel
theorem dX3_markHeld_85 : decode cX3_markHeld 85 = .ok (.getfield 66, 3) := by decide +kernel
theorem dX3_markHeld_88 : decode cX3_markHeld 88 = .ok (.ifCond .eq 18, 3) := by decide +kernel
theorem dX3_markHeld_91 : decode cX3_markHeld 91 = .ok (.aload_n 3, 1) := by decide +kernel
theorem dX3_markHeld_92 : decode cX3_markHeld 92 = .ok (.getfield 81, 3) := by decide +kernel
theorem dX3_markHeld_95 : decode cX3_markHeld 95 = .ok (.ifnull 11, 3) := by decide +kernel
theorem dX3_markHeld_98 : decode cX3_markHeld 98 = .ok (.aload_n 3, 1) := by decide +kernel
theorem dX3_markHeld_99 : decode cX3_markHeld 99 = .ok (.getfield 81, 3) := by decide +kernel
theorem dX3_markHeld_102 : decode cX3_markHeld 102 = .ok (.iconst 1, 1) := by decide +kernel
theorem dX3_markHeld_103 : decode cX3_markHeld 103 = .ok (.putfield 66, 3) := by decide +kernel
theorem dX3_markHeld_106 : decode cX3_markHeld 106 = .ok (.iinc 2 (-1), 3) := by decide +kernel
theorem dX3_markHeld_109 : decode cX3_markHeld 109 = .ok (.goto (-40), 3) := by decide +kernel
theorem dX3_markHeld_112 : decode cX3_markHeld 112 = .ok (.return_, 1) := by decide +kernel
theorem dX4_init_0 : decode cX4_init 0 = .ok (.aload_n 0, 1) := by decide +kernel
theorem dX4_init_1 : decode cX4_init 1 = .ok (.invokespecial 1, 3) := by decide +kernel
theorem dX4_init_4 : decode cX4_init 4 = .ok (.aload_n 0, 1) := by decide +kernel
theorem dX4_init_5 : decode cX4_init 5 = .ok (.new 7, 3) := by decide +kernel
theorem dX4_init_8 : decode cX4_init 8 = .ok (.dup, 1) := by decide +kernel
theorem dX4_init_9 : decode cX4_init 9 = .ok (.invokespecial 9, 3) := by decide +kernel
theorem dX4_init_12 : decode cX4_init 12 = .ok (.putfield 10, 3) := by decide +kernel
theorem dX4_init_15 : decode cX4_init 15 = .ok (.aload_n 0, 1) := by decide +kernel
theorem dX4_init_16 : decode cX4_init 16 = .ok (.new 16, 3) := by decide +kernel
theorem dX4_init_19 : decode cX4_init 19 = .ok (.dup, 1) := by decide +kernel
theorem dX4_init_20 : decode cX4_init 20 = .ok (.invokespecial 18, 3) := by decide +kernel
theorem dX4_init_23 : decode cX4_init 23 = .ok (.putfield 19, 3) := by decide +kernel
theorem dX4_init_26 : decode cX4_init 26 = .ok (.aload_n 0, 1) := by decide +kernel
theorem dX4_init_27 : decode cX4_init 27 = .ok (.new 23, 3) := by decide +kernel
theorem dX4_init_30 : decode cX4_init 30 = .ok (.dup, 1) := by decide +kernel
theorem dX4_init_31 : decode cX4_init 31 = .ok (.invokespecial 25, 3) := by decide +kernel
theorem dX4_init_34 : decode cX4_init 34 = .ok (.putfield 26, 3) := by decide +kernel
theorem dX4_init_37 : decode cX4_init 37 = .ok (.aload_n 0, 1) := by decide +kernel
theorem dX4_init_38 : decode cX4_init 38 = .ok (.iconst 0, 1) := by decide +kernel
theorem dX4_init_39 : decode cX4_init 39 = .ok (.putfield 30, 3) := by decide +kernel
theorem dX4_init_42 : decode cX4_init 42 = .ok (.return_, 1) := by decide +kernel
theorem dX4_change_0 : decode cX4_change 0 = .ok (.iload_n 1, 1) := by decide +kernel
theorem dX4_change_1 : decode cX4_change 1 = .ok (.invokestatic 34, 3) := by decide +kernel
theorem dX4_change_4 : decode cX4_change 4 = .ok (.iload_n 2, 1) := by decide +kernel
theorem dX4_change_5 : decode cX4_change 5 = .ok (.ifCond .lt 9, 3) := by decide +kernel
theorem dX4_change_8 : decode cX4_change 8 = .ok (.iload_n 2, 1) := by decide +kernel
theorem dX4_change_9 : decode cX4_change 9 = .ok (.bipush 99, 2) := by decide +kernel
theorem dX4_change_11 : decode cX4_change 11 = .ok (.if_icmp .le 13, 3) := by decide +kernel
theorem dX4_change_14 : decode cX4_change 14 = .ok (.new 38, 3) := by decide +kernel
theorem dX4_change_17 : decode cX4_change 17 = .ok (.dup, 1) := by decide +kernel
theorem dX4_change_18 : decode cX4_change 18 = .ok (.ldc 40, 2) := by decide +kernel
theorem dX4_change_20 : decode cX4_change 20 = .ok (.invokespecial 42, 3) := by decide +kernel
theorem dX4_change_23 : decode cX4_change 23 = .ok (.athrow, 1) := by decide +kernel
theorem dX4_change_24 : decode cX4_change 24 = .ok (.aload_n 0, 1) := by decide +kernel
theorem dX4_change_25 : decode cX4_change 25 = .ok (.getfield 10, 3) := by decide +kernel
theorem dX4_change_28 : decode cX4_change 28 = .ok (.getfield 45, 3) := by decide +kernel
theorem dX4_change_31 : decode cX4_change 31 = .ok (.sipush 300, 3) := by decide +kernel
theorem dX4_change_34 : decode cX4_change 34 = .ok (.if_icmp .lt 13, 3) := by decide +kernel
theorem dX4_change_37 : decode cX4_change 37 = .ok (.new 48, 3) := by decide +kernel
theorem dX4_change_40 : decode cX4_change 40 = .ok (.dup, 1) := by decide +kernel
theorem dX4_change_41 : decode cX4_change 41 = .ok (.ldc 50, 2) := by decide +kernel
theorem dX4_change_43 : decode cX4_change 43 = .ok (.invokespecial 52, 3) := by decide +kernel
theorem dX4_change_46 : decode cX4_change 46 = .ok (.athrow, 1) := by decide +kernel
theorem dX4_change_47 : decode cX4_change 47 = .ok (.aload_n 0, 1) := by decide +kernel
theorem dX4_change_48 : decode cX4_change 48 = .ok (.getfield 10, 3) := by decide +kernel
theorem dX4_change_51 : decode cX4_change 51 = .ok (.iload_n 1, 1) := by decide +kernel
theorem dX4_change_52 : decode cX4_change 52 = .ok (.invokevirtual 53, 3) := by decide +kernel
theorem dX4_change_55 : decode cX4_change 55 = .ok (.istore_n 3, 1) := by decide +kernel
theorem dX4_change_56 : decode cX4_change 56 = .ok (.aload_n 0, 1) := by decide +kernel
theorem dX4_change_57 : decode cX4_change 57 = .ok (.getfield 10, 3) := by decide +kernel
theorem dX4_change_60 : decode cX4_change 60 = .ok (.iload_n 1, 1) := by decide +kernel
theorem dX4_change_61 : decode cX4_change 61 = .ok (.iload_n 2, 1) := by decide +kernel
theorem dX4_change_62 : decode cX4_change 62 = .ok (.invokevirtual 57, 3) := by decide +kernel
theorem dX4_change_65 : decode cX4_change 65 = .ok (.iload_n 3, 1) := by decide +kernel
theorem dX4_change_66 : decode cX4_change 66 = .ok (.ireturn, 1) := by decide +kernel
theorem dX4_pass_0 : decode cX4_pass 0 = .ok (.iload_n 1, 1) := by decide +kernel
theorem dX4_pass_1 : decode cX4_pass 1 = .ok (.iconst 1, 1) := by decide +kernel
theorem dX4_pass_2 : decode cX4_pass 2 = .ok (.if_icmp .lt 9, 3) := by decide +kernel
theorem dX4_pass_5 : decode cX4_pass 5 = .ok (.iload_n 1, 1) := by decide +kernel
theorem dX4_pass_6 : decode cX4_pass 6 = .ok (.bipush 30, 2) := by decide +kernel
theorem dX4_pass_8 : decode cX4_pass 8 = .ok (.if_icmp .le 13, 3) := by decide +kernel
theorem dX4_pass_11 : decode cX4_pass 11 = .ok (.new 38, 3) := by decide +kernel
theorem dX4_pass_14 : decode cX4_pass 14 = .ok (.dup, 1) := by decide +kernel
theorem dX4_pass_15 : decode cX4_pass 15 = .ok (.ldc 61, 2) := by decide +kernel
theorem dX4_pass_17 : decode cX4_pass 17 = .ok (.invokespecial 42, 3) := by decide +kernel
theorem dX4_pass_20 : decode cX4_pass 20 = .ok (.athrow, 1) := by decide +kernel
theorem dX4_pass_21 : decode cX4_pass 21 = .ok (.aload_n 0, 1) := by decide +kernel
theorem dX4_pass_22 : decode cX4_pass 22 = .ok (.getfield 30, 3) := by decide +kernel
theorem dX4_pass_25 : decode cX4_pass 25 = .ok (.iload_n 1, 1) := by decide +kernel
theorem dX4_pass_26 : decode cX4_pass 26 = .ok (.iadd, 1) := by decide +kernel
theorem dX4_pass_27 : decode cX4_pass 27 = .ok (.sipush 360, 3) := by decide +kernel
theorem dX4_pass_30 : decode cX4_pass 30 = .ok (.if_icmp .le 13, 3) := by decide +kernel
theorem dX4_pass_33 : decode cX4_pass 33 = .ok (.new 48, 3) := by decide +kernel
theorem dX4_pass_36 : decode cX4_pass 36 = .ok (.dup, 1) := by decide +kernel
theorem dX4_pass_37 : decode cX4_pass 37 = .ok (.ldc 63, 2) := by decide +kernel
theorem dX4_pass_39 : decode cX4_pass 39 = .ok (.invokespecial 52, 3) := by decide +kernel
theorem dX4_pass_42 : decode cX4_pass 42 = .ok (.athrow, 1) := by decide +kernel
theorem dX4_pass_43 : decode cX4_pass 43 = .ok (.aload_n 0, 1) := by decide +kernel
theorem dX4_pass_44 : decode cX4_pass 44 = .ok (.dup, 1) := by decide +kernel
theorem dX4_pass_45 : decode cX4_pass 45 = .ok (.getfield 30, 3) := by decide +kernel
theorem dX4_pass_48 : decode cX4_pass 48 = .ok (.iload_n 1, 1) := by decide +kernel
theorem dX4_pass_49 : decode cX4_pass 49 = .ok (.iadd, 1) := by decide +kernel
theorem dX4_pass_50 : decode cX4_pass 50 = .ok (.putfield 30, 3) := by decide +kernel
theorem dX4_pass_53 : decode cX4_pass 53 = .ok (.aload_n 0, 1) := by decide +kernel
theorem dX4_pass_54 : decode cX4_pass 54 = .ok (.getfield 30, 3) := by decide +kernel
theorem dX4_pass_57 : decode cX4_pass 57 = .ok (.ireturn, 1) := by decide +kernel
theorem dX4_full_0 : decode cX4_full 0 = .ok (.aload_n 0, 1) := by decide +kernel
theorem dX4_full_1 : decode cX4_full 1 = .ok (.getfield 19, 3) := by decide +kernel
theorem dX4_full_4 : decode cX4_full 4 = .ok (.getfield 65, 3) := by decide +kernel
theorem dX4_full_7 : decode cX4_full 7 = .ok (.bipush 60, 2) := by decide +kernel
theorem dX4_full_9 : decode cX4_full 9 = .ok (.if_icmp .lt 13, 3) := by decide +kernel
theorem dX4_full_12 : decode cX4_full 12 = .ok (.new 48, 3) := by decide +kernel
theorem dX4_full_15 : decode cX4_full 15 = .ok (.dup, 1) := by decide +kernel
theorem dX4_full_16 : decode cX4_full 16 = .ok (.ldc 68, 2) := by decide +kernel
theorem dX4_full_18 : decode cX4_full 18 = .ok (.invokespecial 52, 3) := by decide +kernel
theorem dX4_full_21 : decode cX4_full 21 = .ok (.athrow, 1) := by decide +kernel
theorem dX4_full_22 : decode cX4_full 22 = .ok (.new 70, 3) := by decide +kernel
theorem dX4_full_25 : decode cX4_full 25 = .ok (.dup, 1) := by decide +kernel
theorem dX4_full_26 : decode cX4_full 26 = .ok (.aload_n 0, 1) := by decide +kernel
theorem dX4_full_27 : decode cX4_full 27 = .ok (.getfield 19, 3) := by decide +kernel
theorem dX4_full_30 : decode cX4_full 30 = .ok (.getfield 65, 3) := by decide +kernel
theorem dX4_full_33 : decode cX4_full 33 = .ok (.aload_n 0, 1) := by decide +kernel
theorem dX4_full_34 : decode cX4_full 34 = .ok (.getfield 30, 3) := by decide +kernel
theorem dX4_full_37 : decode cX4_full 37 = .ok (.aconst_null, 1) := by decide +kernel
theorem dX4_full_38 : decode cX4_full 38 = .ok (.aload_n 0, 1) := by decide +kernel
theorem dX4_full_39 : decode cX4_full 39 = .ok (.getfield 10, 3) := by decide +kernel
theorem dX4_full_42 : decode cX4_full 42 = .ok (.getfield 45, 3) := by decide +kernel
theorem dX4_full_45 : decode cX4_full 45 = .ok (.invokespecial 72, 3) := by decide +kernel
theorem dX4_full_48 : decode cX4_full 48 = .ok (.astore_n 1, 1) := by decide +kernel
theorem dX4_full_49 : decode cX4_full 49 = .ok (.aload_n 0, 1) := by decide +kernel
theorem dX4_full_50 : decode cX4_full 50 = .ok (.getfield 10, 3) := by decide +kernel
theorem dX4_full_53 : decode cX4_full 53 = .ok (.aload_n 1, 1) := by decide +kernel
theorem dX4_full_54 : decode cX4_full 54 = .ok (.invokevirtual 75, 3) := by decide +kernel
theorem dX4_full_57 : decode cX4_full 57 = .ok (.aload_n 0, 1) := by decide +kernel
theorem dX4_full_58 : decode cX4_full 58 = .ok (.getfield 19, 3) := by decide +kernel
theorem dX4_full_61 : decode cX4_full 61 = .ok (.aload_n 1, 1) := by decide +kernel
theorem dX4_full_62 : decode cX4_full 62 = .ok (.invokevirtual 79, 3) := by decide +kernel
theorem dX4_full_65 : decode cX4_full 65 = .ok (.aload_n 1, 1) := by decide +kernel
theorem dX4_full_66 : decode cX4_full 66 = .ok (.getfield 82, 3) := by decide +kernel
theorem dX4_full_69 : decode cX4_full 69 = .ok (.ireturn, 1) := by decide +kernel
theorem dX4_increment_0 : decode cX4_increment 0 = .ok (.aload_n 0, 1) := by decide +kernel
theorem dX4_increment_1 : decode cX4_increment 1 = .ok (.getfield 19, 3) := by decide +kernel
theorem dX4_increment_4 : decode cX4_increment 4 = .ok (.invokevirtual 85, 3) := by decide +kernel
theorem dX4_increment_7 : decode cX4_increment 7 = .ok (.astore_n 1, 1) := by decide +kernel
theorem dX4_increment_8 : decode cX4_increment 8 = .ok (.aload_n 0, 1) := by decide +kernel
theorem dX4_increment_9 : decode cX4_increment 9 = .ok (.getfield 19, 3) := by decide +kernel
theorem dX4_increment_12 : decode cX4_increment 12 = .ok (.getfield 65, 3) := by decide +kernel
theorem dX4_increment_15 : decode cX4_increment 15 = .ok (.bipush 60, 2) := by decide +kernel
theorem dX4_increment_17 : decode cX4_increment 17 = .ok (.if_icmp .ge 7, 3) := by decide +kernel
theorem dX4_increment_20 : decode cX4_increment 20 = .ok (.aload_n 1, 1) := by decide +kernel
theorem dX4_increment_21 : decode cX4_increment 21 = .ok (.ifnonnull 13, 3) := by decide +kernel
theorem dX4_increment_24 : decode cX4_increment 24 = .ok (.new 48, 3) := by decide +kernel
theorem dX4_increment_27 : decode cX4_increment 27 = .ok (.dup, 1) := by decide +kernel
theorem dX4_increment_28 : decode cX4_increment 28 = .ok (.ldc 89, 2) := by decide +kernel
theorem dX4_increment_30 : decode cX4_increment 30 = .ok (.invokespecial 52, 3) := by decide +kernel
theorem dX4_increment_33 : decode cX4_increment 33 = .ok (.athrow, 1) := by decide +kernel
theorem dX4_increment_34 : decode cX4_increment 34 = .ok (.new 70, 3) := by decide +kernel
theorem dX4_increment_37 : decode cX4_increment 37 = .ok (.dup, 1) := by decide +kernel
theorem dX4_increment_38 : decode cX4_increment 38 = .ok (.aload_n 0, 1) := by decide +kernel
theorem dX4_increment_39 : decode cX4_increment 39 = .ok (.getfield 19, 3) := by decide +kernel
theorem dX4_increment_42 : decode cX4_increment 42 = .ok (.getfield 65, 3) := by decide +kernel
theorem dX4_increment_45 : decode cX4_increment 45 = .ok (.aload_n 0, 1) := by decide +kernel
theorem dX4_increment_46 : decode cX4_increment 46 = .ok (.getfield 30, 3) := by decide +kernel
theorem dX4_increment_49 : decode cX4_increment 49 = .ok (.aload_n 1, 1) := by decide +kernel
theorem dX4_increment_50 : decode cX4_increment 50 = .ok (.aload_n 0, 1) := by decide +kernel
theorem dX4_increment_51 : decode cX4_increment 51 = .ok (.getfield 10, 3) := by decide +kernel
theorem dX4_increment_54 : decode cX4_increment 54 = .ok (.getfield 45, 3) := by decide +kernel
theorem dX4_increment_57 : decode cX4_increment 57 = .ok (.invokespecial 72, 3) := by decide +kernel
theorem dX4_increment_60 : decode cX4_increment 60 = .ok (.astore_n 2, 1) := by decide +kernel
theorem dX4_increment_61 : decode cX4_increment 61 = .ok (.aload_n 0, 1) := by decide +kernel
theorem dX4_increment_62 : decode cX4_increment 62 = .ok (.getfield 10, 3) := by decide +kernel
theorem dX4_increment_65 : decode cX4_increment 65 = .ok (.aload_n 2, 1) := by decide +kernel
theorem dX4_increment_66 : decode cX4_increment 66 = .ok (.aload_n 1, 1) := by decide +kernel
theorem dX4_increment_67 : decode cX4_increment 67 = .ok (.getfield 91, 3) := by decide +kernel
theorem dX4_increment_70 : decode cX4_increment 70 = .ok (.invokevirtual 94, 3) := by decide +kernel
theorem dX4_increment_73 : decode cX4_increment 73 = .ok (.aload_n 0, 1) := by decide +kernel
theorem dX4_increment_74 : decode cX4_increment 74 = .ok (.getfield 19, 3) := by decide +kernel
theorem dX4_increment_77 : decode cX4_increment 77 = .ok (.aload_n 2, 1) := by decide +kernel
theorem dX4_increment_78 : decode cX4_increment 78 = .ok (.invokevirtual 79, 3) := by decide +kernel
theorem dX4_increment_81 : decode cX4_increment 81 = .ok (.aload_n 2, 1) := by decide +kernel
theorem dX4_increment_82 : decode cX4_increment 82 = .ok (.getfield 82, 3) := by decide +kernel
theorem dX4_increment_85 : decode cX4_increment 85 = .ok (.ireturn, 1) := by decide +kernel
theorem dX4_damage_0 : decode cX4_damage 0 = .ok (.aload_n 0, 1) := by decide +kernel
theorem dX4_damage_1 : decode cX4_damage 1 = .ok (.iload_n 1, 1) := by decide +kernel
theorem dX4_damage_2 : decode cX4_damage 2 = .ok (.invokevirtual 98, 3) := by decide +kernel
theorem dX4_damage_5 : decode cX4_damage 5 = .ok (.astore_n 2, 1) := by decide +kernel
theorem dX4_damage_6 : decode cX4_damage 6 = .ok (.aload_n 2, 1) := by decide +kernel
theorem dX4_damage_7 : decode cX4_damage 7 = .ok (.iconst 1, 1) := by decide +kernel
theorem dX4_damage_8 : decode cX4_damage 8 = .ok (.putfield 102, 3) := by decide +kernel
theorem dX4_damage_11 : decode cX4_damage 11 = .ok (.aload_n 2, 1) := by decide +kernel
theorem dX4_damage_12 : decode cX4_damage 12 = .ok (.iconst 0, 1) := by decide +kernel
theorem dX4_damage_13 : decode cX4_damage 13 = .ok (.putfield 106, 3) := by decide +kernel
theorem dX4_damage_16 : decode cX4_damage 16 = .ok (.aload_n 0, 1) := by decide +kernel
theorem dX4_damage_17 : decode cX4_damage 17 = .ok (.getfield 19, 3) := by decide +kernel
theorem dX4_damage_20 : decode cX4_damage 20 = .ok (.invokevirtual 109, 3) := by decide +kernel
theorem dX4_damage_23 : decode cX4_damage 23 = .ok (.ireturn, 1) := by decide +kernel
theorem dX4_drill_0 : decode cX4_drill 0 = .ok (.aload_n 0, 1) := by decide +kernel
theorem dX4_drill_1 : decode cX4_drill 1 = .ok (.iload_n 1, 1) := by decide +kernel
theorem dX4_drill_2 : decode cX4_drill 2 = .ok (.invokevirtual 98, 3) := by decide +kernel
theorem dX4_drill_5 : decode cX4_drill 5 = .ok (.astore_n 2, 1) := by decide +kernel
theorem dX4_drill_6 : decode cX4_drill 6 = .ok (.aload_n 2, 1) := by decide +kernel
theorem dX4_drill_7 : decode cX4_drill 7 = .ok (.invokevirtual 113, 3) := by decide +kernel
theorem dX4_drill_10 : decode cX4_drill 10 = .ok (.ifCond .ne 7, 3) := by decide +kernel
theorem dX4_drill_13 : decode cX4_drill 13 = .ok (.iconst 1, 1) := by decide +kernel
theorem dX4_drill_14 : decode cX4_drill 14 = .ok (.goto 4, 3) := by decide +kernel
theorem dX4_drill_17 : decode cX4_drill 17 = .ok (.iconst 0, 1) := by decide +kernel
theorem dX4_drill_18 : decode cX4_drill 18 = .ok (.istore_n 3, 1) := by decide +kernel
theorem dX4_drill_19 : decode cX4_drill 19 = .ok (.aload_n 2, 1) := by decide +kernel
theorem dX4_drill_20 : decode cX4_drill 20 = .ok (.iload_n 3, 1) := by decide +kernel
theorem dX4_drill_21 : decode cX4_drill 21 = .ok (.invokevirtual 117, 3) := by decide +kernel
theorem dX4_drill_24 : decode cX4_drill 24 = .ok (.iload_n 3, 1) := by decide +kernel
theorem dX4_drill_25 : decode cX4_drill 25 = .ok (.ifCond .eq 10, 3) := by decide +kernel
theorem dX4_drill_28 : decode cX4_drill 28 = .ok (.aload_n 2, 1) := by decide +kernel
theorem dX4_drill_29 : decode cX4_drill 29 = .ok (.invokevirtual 121, 3) := by decide +kernel
theorem dX4_drill_32 : decode cX4_drill 32 = .ok (.goto 4, 3) := by decide +kernel
theorem dX4_drill_35 : decode cX4_drill 35 = .ok (.iconst (-1), 1) := by decide +kernel
theorem dX4_drill_36 : decode cX4_drill 36 = .ok (.ireturn, 1) := by decide +kernel
theorem dX4_setRules_0 : decode cX4_setRules 0 = .ok (.iload_n 1, 1) := by decide +kernel
theorem dX4_setRules_1 : decode cX4_setRules 1 = .ok (.ifCond .lt 9, 3) := by decide +kernel
theorem dX4_setRules_4 : decode cX4_setRules 4 = .ok (.iload_n 1, 1) := by decide +kernel
theorem dX4_setRules_5 : decode cX4_setRules 5 = .ok (.bipush 30, 2) := by decide +kernel
theorem dX4_setRules_7 : decode cX4_setRules 7 = .ok (.if_icmp .le 13, 3) := by decide +kernel
theorem dX4_setRules_10 : decode cX4_setRules 10 = .ok (.new 38, 3) := by decide +kernel
theorem dX4_setRules_13 : decode cX4_setRules 13 = .ok (.dup, 1) := by decide +kernel
theorem dX4_setRules_14 : decode cX4_setRules 14 = .ok (.ldc 61, 2) := by decide +kernel
theorem dX4_setRules_16 : decode cX4_setRules 16 = .ok (.invokespecial 42, 3) := by decide +kernel
theorem dX4_setRules_19 : decode cX4_setRules 19 = .ok (.athrow, 1) := by decide +kernel
theorem dX4_setRules_20 : decode cX4_setRules 20 = .ok (.iload_n 2, 1) := by decide +kernel
theorem dX4_setRules_21 : decode cX4_setRules 21 = .ok (.ifCond .lt 9, 3) := by decide +kernel
theorem dX4_setRules_24 : decode cX4_setRules 24 = .ok (.iload_n 2, 1) := by decide +kernel
theorem dX4_setRules_25 : decode cX4_setRules 25 = .ok (.bipush 20, 2) := by decide +kernel
theorem dX4_setRules_27 : decode cX4_setRules 27 = .ok (.if_icmp .le 13, 3) := by decide +kernel
theorem dX4_setRules_30 : decode cX4_setRules 30 = .ok (.new 38, 3) := by decide +kernel
theorem dX4_setRules_33 : decode cX4_setRules 33 = .ok (.dup, 1) := by decide +kernel
theorem dX4_setRules_34 : decode cX4_setRules 34 = .ok (.ldc 124, 2) := by decide +kernel
theorem dX4_setRules_36 : decode cX4_setRules 36 = .ok (.invokespecial 42, 3) := by decide +kernel
theorem dX4_setRules_39 : decode cX4_setRules 39 = .ok (.athrow, 1) := by decide +kernel
theorem dX4_setRules_40 : decode cX4_setRules 40 = .ok (.iload_n 3, 1) := by decide +kernel
theorem dX4_setRules_41 : decode cX4_setRules 41 = .ok (.ifCond .lt 9, 3) := by decide +kernel
theorem dX4_setRules_44 : decode cX4_setRules 44 = .ok (.iload_n 3, 1) := by decide +kernel
theorem dX4_setRules_45 : decode cX4_setRules 45 = .ok (.bipush 12, 2) := by decide +kernel
theorem dX4_setRules_47 : decode cX4_setRules 47 = .ok (.if_icmp .le 13, 3) := by decide +kernel
theorem dX4_setRules_50 : decode cX4_setRules 50 = .ok (.new 38, 3) := by decide +kernel
theorem dX4_setRules_53 : decode cX4_setRules 53 = .ok (.dup, 1) := by decide +kernel
theorem dX4_setRules_54 : decode cX4_setRules 54 = .ok (.ldc 126, 2) := by decide +kernel
theorem dX4_setRules_56 : decode cX4_setRules 56 = .ok (.invokespecial 42, 3) := by decide +kernel
theorem dX4_setRules_59 : decode cX4_setRules 59 = .ok (.athrow, 1) := by decide +kernel
theorem dX4_setRules_60 : decode cX4_setRules 60 = .ok (.aload_n 0, 1) := by decide +kernel
theorem dX4_setRules_61 : decode cX4_setRules 61 = .ok (.getfield 19, 3) := by decide +kernel
theorem dX4_setRules_64 : decode cX4_setRules 64 = .ok (.iload_n 1, 1) := by decide +kernel
theorem dX4_setRules_65 : decode cX4_setRules 65 = .ok (.putfield 128, 3) := by decide +kernel
theorem dX4_setRules_68 : decode cX4_setRules 68 = .ok (.aload_n 0, 1) := by decide +kernel
theorem dX4_setRules_69 : decode cX4_setRules 69 = .ok (.getfield 19, 3) := by decide +kernel
theorem dX4_setRules_72 : decode cX4_setRules 72 = .ok (.iload_n 2, 1) := by decide +kernel
theorem dX4_setRules_73 : decode cX4_setRules 73 = .ok (.putfield 131, 3) := by decide +kernel
theorem dX4_setRules_76 : decode cX4_setRules 76 = .ok (.aload_n 0, 1) := by decide +kernel
theorem dX4_setRules_77 : decode cX4_setRules 77 = .ok (.getfield 19, 3) := by decide +kernel
theorem dX4_setRules_80 : decode cX4_setRules 80 = .ok (.iload_n 3, 1) := by decide +kernel
theorem dX4_setRules_81 : decode cX4_setRules 81 = .ok (.putfield 134, 3) := by decide +kernel
theorem dX4_setRules_84 : decode cX4_setRules 84 = .ok (.aload_n 0, 1) := by decide +kernel
theorem dX4_setRules_85 : decode cX4_setRules 85 = .ok (.getfield 19, 3) := by decide +kernel
theorem dX4_setRules_88 : decode cX4_setRules 88 = .ok (.invokevirtual 137, 3) := by decide +kernel
theorem dX4_setRules_91 : decode cX4_setRules 91 = .ok (.ireturn, 1) := by decide +kernel
theorem dX4_thin_0 : decode cX4_thin 0 = .ok (.aload_n 0, 1) := by decide +kernel
theorem dX4_thin_1 : decode cX4_thin 1 = .ok (.getfield 19, 3) := by decide +kernel
theorem dX4_thin_4 : decode cX4_thin 4 = .ok (.invokevirtual 140, 3) := by decide +kernel
theorem dX4_thin_7 : decode cX4_thin 7 = .ok (.ireturn, 1) := by decide +kernel
theorem dX4_day_0 : decode cX4_day 0 = .ok (.aload_n 0, 1) := by decide +kernel
theorem dX4_day_1 : decode cX4_day 1 = .ok (.getfield 30, 3) := by decide +kernel
theorem dX4_day_4 : decode cX4_day 4 = .ok (.ireturn, 1) := by decide +kernel
theorem dX4_copies_0 : decode cX4_copies 0 = .ok (.aload_n 0, 1) := by decide +kernel
theorem dX4_copies_1 : decode cX4_copies 1 = .ok (.getfield 19, 3) := by decide +kernel
theorem dX4_copies_4 : decode cX4_copies 4 = .ok (.invokevirtual 143, 3) := by decide +kernel
theorem dX4_copies_7 : decode cX4_copies 7 = .ok (.ireturn, 1) := by decide +kernel
theorem dX4_space_0 : decode cX4_space 0 = .ok (.aload_n 0, 1) := by decide +kernel
theorem dX4_space_1 : decode cX4_space 1 = .ok (.getfield 19, 3) := by decide +kernel
theorem dX4_space_4 : decode cX4_space 4 = .ok (.invokevirtual 146, 3) := by decide +kernel
theorem dX4_space_7 : decode cX4_space 7 = .ok (.ireturn, 1) := by decide +kernel
theorem dX4_dayOf_0 : decode cX4_dayOf 0 = .ok (.aload_n 0, 1) := by decide +kernel
theorem dX4_dayOf_1 : decode cX4_dayOf 1 = .ok (.iload_n 1, 1) := by decide +kernel
theorem dX4_dayOf_2 : decode cX4_dayOf 2 = .ok (.invokevirtual 98, 3) := by decide +kernel
theorem dX4_dayOf_5 : decode cX4_dayOf 5 = .ok (.getfield 149, 3) := by decide +kernel
theorem dX4_dayOf_8 : decode cX4_dayOf 8 = .ok (.ireturn, 1) := by decide +kernel
theorem dX4_baseOf_0 : decode cX4_baseOf 0 = .ok (.aload_n 0, 1) := by decide +kernel
theorem dX4_baseOf_1 : decode cX4_baseOf 1 = .ok (.iload_n 1, 1) := by decide +kernel
theorem dX4_baseOf_2 : decode cX4_baseOf 2 = .ok (.invokevirtual 98, 3) := by decide +kernel
theorem dX4_baseOf_5 : decode cX4_baseOf 5 = .ok (.getfield 152, 3) := by decide +kernel
theorem dX4_baseOf_8 : decode cX4_baseOf 8 = .ok (.astore_n 2, 1) := by decide +kernel
theorem dX4_baseOf_9 : decode cX4_baseOf 9 = .ok (.aload_n 2, 1) := by decide +kernel
theorem dX4_baseOf_10 : decode cX4_baseOf 10 = .ok (.ifnonnull 7, 3) := by decide +kernel
theorem dX4_baseOf_13 : decode cX4_baseOf 13 = .ok (.iconst (-1), 1) := by decide +kernel
theorem dX4_baseOf_14 : decode cX4_baseOf 14 = .ok (.goto 7, 3) := by decide +kernel
theorem dX4_baseOf_17 : decode cX4_baseOf 17 = .ok (.aload_n 2, 1) := by decide +kernel
theorem dX4_baseOf_18 : decode cX4_baseOf 18 = .ok (.getfield 82, 3) := by decide +kernel
theorem dX4_baseOf_21 : decode cX4_baseOf 21 = .ok (.ireturn, 1) := by decide +kernel
theorem dX4_keeps_0 : decode cX4_keeps 0 = .ok (.aload_n 0, 1) := by decide +kernel
theorem dX4_keeps_1 : decode cX4_keeps 1 = .ok (.iload_n 1, 1) := by decide +kernel
theorem dX4_keeps_2 : decode cX4_keeps 2 = .ok (.invokevirtual 98, 3) := by decide +kernel
theorem dX4_keeps_5 : decode cX4_keeps 5 = .ok (.getfield 156, 3) := by decide +kernel
theorem dX4_keeps_8 : decode cX4_keeps 8 = .ok (.ireturn, 1) := by decide +kernel
theorem dX4_isPromised_0 : decode cX4_isPromised 0 = .ok (.aload_n 0, 1) := by decide +kernel
theorem dX4_isPromised_1 : decode cX4_isPromised 1 = .ok (.iload_n 1, 1) := by decide +kernel
theorem dX4_isPromised_2 : decode cX4_isPromised 2 = .ok (.invokevirtual 98, 3) := by decide +kernel
theorem dX4_isPromised_5 : decode cX4_isPromised 5 = .ok (.astore_n 2, 1) := by decide +kernel
theorem dX4_isPromised_6 : decode cX4_isPromised 6 = .ok (.aload_n 0, 1) := by decide +kernel
theorem dX4_isPromised_7 : decode cX4_isPromised 7 = .ok (.getfield 19, 3) := by decide +kernel
theorem dX4_isPromised_10 : decode cX4_isPromised 10 = .ok (.invokevirtual 159, 3) := by decide +kernel
theorem dX4_isPromised_13 : decode cX4_isPromised 13 = .ok (.aload_n 2, 1) := by decide +kernel
theorem dX4_isPromised_14 : decode cX4_isPromised 14 = .ok (.getfield 162, 3) := by decide +kernel
theorem dX4_isPromised_17 : decode cX4_isPromised 17 = .ok (.ireturn, 1) := by decide +kernel
theorem dX4_isNeeded_0 : decode cX4_isNeeded 0 = .ok (.aload_n 0, 1) := by decide +kernel
theorem dX4_isNeeded_1 : decode cX4_isNeeded 1 = .ok (.iload_n 1, 1) := by decide +kernel
theorem dX4_isNeeded_2 : decode cX4_isNeeded 2 = .ok (.invokevirtual 98, 3) := by decide +kernel
theorem dX4_isNeeded_5 : decode cX4_isNeeded 5 = .ok (.astore_n 2, 1) := by decide +kernel
theorem dX4_isNeeded_6 : decode cX4_isNeeded 6 = .ok (.aload_n 0, 1) := by decide +kernel
theorem dX4_isNeeded_7 : decode cX4_isNeeded 7 = .ok (.getfield 19, 3) := by decide +kernel
theorem dX4_isNeeded_10 : decode cX4_isNeeded 10 = .ok (.invokevirtual 159, 3) := by decide +kernel
theorem dX4_isNeeded_13 : decode cX4_isNeeded 13 = .ok (.aload_n 2, 1) := by decide +kernel
theorem dX4_isNeeded_14 : decode cX4_isNeeded 14 = .ok (.getfield 165, 3) := by decide +kernel
theorem dX4_isNeeded_17 : decode cX4_isNeeded 17 = .ok (.ireturn, 1) := by decide +kernel
theorem dX4_isProved_0 : decode cX4_isProved 0 = .ok (.aload_n 0, 1) := by decide +kernel
theorem dX4_isProved_1 : decode cX4_isProved 1 = .ok (.iload_n 1, 1) := by decide +kernel
theorem dX4_isProved_2 : decode cX4_isProved 2 = .ok (.invokevirtual 98, 3) := by decide +kernel
theorem dX4_isProved_5 : decode cX4_isProved 5 = .ok (.getfield 106, 3) := by decide +kernel
theorem dX4_isProved_8 : decode cX4_isProved 8 = .ok (.ireturn, 1) := by decide +kernel
theorem dX4_restore_0 : decode cX4_restore 0 = .ok (.aload_n 0, 1) := by decide +kernel
theorem dX4_restore_1 : decode cX4_restore 1 = .ok (.iload_n 1, 1) := by decide +kernel
theorem dX4_restore_2 : decode cX4_restore 2 = .ok (.invokevirtual 98, 3) := by decide +kernel
theorem dX4_restore_5 : decode cX4_restore 5 = .ok (.astore_n 3, 1) := by decide +kernel
theorem dX4_restore_6 : decode cX4_restore 6 = .ok (.iload_n 2, 1) := by decide +kernel
theorem dX4_restore_7 : decode cX4_restore 7 = .ok (.invokestatic 34, 3) := by decide +kernel
theorem dX4_restore_10 : decode cX4_restore 10 = .ok (.aload_n 3, 1) := by decide +kernel
theorem dX4_restore_11 : decode cX4_restore 11 = .ok (.iload_n 2, 1) := by decide +kernel
theorem dX4_restore_12 : decode cX4_restore 12 = .ok (.invokevirtual 168, 3) := by decide +kernel
theorem dX4_restore_15 : decode cX4_restore 15 = .ok (.ireturn, 1) := by decide +kernel
theorem dX4_restoreByChanges_0 : decode cX4_restoreByChanges 0 = .ok (.aload_n 0, 1) := by decide +kernel
theorem dX4_restoreByChanges_1 : decode cX4_restoreByChanges 1 = .ok (.iload_n 1, 1) := by decide +kernel
theorem dX4_restoreByChanges_2 : decode cX4_restoreByChanges 2 = .ok (.invokevirtual 98, 3) := by decide +kernel
theorem dX4_restoreByChanges_5 : decode cX4_restoreByChanges 5 = .ok (.astore_n 3, 1) := by decide +kernel
theorem dX4_restoreByChanges_6 : decode cX4_restoreByChanges 6 = .ok (.iload_n 2, 1) := by decide +kernel
theorem dX4_restoreByChanges_7 : decode cX4_restoreByChanges 7 = .ok (.invokestatic 34, 3) := by decide +kernel
theorem dX4_restoreByChanges_10 : decode cX4_restoreByChanges 10 = .ok (.aload_n 0, 1) := by decide +kernel
theorem dX4_restoreByChanges_11 : decode cX4_restoreByChanges 11 = .ok (.getfield 10, 3) := by decide +kernel
theorem dX4_restoreByChanges_14 : decode cX4_restoreByChanges 14 = .ok (.aload_n 3, 1) := by decide +kernel
theorem dX4_restoreByChanges_15 : decode cX4_restoreByChanges 15 = .ok (.getfield 91, 3) := by decide +kernel
theorem dX4_restoreByChanges_18 : decode cX4_restoreByChanges 18 = .ok (.iload_n 2, 1) := by decide +kernel
theorem dX4_restoreByChanges_19 : decode cX4_restoreByChanges 19 = .ok (.invokevirtual 171, 3) := by decide +kernel
theorem dX4_restoreByChanges_22 : decode cX4_restoreByChanges 22 = .ok (.ireturn, 1) := by decide +kernel
theorem dX4_onCall_0 : decode cX4_onCall 0 = .ok (.iload_n 1, 1) := by decide +kernel
theorem dX4_onCall_1 : decode cX4_onCall 1 = .ok (.ifCond .lt 10, 3) := by decide +kernel
theorem dX4_onCall_4 : decode cX4_onCall 4 = .ok (.iload_n 1, 1) := by decide +kernel
theorem dX4_onCall_5 : decode cX4_onCall 5 = .ok (.sipush 364, 3) := by decide +kernel
theorem dX4_onCall_8 : decode cX4_onCall 8 = .ok (.if_icmp .le 13, 3) := by decide +kernel
theorem dX4_onCall_11 : decode cX4_onCall 11 = .ok (.new 38, 3) := by decide +kernel
theorem dX4_onCall_14 : decode cX4_onCall 14 = .ok (.dup, 1) := by decide +kernel
theorem dX4_onCall_15 : decode cX4_onCall 15 = .ok (.ldc 175, 2) := by decide +kernel
theorem dX4_onCall_17 : decode cX4_onCall 17 = .ok (.invokespecial 42, 3) := by decide +kernel
theorem dX4_onCall_20 : decode cX4_onCall 20 = .ok (.athrow, 1) := by decide +kernel
theorem dX4_onCall_21 : decode cX4_onCall 21 = .ok (.aload_n 0, 1) := by decide +kernel
theorem dX4_onCall_22 : decode cX4_onCall 22 = .ok (.getfield 26, 3) := by decide +kernel
theorem dX4_onCall_25 : decode cX4_onCall 25 = .ok (.iload_n 1, 1) := by decide +kernel
theorem dX4_onCall_26 : decode cX4_onCall 26 = .ok (.invokevirtual 177, 3) := by decide +kernel
theorem dX4_onCall_29 : decode cX4_onCall 29 = .ok (.ireturn, 1) := by decide +kernel
theorem dX4_swap_0 : decode cX4_swap 0 = .ok (.aload_n 0, 1) := by decide +kernel
theorem dX4_swap_1 : decode cX4_swap 1 = .ok (.iload_n 1, 1) := by decide +kernel
theorem dX4_swap_2 : decode cX4_swap 2 = .ok (.invokevirtual 180, 3) := by decide +kernel
theorem dX4_swap_5 : decode cX4_swap 5 = .ok (.ifCond .eq 16, 3) := by decide +kernel
theorem dX4_swap_8 : decode cX4_swap 8 = .ok (.aload_n 0, 1) := by decide +kernel
theorem dX4_swap_9 : decode cX4_swap 9 = .ok (.iload_n 2, 1) := by decide +kernel
theorem dX4_swap_10 : decode cX4_swap 10 = .ok (.invokevirtual 180, 3) := by decide +kernel
theorem dX4_swap_13 : decode cX4_swap 13 = .ok (.ifCond .eq 8, 3) := by decide +kernel
theorem dX4_swap_16 : decode cX4_swap 16 = .ok (.iload_n 1, 1) := by decide +kernel
theorem dX4_swap_17 : decode cX4_swap 17 = .ok (.iload_n 2, 1) := by decide +kernel
theorem dX4_swap_18 : decode cX4_swap 18 = .ok (.if_icmp .ne 13, 3) := by decide +kernel
theorem dX4_swap_21 : decode cX4_swap 21 = .ok (.new 38, 3) := by decide +kernel
theorem dX4_swap_24 : decode cX4_swap 24 = .ok (.dup, 1) := by decide +kernel
theorem dX4_swap_25 : decode cX4_swap 25 = .ok (.ldc 184, 2) := by decide +kernel
theorem dX4_swap_27 : decode cX4_swap 27 = .ok (.invokespecial 42, 3) := by decide +kernel
theorem dX4_swap_30 : decode cX4_swap 30 = .ok (.athrow, 1) := by decide +kernel
theorem dX4_swap_31 : decode cX4_swap 31 = .ok (.aload_n 0, 1) := by decide +kernel
theorem dX4_swap_32 : decode cX4_swap 32 = .ok (.getfield 26, 3) := by decide +kernel
theorem dX4_swap_35 : decode cX4_swap 35 = .ok (.iload_n 1, 1) := by decide +kernel
theorem dX4_swap_36 : decode cX4_swap 36 = .ok (.iload_n 2, 1) := by decide +kernel
theorem dX4_swap_37 : decode cX4_swap 37 = .ok (.invokevirtual 186, 3) := by decide +kernel
theorem dX4_swap_40 : decode cX4_swap 40 = .ok (.ifCond .ne 13, 3) := by decide +kernel
theorem dX4_swap_43 : decode cX4_swap 43 = .ok (.new 48, 3) := by decide +kernel
theorem dX4_swap_46 : decode cX4_swap 46 = .ok (.dup, 1) := by decide +kernel
theorem dX4_swap_47 : decode cX4_swap 47 = .ok (.ldc 190, 2) := by decide +kernel
theorem dX4_swap_49 : decode cX4_swap 49 = .ok (.invokespecial 52, 3) := by decide +kernel
theorem dX4_swap_52 : decode cX4_swap 52 = .ok (.athrow, 1) := by decide +kernel
theorem dX4_swap_53 : decode cX4_swap 53 = .ok (.aload_n 0, 1) := by decide +kernel
theorem dX4_swap_54 : decode cX4_swap 54 = .ok (.getfield 26, 3) := by decide +kernel
theorem dX4_swap_57 : decode cX4_swap 57 = .ok (.iload_n 1, 1) := by decide +kernel
theorem dX4_swap_58 : decode cX4_swap 58 = .ok (.invokevirtual 177, 3) := by decide +kernel
theorem dX4_swap_61 : decode cX4_swap 61 = .ok (.ireturn, 1) := by decide +kernel
theorem dX4_alarm_0 : decode cX4_alarm 0 = .ok (.iload_n 1, 1) := by decide +kernel
theorem dX4_alarm_1 : decode cX4_alarm 1 = .ok (.ifCond .lt 9, 3) := by decide +kernel
theorem dX4_alarm_4 : decode cX4_alarm 4 = .ok (.iload_n 1, 1) := by decide +kernel
theorem dX4_alarm_5 : decode cX4_alarm 5 = .ok (.bipush 31, 2) := by decide +kernel
theorem dX4_alarm_7 : decode cX4_alarm 7 = .ok (.if_icmp .le 13, 3) := by decide +kernel
theorem dX4_alarm_10 : decode cX4_alarm 10 = .ok (.new 38, 3) := by decide +kernel
theorem dX4_alarm_13 : decode cX4_alarm 13 = .ok (.dup, 1) := by decide +kernel
theorem dX4_alarm_14 : decode cX4_alarm 14 = .ok (.ldc 192, 2) := by decide +kernel
theorem dX4_alarm_16 : decode cX4_alarm 16 = .ok (.invokespecial 42, 3) := by decide +kernel
theorem dX4_alarm_19 : decode cX4_alarm 19 = .ok (.athrow, 1) := by decide +kernel
theorem dX4_alarm_20 : decode cX4_alarm 20 = .ok (.aload_n 0, 1) := by decide +kernel
theorem dX4_alarm_21 : decode cX4_alarm 21 = .ok (.getfield 26, 3) := by decide +kernel
theorem dX4_alarm_24 : decode cX4_alarm 24 = .ok (.aload_n 0, 1) := by decide +kernel
theorem dX4_alarm_25 : decode cX4_alarm 25 = .ok (.getfield 30, 3) := by decide +kernel
theorem dX4_alarm_28 : decode cX4_alarm 28 = .ok (.iload_n 1, 1) := by decide +kernel
theorem dX4_alarm_29 : decode cX4_alarm 29 = .ok (.invokevirtual 194, 3) := by decide +kernel
theorem dX4_alarm_32 : decode cX4_alarm 32 = .ok (.ireturn, 1) := by decide +kernel
theorem dX4_requireFile_0 : decode cX4_requireFile 0 = .ok (.iload_n 0, 1) := by decide +kernel
theorem dX4_requireFile_1 : decode cX4_requireFile 1 = .ok (.ifCond .lt 9, 3) := by decide +kernel
theorem dX4_requireFile_4 : decode cX4_requireFile 4 = .ok (.iload_n 0, 1) := by decide +kernel
theorem dX4_requireFile_5 : decode cX4_requireFile 5 = .ok (.bipush 10, 2) := by decide +kernel
theorem dX4_requireFile_7 : decode cX4_requireFile 7 = .ok (.if_icmp .lt 13, 3) := by decide +kernel
theorem dX4_requireFile_10 : decode cX4_requireFile 10 = .ok (.new 197, 3) := by decide +kernel
theorem dX4_requireFile_13 : decode cX4_requireFile 13 = .ok (.dup, 1) := by decide +kernel
theorem dX4_requireFile_14 : decode cX4_requireFile 14 = .ok (.ldc 199, 2) := by decide +kernel
theorem dX4_requireFile_16 : decode cX4_requireFile 16 = .ok (.invokespecial 201, 3) := by decide +kernel
theorem dX4_requireFile_19 : decode cX4_requireFile 19 = .ok (.athrow, 1) := by decide +kernel
theorem dX4_requireFile_20 : decode cX4_requireFile 20 = .ok (.return_, 1) := by decide +kernel
theorem dX4_requireCopy_0 : decode cX4_requireCopy 0 = .ok (.aload_n 0, 1) := by decide +kernel
theorem dX4_requireCopy_1 : decode cX4_requireCopy 1 = .ok (.getfield 19, 3) := by decide +kernel
theorem dX4_requireCopy_4 : decode cX4_requireCopy 4 = .ok (.iload_n 1, 1) := by decide +kernel
theorem dX4_requireCopy_5 : decode cX4_requireCopy 5 = .ok (.invokevirtual 202, 3) := by decide +kernel
theorem dX4_requireCopy_8 : decode cX4_requireCopy 8 = .ok (.astore_n 2, 1) := by decide +kernel
theorem dX4_requireCopy_9 : decode cX4_requireCopy 9 = .ok (.aload_n 2, 1) := by decide +kernel
theorem dX4_requireCopy_10 : decode cX4_requireCopy 10 = .ok (.ifnonnull 13, 3) := by decide +kernel
theorem dX4_requireCopy_13 : decode cX4_requireCopy 13 = .ok (.new 197, 3) := by decide +kernel
theorem dX4_requireCopy_16 : decode cX4_requireCopy 16 = .ok (.dup, 1) := by decide +kernel
theorem dX4_requireCopy_17 : decode cX4_requireCopy 17 = .ok (.ldc 205, 2) := by decide +kernel
theorem dX4_requireCopy_19 : decode cX4_requireCopy 19 = .ok (.invokespecial 201, 3) := by decide +kernel
theorem dX4_requireCopy_22 : decode cX4_requireCopy 22 = .ok (.athrow, 1) := by decide +kernel
theorem dX4_requireCopy_23 : decode cX4_requireCopy 23 = .ok (.aload_n 2, 1) := by decide +kernel
theorem dX4_requireCopy_24 : decode cX4_requireCopy 24 = .ok (.areturn, 1) := by decide +kernel
theorem dX4_isOpenForSwaps_0 : decode cX4_isOpenForSwaps 0 = .ok (.iload_n 1, 1) := by decide +kernel
theorem dX4_isOpenForSwaps_1 : decode cX4_isOpenForSwaps 1 = .ok (.aload_n 0, 1) := by decide +kernel
theorem dX4_isOpenForSwaps_2 : decode cX4_isOpenForSwaps 2 = .ok (.getfield 30, 3) := by decide +kernel
theorem dX4_isOpenForSwaps_5 : decode cX4_isOpenForSwaps 5 = .ok (.if_icmp .lt 14, 3) := by decide +kernel
theorem dX4_isOpenForSwaps_8 : decode cX4_isOpenForSwaps 8 = .ok (.iload_n 1, 1) := by decide +kernel
theorem dX4_isOpenForSwaps_9 : decode cX4_isOpenForSwaps 9 = .ok (.sipush 364, 3) := by decide +kernel
theorem dX4_isOpenForSwaps_12 : decode cX4_isOpenForSwaps 12 = .ok (.if_icmp .gt 7, 3) := by decide +kernel
theorem dX4_isOpenForSwaps_15 : decode cX4_isOpenForSwaps 15 = .ok (.iconst 1, 1) := by decide +kernel
theorem dX4_isOpenForSwaps_16 : decode cX4_isOpenForSwaps 16 = .ok (.goto 4, 3) := by decide +kernel
theorem dX4_isOpenForSwaps_19 : decode cX4_isOpenForSwaps 19 = .ok (.iconst 0, 1) := by decide +kernel
theorem dX4_isOpenForSwaps_20 : decode cX4_isOpenForSwaps 20 = .ok (.ireturn, 1) := by decide +kernel
theorem dX5_init_0 : decode cX5_init 0 = .ok (.aload_n 0, 1) := by decide +kernel
theorem dX5_init_1 : decode cX5_init 1 = .ok (.invokespecial 1, 3) := by decide +kernel
theorem dX5_init_4 : decode cX5_init 4 = .ok (.aload_n 0, 1) := by decide +kernel
theorem dX5_init_5 : decode cX5_init 5 = .ok (.bipush 10, 2) := by decide +kernel
theorem dX5_init_7 : decode cX5_init 7 = .ok (.newarray .int, 2) := by decide +kernel
theorem dX5_init_9 : decode cX5_init 9 = .ok (.putfield 7, 3) := by decide +kernel
theorem dX5_init_12 : decode cX5_init 12 = .ok (.aload_n 0, 1) := by decide +kernel
theorem dX5_init_13 : decode cX5_init 13 = .ok (.bipush 10, 2) := by decide +kernel
theorem dX5_init_15 : decode cX5_init 15 = .ok (.newarray .int, 2) := by decide +kernel
theorem dX5_init_17 : decode cX5_init 17 = .ok (.putfield 13, 3) := by decide +kernel
theorem dX5_init_20 : decode cX5_init 20 = .ok (.aload_n 0, 1) := by decide +kernel
theorem dX5_init_21 : decode cX5_init 21 = .ok (.bipush 60, 2) := by decide +kernel
theorem dX5_init_23 : decode cX5_init 23 = .ok (.newarray .int, 2) := by decide +kernel
theorem dX5_init_25 : decode cX5_init 25 = .ok (.putfield 16, 3) := by decide +kernel
theorem dX5_init_28 : decode cX5_init 28 = .ok (.aload_n 0, 1) := by decide +kernel
theorem dX5_init_29 : decode cX5_init 29 = .ok (.bipush 60, 2) := by decide +kernel
theorem dX5_init_31 : decode cX5_init 31 = .ok (.newarray .int, 2) := by decide +kernel
theorem dX5_init_33 : decode cX5_init 33 = .ok (.putfield 19, 3) := by decide +kernel
theorem dX5_init_36 : decode cX5_init 36 = .ok (.aload_n 0, 1) := by decide +kernel
theorem dX5_init_37 : decode cX5_init 37 = .ok (.bipush 60, 2) := by decide +kernel
theorem dX5_init_39 : decode cX5_init 39 = .ok (.newarray .int, 2) := by decide +kernel
theorem dX5_init_41 : decode cX5_init 41 = .ok (.putfield 22, 3) := by decide +kernel
theorem dX5_init_44 : decode cX5_init 44 = .ok (.aload_n 0, 1) := by decide +kernel
theorem dX5_init_45 : decode cX5_init 45 = .ok (.bipush 60, 2) := by decide +kernel
theorem dX5_init_47 : decode cX5_init 47 = .ok (.newarray .int, 2) := by decide +kernel
theorem dX5_init_49 : decode cX5_init 49 = .ok (.putfield 25, 3) := by decide +kernel
theorem dX5_init_52 : decode cX5_init 52 = .ok (.aload_n 0, 1) := by decide +kernel
theorem dX5_init_53 : decode cX5_init 53 = .ok (.sipush 600, 3) := by decide +kernel
theorem dX5_init_56 : decode cX5_init 56 = .ok (.newarray .int, 2) := by decide +kernel
theorem dX5_init_58 : decode cX5_init 58 = .ok (.putfield 28, 3) := by decide +kernel
theorem dX5_init_61 : decode cX5_init 61 = .ok (.aload_n 0, 1) := by decide +kernel
theorem dX5_init_62 : decode cX5_init 62 = .ok (.bipush 60, 2) := by decide +kernel
theorem dX5_init_64 : decode cX5_init 64 = .ok (.newarray .boolean, 2) := by decide +kernel
theorem dX5_init_66 : decode cX5_init 66 = .ok (.putfield 31, 3) := by decide +kernel
theorem dX5_init_69 : decode cX5_init 69 = .ok (.aload_n 0, 1) := by decide +kernel
theorem dX5_init_70 : decode cX5_init 70 = .ok (.bipush 60, 2) := by decide +kernel
theorem dX5_init_72 : decode cX5_init 72 = .ok (.newarray .boolean, 2) := by decide +kernel
theorem dX5_init_74 : decode cX5_init 74 = .ok (.putfield 35, 3) := by decide +kernel
theorem dX5_init_77 : decode cX5_init 77 = .ok (.aload_n 0, 1) := by decide +kernel
theorem dX5_init_78 : decode cX5_init 78 = .ok (.bipush 60, 2) := by decide +kernel
theorem dX5_init_80 : decode cX5_init 80 = .ok (.newarray .boolean, 2) := by decide +kernel
theorem dX5_init_82 : decode cX5_init 82 = .ok (.putfield 38, 3) := by decide +kernel
theorem dX5_init_85 : decode cX5_init 85 = .ok (.aload_n 0, 1) := by decide +kernel
theorem dX5_init_86 : decode cX5_init 86 = .ok (.iconst 3, 1) := by decide +kernel
theorem dX5_init_87 : decode cX5_init 87 = .ok (.putfield 41, 3) := by decide +kernel
theorem dX5_init_90 : decode cX5_init 90 = .ok (.aload_n 0, 1) := by decide +kernel
theorem dX5_init_91 : decode cX5_init 91 = .ok (.iconst 2, 1) := by decide +kernel
theorem dX5_init_92 : decode cX5_init 92 = .ok (.putfield 45, 3) := by decide +kernel
theorem dX5_init_95 : decode cX5_init 95 = .ok (.aload_n 0, 1) := by decide +kernel
theorem dX5_init_96 : decode cX5_init 96 = .ok (.iconst 1, 1) := by decide +kernel
theorem dX5_init_97 : decode cX5_init 97 = .ok (.putfield 48, 3) := by decide +kernel
theorem dX5_init_100 : decode cX5_init 100 = .ok (.aload_n 0, 1) := by decide +kernel
theorem dX5_init_101 : decode cX5_init 101 = .ok (.bipush 60, 2) := by decide +kernel
theorem dX5_init_103 : decode cX5_init 103 = .ok (.newarray .boolean, 2) := by decide +kernel
theorem dX5_init_105 : decode cX5_init 105 = .ok (.putfield 51, 3) := by decide +kernel
theorem dX5_init_108 : decode cX5_init 108 = .ok (.aload_n 0, 1) := by decide +kernel
theorem dX5_init_109 : decode cX5_init 109 = .ok (.bipush 60, 2) := by decide +kernel
theorem dX5_init_111 : decode cX5_init 111 = .ok (.newarray .boolean, 2) := by decide +kernel
theorem dX5_init_113 : decode cX5_init 113 = .ok (.putfield 54, 3) := by decide +kernel
theorem dX5_init_116 : decode cX5_init 116 = .ok (.aload_n 0, 1) := by decide +kernel
theorem dX5_init_117 : decode cX5_init 117 = .ok (.bipush 60, 2) := by decide +kernel
theorem dX5_init_119 : decode cX5_init 119 = .ok (.newarray .boolean, 2) := by decide +kernel
theorem dX5_init_121 : decode cX5_init 121 = .ok (.putfield 57, 3) := by decide +kernel
theorem dX5_init_124 : decode cX5_init 124 = .ok (.aload_n 0, 1) := by decide +kernel
theorem dX5_init_125 : decode cX5_init 125 = .ok (.sipush 365, 3) := by decide +kernel
theorem dX5_init_128 : decode cX5_init 128 = .ok (.newarray .int, 2) := by decide +kernel
theorem dX5_init_130 : decode cX5_init 130 = .ok (.putfield 60, 3) := by decide +kernel
theorem dX5_init_133 : decode cX5_init 133 = .ok (.iconst 0, 1) := by decide +kernel
theorem dX5_init_134 : decode cX5_init 134 = .ok (.istore_n 1, 1) := by decide +kernel
theorem dX5_init_135 : decode cX5_init 135 = .ok (.iload_n 1, 1) := by decide +kernel
theorem dX5_init_136 : decode cX5_init 136 = .ok (.sipush 365, 3) := by decide +kernel
theorem dX5_init_139 : decode cX5_init 139 = .ok (.if_icmp .ge 18, 3) := by decide +kernel
theorem dX5_init_142 : decode cX5_init 142 = .ok (.aload_n 0, 1) := by decide +kernel
theorem dX5_init_143 : decode cX5_init 143 = .ok (.getfield 60, 3) := by decide +kernel
theorem dX5_init_146 : decode cX5_init 146 = .ok (.iload_n 1, 1) := by decide +kernel
theorem dX5_init_147 : decode cX5_init 147 = .ok (.iload_n 1, 1) := by decide +kernel
theorem dX5_init_148 : decode cX5_init 148 = .ok (.iconst 5, 1) := by decide +kernel
theorem dX5_init_149 : decode cX5_init 149 = .ok (.irem, 1) := by decide +kernel
theorem dX5_init_150 : decode cX5_init 150 = .ok (.iastore, 1) := by decide +kernel
theorem dX5_init_151 : decode cX5_init 151 = .ok (.iinc 1 1, 3) := by decide +kernel
theorem dX5_init_154 : decode cX5_init 154 = .ok (.goto (-19), 3) := by decide +kernel
theorem dX5_init_157 : decode cX5_init 157 = .ok (.return_, 1) := by decide +kernel
theorem dX5_thrown_0 : decode cX5_thrown 0 = .ok (.aload_n 0, 1) := by decide +kernel
theorem dX5_thrown_1 : decode cX5_thrown 1 = .ok (.getfield 63, 3) := by decide +kernel
theorem dX5_thrown_4 : decode cX5_thrown 4 = .ok (.ireturn, 1) := by decide +kernel
theorem dX5_in_0 : decode cX5_in 0 = .ok (.iload_n 0, 1) := by decide +kernel
theorem dX5_in_1 : decode cX5_in 1 = .ok (.iload_n 1, 1) := by decide +kernel
theorem dX5_in_2 : decode cX5_in 2 = .ok (.if_icmp .lt 12, 3) := by decide +kernel
theorem dX5_in_5 : decode cX5_in 5 = .ok (.iload_n 0, 1) := by decide +kernel
theorem dX5_in_6 : decode cX5_in 6 = .ok (.iload_n 2, 1) := by decide +kernel
theorem dX5_in_7 : decode cX5_in 7 = .ok (.if_icmp .gt 7, 3) := by decide +kernel
theorem dX5_in_10 : decode cX5_in 10 = .ok (.iconst 1, 1) := by decide +kernel
theorem dX5_in_11 : decode cX5_in 11 = .ok (.goto 4, 3) := by decide +kernel
theorem dX5_in_14 : decode cX5_in 14 = .ok (.iconst 0, 1) := by decide +kernel
theorem dX5_in_15 : decode cX5_in 15 = .ok (.ireturn, 1) := by decide +kernel
theorem dX5_goes_0 : decode cX5_goes 0 = .ok (.aload_n 0, 1) := by decide +kernel
theorem dX5_goes_1 : decode cX5_goes 1 = .ok (.iload_n 1, 1) := by decide +kernel
theorem dX5_goes_2 : decode cX5_goes 2 = .ok (.ifCond .ne 7, 3) := by decide +kernel
theorem dX5_goes_5 : decode cX5_goes 5 = .ok (.iconst 1, 1) := by decide +kernel
theorem dX5_goes_6 : decode cX5_goes 6 = .ok (.goto 20, 3) := by decide +kernel
theorem dX5_goes_9 : decode cX5_goes 9 = .ok (.iload_n 2, 1) := by decide +kernel
theorem dX5_goes_10 : decode cX5_goes 10 = .ok (.ifCond .ne 7, 3) := by decide +kernel
theorem dX5_goes_13 : decode cX5_goes 13 = .ok (.iconst 2, 1) := by decide +kernel
theorem dX5_goes_14 : decode cX5_goes 14 = .ok (.goto 12, 3) := by decide +kernel
theorem dX5_goes_17 : decode cX5_goes 17 = .ok (.iload_n 3, 1) := by decide +kernel
theorem dX5_goes_18 : decode cX5_goes 18 = .ok (.ifCond .eq 7, 3) := by decide +kernel
theorem dX5_goes_21 : decode cX5_goes 21 = .ok (.iconst 0, 1) := by decide +kernel
theorem dX5_goes_22 : decode cX5_goes 22 = .ok (.goto 4, 3) := by decide +kernel
theorem dX5_goes_25 : decode cX5_goes 25 = .ok (.iconst 3, 1) := by decide +kernel
theorem dX5_goes_26 : decode cX5_goes 26 = .ok (.putfield 63, 3) := by decide +kernel
theorem dX5_goes_29 : decode cX5_goes 29 = .ok (.aload_n 0, 1) := by decide +kernel
theorem dX5_goes_30 : decode cX5_goes 30 = .ok (.getfield 63, 3) := by decide +kernel
theorem dX5_goes_33 : decode cX5_goes 33 = .ok (.ifCond .ne 7, 3) := by decide +kernel
theorem dX5_goes_36 : decode cX5_goes 36 = .ok (.iconst 1, 1) := by decide +kernel
theorem dX5_goes_37 : decode cX5_goes 37 = .ok (.goto 4, 3) := by decide +kernel
theorem dX5_goes_40 : decode cX5_goes 40 = .ok (.iconst 0, 1) := by decide +kernel
theorem dX5_goes_41 : decode cX5_goes 41 = .ok (.ireturn, 1) := by decide +kernel
theorem dX5_isCopy_0 : decode cX5_isCopy 0 = .ok (.iload_n 1, 1) := by decide +kernel
theorem dX5_isCopy_1 : decode cX5_isCopy 1 = .ok (.iconst 0, 1) := by decide +kernel
theorem dX5_isCopy_2 : decode cX5_isCopy 2 = .ok (.aload_n 0, 1) := by decide +kernel
theorem dX5_isCopy_3 : decode cX5_isCopy 3 = .ok (.getfield 66, 3) := by decide +kernel
theorem dX5_isCopy_6 : decode cX5_isCopy 6 = .ok (.iconst 1, 1) := by decide +kernel
theorem dX5_isCopy_7 : decode cX5_isCopy 7 = .ok (.isub, 1) := by decide +kernel
theorem dX5_isCopy_8 : decode cX5_isCopy 8 = .ok (.invokestatic 69, 3) := by decide +kernel
theorem dX5_isCopy_11 : decode cX5_isCopy 11 = .ok (.ifCond .eq 16, 3) := by decide +kernel
theorem dX5_isCopy_14 : decode cX5_isCopy 14 = .ok (.aload_n 0, 1) := by decide +kernel
theorem dX5_isCopy_15 : decode cX5_isCopy 15 = .ok (.getfield 31, 3) := by decide +kernel
theorem dX5_isCopy_18 : decode cX5_isCopy 18 = .ok (.iload_n 1, 1) := by decide +kernel
theorem dX5_isCopy_19 : decode cX5_isCopy 19 = .ok (.baload, 1) := by decide +kernel
theorem dX5_isCopy_20 : decode cX5_isCopy 20 = .ok (.ifCond .eq 7, 3) := by decide +kernel
theorem dX5_isCopy_23 : decode cX5_isCopy 23 = .ok (.iconst 1, 1) := by decide +kernel
theorem dX5_isCopy_24 : decode cX5_isCopy 24 = .ok (.goto 4, 3) := by decide +kernel
theorem dX5_isCopy_27 : decode cX5_isCopy 27 = .ok (.iconst 0, 1) := by decide +kernel
theorem dX5_isCopy_28 : decode cX5_isCopy 28 = .ok (.ireturn, 1) := by decide +kernel
theorem dX5_isFile_0 : decode cX5_isFile 0 = .ok (.iload_n 0, 1) := by decide +kernel
theorem dX5_isFile_1 : decode cX5_isFile 1 = .ok (.iconst 0, 1) := by decide +kernel
theorem dX5_isFile_2 : decode cX5_isFile 2 = .ok (.bipush 9, 2) := by decide +kernel
theorem dX5_isFile_4 : decode cX5_isFile 4 = .ok (.invokestatic 69, 3) := by decide +kernel
theorem dX5_isFile_7 : decode cX5_isFile 7 = .ok (.ireturn, 1) := by decide +kernel
theorem dX5_change_0 : decode cX5_change 0 = .ok (.aload_n 0, 1) := by decide +kernel
theorem dX5_change_1 : decode cX5_change 1 = .ok (.iload_n 1, 1) := by decide +kernel
theorem dX5_change_2 : decode cX5_change 2 = .ok (.invokestatic 73, 3) := by decide +kernel
theorem dX5_change_5 : decode cX5_change 5 = .ok (.iload_n 2, 1) := by decide +kernel
theorem dX5_change_6 : decode cX5_change 6 = .ok (.iconst 0, 1) := by decide +kernel
theorem dX5_change_7 : decode cX5_change 7 = .ok (.bipush 99, 2) := by decide +kernel
theorem dX5_change_9 : decode cX5_change 9 = .ok (.invokestatic 69, 3) := by decide +kernel
theorem dX5_change_12 : decode cX5_change 12 = .ok (.aload_n 0, 1) := by decide +kernel
theorem dX5_change_13 : decode cX5_change 13 = .ok (.getfield 77, 3) := by decide +kernel
theorem dX5_change_16 : decode cX5_change 16 = .ok (.sipush 300, 3) := by decide +kernel
theorem dX5_change_19 : decode cX5_change 19 = .ok (.if_icmp .ge 7, 3) := by decide +kernel
theorem dX5_change_22 : decode cX5_change 22 = .ok (.iconst 1, 1) := by decide +kernel
theorem dX5_change_23 : decode cX5_change 23 = .ok (.goto 4, 3) := by decide +kernel
theorem dX5_change_26 : decode cX5_change 26 = .ok (.iconst 0, 1) := by decide +kernel
theorem dX5_change_27 : decode cX5_change 27 = .ok (.invokevirtual 80, 3) := by decide +kernel
theorem dX5_change_30 : decode cX5_change 30 = .ok (.ifCond .ne 5, 3) := by decide +kernel
theorem dX5_change_33 : decode cX5_change 33 = .ok (.iconst 0, 1) := by decide +kernel
theorem dX5_change_34 : decode cX5_change 34 = .ok (.ireturn, 1) := by decide +kernel
theorem dX5_change_35 : decode cX5_change 35 = .ok (.aload_n 0, 1) := by decide +kernel
theorem dX5_change_36 : decode cX5_change 36 = .ok (.getfield 7, 3) := by decide +kernel
theorem dX5_change_39 : decode cX5_change 39 = .ok (.iload_n 1, 1) := by decide +kernel
theorem dX5_change_40 : decode cX5_change 40 = .ok (.iaload, 1) := by decide +kernel
theorem dX5_change_41 : decode cX5_change 41 = .ok (.istore_n 3, 1) := by decide +kernel
theorem dX5_change_42 : decode cX5_change 42 = .ok (.aload_n 0, 1) := by decide +kernel
theorem dX5_change_43 : decode cX5_change 43 = .ok (.getfield 7, 3) := by decide +kernel
theorem dX5_change_46 : decode cX5_change 46 = .ok (.iload_n 1, 1) := by decide +kernel
theorem dX5_change_47 : decode cX5_change 47 = .ok (.iload_n 2, 1) := by decide +kernel
theorem dX5_change_48 : decode cX5_change 48 = .ok (.iastore, 1) := by decide +kernel
theorem dX5_change_49 : decode cX5_change 49 = .ok (.aload_n 0, 1) := by decide +kernel
theorem dX5_change_50 : decode cX5_change 50 = .ok (.dup, 1) := by decide +kernel
theorem dX5_change_51 : decode cX5_change 51 = .ok (.getfield 77, 3) := by decide +kernel
theorem dX5_change_54 : decode cX5_change 54 = .ok (.iconst 1, 1) := by decide +kernel
theorem dX5_change_55 : decode cX5_change 55 = .ok (.iadd, 1) := by decide +kernel
theorem dX5_change_56 : decode cX5_change 56 = .ok (.putfield 77, 3) := by decide +kernel
theorem dX5_change_59 : decode cX5_change 59 = .ok (.aload_n 0, 1) := by decide +kernel
theorem dX5_change_60 : decode cX5_change 60 = .ok (.getfield 13, 3) := by decide +kernel
theorem dX5_change_63 : decode cX5_change 63 = .ok (.iload_n 1, 1) := by decide +kernel
theorem dX5_change_64 : decode cX5_change 64 = .ok (.aload_n 0, 1) := by decide +kernel
theorem dX5_change_65 : decode cX5_change 65 = .ok (.getfield 77, 3) := by decide +kernel
theorem dX5_change_68 : decode cX5_change 68 = .ok (.iastore, 1) := by decide +kernel
theorem dX5_change_69 : decode cX5_change 69 = .ok (.iload_n 3, 1) := by decide +kernel
theorem dX5_change_70 : decode cX5_change 70 = .ok (.ireturn, 1) := by decide +kernel
theorem dX5_pass_0 : decode cX5_pass 0 = .ok (.iload_n 1, 1) := by decide +kernel
theorem dX5_pass_1 : decode cX5_pass 1 = .ok (.iconst 1, 1) := by decide +kernel
theorem dX5_pass_2 : decode cX5_pass 2 = .ok (.bipush 30, 2) := by decide +kernel
theorem dX5_pass_4 : decode cX5_pass 4 = .ok (.invokestatic 69, 3) := by decide +kernel
theorem dX5_pass_7 : decode cX5_pass 7 = .ok (.istore_n 2, 1) := by decide +kernel
theorem dX5_pass_8 : decode cX5_pass 8 = .ok (.aload_n 0, 1) := by decide +kernel
theorem dX5_pass_9 : decode cX5_pass 9 = .ok (.iload_n 2, 1) := by decide +kernel
theorem dX5_pass_10 : decode cX5_pass 10 = .ok (.iload_n 2, 1) := by decide +kernel
theorem dX5_pass_11 : decode cX5_pass 11 = .ok (.ifCond .eq 19, 3) := by decide +kernel
theorem dX5_pass_14 : decode cX5_pass 14 = .ok (.aload_n 0, 1) := by decide +kernel
theorem dX5_pass_15 : decode cX5_pass 15 = .ok (.getfield 84, 3) := by decide +kernel
theorem dX5_pass_18 : decode cX5_pass 18 = .ok (.iload_n 1, 1) := by decide +kernel
theorem dX5_pass_19 : decode cX5_pass 19 = .ok (.iadd, 1) := by decide +kernel
theorem dX5_pass_20 : decode cX5_pass 20 = .ok (.sipush 360, 3) := by decide +kernel
theorem dX5_pass_23 : decode cX5_pass 23 = .ok (.if_icmp .gt 7, 3) := by decide +kernel
theorem dX5_pass_26 : decode cX5_pass 26 = .ok (.iconst 1, 1) := by decide +kernel
theorem dX5_pass_27 : decode cX5_pass 27 = .ok (.goto 4, 3) := by decide +kernel
theorem dX5_pass_30 : decode cX5_pass 30 = .ok (.iconst 0, 1) := by decide +kernel
theorem dX5_pass_31 : decode cX5_pass 31 = .ok (.iconst 1, 1) := by decide +kernel
theorem dX5_pass_32 : decode cX5_pass 32 = .ok (.invokevirtual 80, 3) := by decide +kernel
theorem dX5_pass_35 : decode cX5_pass 35 = .ok (.ifCond .ne 5, 3) := by decide +kernel
theorem dX5_pass_38 : decode cX5_pass 38 = .ok (.iconst 0, 1) := by decide +kernel
theorem dX5_pass_39 : decode cX5_pass 39 = .ok (.ireturn, 1) := by decide +kernel
theorem dX5_pass_40 : decode cX5_pass 40 = .ok (.aload_n 0, 1) := by decide +kernel
theorem dX5_pass_41 : decode cX5_pass 41 = .ok (.dup, 1) := by decide +kernel
theorem dX5_pass_42 : decode cX5_pass 42 = .ok (.getfield 84, 3) := by decide +kernel
theorem dX5_pass_45 : decode cX5_pass 45 = .ok (.iload_n 1, 1) := by decide +kernel
theorem dX5_pass_46 : decode cX5_pass 46 = .ok (.iadd, 1) := by decide +kernel
theorem dX5_pass_47 : decode cX5_pass 47 = .ok (.putfield 84, 3) := by decide +kernel
theorem dX5_pass_50 : decode cX5_pass 50 = .ok (.aload_n 0, 1) := by decide +kernel
theorem dX5_pass_51 : decode cX5_pass 51 = .ok (.getfield 84, 3) := by decide +kernel
theorem dX5_pass_54 : decode cX5_pass 54 = .ok (.ireturn, 1) := by decide +kernel
theorem dX5_latest_0 : decode cX5_latest 0 = .ok (.iconst (-1), 1) := by decide +kernel
theorem dX5_latest_1 : decode cX5_latest 1 = .ok (.istore_n 1, 1) := by decide +kernel
theorem dX5_latest_2 : decode cX5_latest 2 = .ok (.iconst 0, 1) := by decide +kernel
theorem dX5_latest_3 : decode cX5_latest 3 = .ok (.istore_n 2, 1) := by decide +kernel
theorem dX5_latest_4 : decode cX5_latest 4 = .ok (.iload_n 2, 1) := by decide +kernel
theorem dX5_latest_5 : decode cX5_latest 5 = .ok (.aload_n 0, 1) := by decide +kernel
theorem dX5_latest_6 : decode cX5_latest 6 = .ok (.getfield 66, 3) := by decide +kernel
theorem dX5_latest_9 : decode cX5_latest 9 = .ok (.if_icmp .ge 24, 3) := by decide +kernel
theorem dX5_latest_12 : decode cX5_latest 12 = .ok (.aload_n 0, 1) := by decide +kernel
theorem dX5_latest_13 : decode cX5_latest 13 = .ok (.getfield 31, 3) := by decide +kernel
theorem dX5_latest_16 : decode cX5_latest 16 = .ok (.iload_n 2, 1) := by decide +kernel
theorem dX5_latest_17 : decode cX5_latest 17 = .ok (.baload, 1) := by decide +kernel
theorem dX5_latest_18 : decode cX5_latest 18 = .ok (.ifCond .eq 7, 3) := by decide +kernel
theorem dX5_latest_21 : decode cX5_latest 21 = .ok (.iload_n 2, 1) := by decide +kernel
theorem dX5_latest_22 : decode cX5_latest 22 = .ok (.goto 4, 3) := by decide +kernel
theorem dX5_latest_25 : decode cX5_latest 25 = .ok (.iload_n 1, 1) := by decide +kernel
theorem dX5_latest_26 : decode cX5_latest 26 = .ok (.istore_n 1, 1) := by decide +kernel
theorem dX5_latest_27 : decode cX5_latest 27 = .ok (.iinc 2 1, 3) := by decide +kernel
theorem dX5_latest_30 : decode cX5_latest 30 = .ok (.goto (-26), 3) := by decide +kernel
theorem dX5_latest_33 : decode cX5_latest 33 = .ok (.iload_n 1, 1) := by decide +kernel
theorem dX5_latest_34 : decode cX5_latest 34 = .ok (.ireturn, 1) := by decide +kernel
theorem dX5_makes_0 : decode cX5_makes 0 = .ok (.aload_n 0, 1) := by decide +kernel
theorem dX5_makes_1 : decode cX5_makes 1 = .ok (.getfield 16, 3) := by decide +kernel
theorem dX5_makes_4 : decode cX5_makes 4 = .ok (.aload_n 0, 1) := by decide +kernel
theorem dX5_makes_5 : decode cX5_makes 5 = .ok (.getfield 66, 3) := by decide +kernel
theorem dX5_makes_8 : decode cX5_makes 8 = .ok (.aload_n 0, 1) := by decide +kernel
theorem dX5_makes_9 : decode cX5_makes 9 = .ok (.getfield 84, 3) := by decide +kernel
theorem dX5_makes_12 : decode cX5_makes 12 = .ok (.iastore, 1) := by decide +kernel
theorem dX5_makes_13 : decode cX5_makes 13 = .ok (.aload_n 0, 1) := by decide +kernel
theorem dX5_makes_14 : decode cX5_makes 14 = .ok (.getfield 19, 3) := by decide +kernel
theorem dX5_makes_17 : decode cX5_makes 17 = .ok (.aload_n 0, 1) := by decide +kernel
theorem dX5_makes_18 : decode cX5_makes 18 = .ok (.getfield 66, 3) := by decide +kernel
theorem dX5_makes_21 : decode cX5_makes 21 = .ok (.iload_n 1, 1) := by decide +kernel
theorem dX5_makes_22 : decode cX5_makes 22 = .ok (.iastore, 1) := by decide +kernel
theorem dX5_makes_23 : decode cX5_makes 23 = .ok (.aload_n 0, 1) := by decide +kernel
theorem dX5_makes_24 : decode cX5_makes 24 = .ok (.getfield 25, 3) := by decide +kernel
theorem dX5_makes_27 : decode cX5_makes 27 = .ok (.aload_n 0, 1) := by decide +kernel
theorem dX5_makes_28 : decode cX5_makes 28 = .ok (.getfield 66, 3) := by decide +kernel
theorem dX5_makes_31 : decode cX5_makes 31 = .ok (.aload_n 0, 1) := by decide +kernel
theorem dX5_makes_32 : decode cX5_makes 32 = .ok (.getfield 77, 3) := by decide +kernel
theorem dX5_makes_35 : decode cX5_makes 35 = .ok (.iastore, 1) := by decide +kernel
theorem dX5_makes_36 : decode cX5_makes 36 = .ok (.iconst 0, 1) := by decide +kernel
theorem dX5_makes_37 : decode cX5_makes 37 = .ok (.istore_n 2, 1) := by decide +kernel
theorem dX5_makes_38 : decode cX5_makes 38 = .ok (.iload_n 2, 1) := by decide +kernel
theorem dX5_makes_39 : decode cX5_makes 39 = .ok (.bipush 10, 2) := by decide +kernel
theorem dX5_makes_41 : decode cX5_makes 41 = .ok (.if_icmp .ge 84, 3) := by decide +kernel
theorem dX5_makes_44 : decode cX5_makes 44 = .ok (.iload_n 1, 1) := by decide +kernel
theorem dX5_makes_45 : decode cX5_makes 45 = .ok (.iconst (-1), 1) := by decide +kernel
theorem dX5_makes_46 : decode cX5_makes 46 = .ok (.if_icmp .eq 18, 3) := by decide +kernel
theorem dX5_makes_49 : decode cX5_makes 49 = .ok (.aload_n 0, 1) := by decide +kernel
theorem dX5_makes_50 : decode cX5_makes 50 = .ok (.getfield 13, 3) := by decide +kernel
theorem dX5_makes_53 : decode cX5_makes 53 = .ok (.iload_n 2, 1) := by decide +kernel
theorem dX5_makes_54 : decode cX5_makes 54 = .ok (.iaload, 1) := by decide +kernel
theorem dX5_makes_55 : decode cX5_makes 55 = .ok (.aload_n 0, 1) := by decide +kernel
theorem dX5_makes_56 : decode cX5_makes 56 = .ok (.getfield 25, 3) := by decide +kernel
theorem dX5_makes_59 : decode cX5_makes 59 = .ok (.iload_n 1, 1) := by decide +kernel
theorem dX5_makes_60 : decode cX5_makes 60 = .ok (.iaload, 1) := by decide +kernel
theorem dX5_makes_61 : decode cX5_makes 61 = .ok (.if_icmp .le 7, 3) := by decide +kernel
theorem dX5_makes_64 : decode cX5_makes 64 = .ok (.iconst 1, 1) := by decide +kernel
theorem dX5_makes_65 : decode cX5_makes 65 = .ok (.goto 4, 3) := by decide +kernel
theorem dX5_makes_68 : decode cX5_makes 68 = .ok (.iconst 0, 1) := by decide +kernel
theorem dX5_makes_69 : decode cX5_makes 69 = .ok (.istore_n 3, 1) := by decide +kernel
theorem dX5_makes_70 : decode cX5_makes 70 = .ok (.aload_n 0, 1) := by decide +kernel
theorem dX5_makes_71 : decode cX5_makes 71 = .ok (.getfield 28, 3) := by decide +kernel
theorem dX5_makes_74 : decode cX5_makes 74 = .ok (.bipush 10, 2) := by decide +kernel
theorem dX5_makes_76 : decode cX5_makes 76 = .ok (.aload_n 0, 1) := by decide +kernel
theorem dX5_makes_77 : decode cX5_makes 77 = .ok (.getfield 66, 3) := by decide +kernel
theorem dX5_makes_80 : decode cX5_makes 80 = .ok (.imul, 1) := by decide +kernel
theorem dX5_makes_81 : decode cX5_makes 81 = .ok (.iload_n 2, 1) := by decide +kernel
theorem dX5_makes_82 : decode cX5_makes 82 = .ok (.iadd, 1) := by decide +kernel
theorem dX5_makes_83 : decode cX5_makes 83 = .ok (.iload_n 3, 1) := by decide +kernel
theorem dX5_makes_84 : decode cX5_makes 84 = .ok (.ifCond .eq 12, 3) := by decide +kernel
theorem dX5_makes_87 : decode cX5_makes 87 = .ok (.aload_n 0, 1) := by decide +kernel
theorem dX5_makes_88 : decode cX5_makes 88 = .ok (.getfield 7, 3) := by decide +kernel
theorem dX5_makes_91 : decode cX5_makes 91 = .ok (.iload_n 2, 1) := by decide +kernel
theorem dX5_makes_92 : decode cX5_makes 92 = .ok (.iaload, 1) := by decide +kernel
theorem dX5_makes_93 : decode cX5_makes 93 = .ok (.goto 4, 3) := by decide +kernel
theorem dX5_makes_96 : decode cX5_makes 96 = .ok (.iconst (-1), 1) := by decide +kernel
theorem dX5_makes_97 : decode cX5_makes 97 = .ok (.iastore, 1) := by decide +kernel
theorem dX5_makes_98 : decode cX5_makes 98 = .ok (.aload_n 0, 1) := by decide +kernel
theorem dX5_makes_99 : decode cX5_makes 99 = .ok (.getfield 22, 3) := by decide +kernel
theorem dX5_makes_102 : decode cX5_makes 102 = .ok (.aload_n 0, 1) := by decide +kernel
theorem dX5_makes_103 : decode cX5_makes 103 = .ok (.getfield 66, 3) := by decide +kernel
theorem dX5_makes_106 : decode cX5_makes 106 = .ok (.dup2, 1) := by decide +kernel
theorem dX5_makes_107 : decode cX5_makes 107 = .ok (.iaload, 1) := by decide +kernel
theorem dX5_makes_108 : decode cX5_makes 108 = .ok (.iload_n 3, 1) := by decide +kernel
theorem dX5_makes_109 : decode cX5_makes 109 = .ok (.ifCond .eq 7, 3) := by decide +kernel
theorem dX5_makes_112 : decode cX5_makes 112 = .ok (.iconst 1, 1) := by decide +kernel
theorem dX5_makes_113 : decode cX5_makes 113 = .ok (.goto 4, 3) := by decide +kernel
theorem dX5_makes_116 : decode cX5_makes 116 = .ok (.iconst 0, 1) := by decide +kernel
theorem dX5_makes_117 : decode cX5_makes 117 = .ok (.iadd, 1) := by decide +kernel
theorem dX5_makes_118 : decode cX5_makes 118 = .ok (.iastore, 1) := by decide +kernel
theorem dX5_makes_119 : decode cX5_makes 119 = .ok (.iinc 2 1, 3) := by decide +kernel
theorem dX5_makes_122 : decode cX5_makes 122 = .ok (.goto (-84), 3) := by decide +kernel
theorem dX5_makes_125 : decode cX5_makes 125 = .ok (.aload_n 0, 1) := by decide +kernel
theorem dX5_makes_126 : decode cX5_makes 126 = .ok (.getfield 31, 3) := by decide +kernel
theorem dX5_makes_129 : decode cX5_makes 129 = .ok (.aload_n 0, 1) := by decide +kernel
theorem dX5_makes_130 : decode cX5_makes 130 = .ok (.getfield 66, 3) := by decide +kernel
theorem dX5_makes_133 : decode cX5_makes 133 = .ok (.iconst 1, 1) := by decide +kernel
theorem dX5_makes_134 : decode cX5_makes 134 = .ok (.bastore, 1) := by decide +kernel
theorem dX5_makes_135 : decode cX5_makes 135 = .ok (.aload_n 0, 1) := by decide +kernel
theorem dX5_makes_136 : decode cX5_makes 136 = .ok (.dup, 1) := by decide +kernel
theorem dX5_makes_137 : decode cX5_makes 137 = .ok (.getfield 66, 3) := by decide +kernel
theorem dX5_makes_140 : decode cX5_makes 140 = .ok (.iconst 1, 1) := by decide +kernel
theorem dX5_makes_141 : decode cX5_makes 141 = .ok (.iadd, 1) := by decide +kernel
theorem dX5_makes_142 : decode cX5_makes 142 = .ok (.putfield 66, 3) := by decide +kernel
theorem dX5_makes_145 : decode cX5_makes 145 = .ok (.aload_n 0, 1) := by decide +kernel
theorem dX5_makes_146 : decode cX5_makes 146 = .ok (.getfield 66, 3) := by decide +kernel
theorem dX5_makes_149 : decode cX5_makes 149 = .ok (.iconst 1, 1) := by decide +kernel
theorem dX5_makes_150 : decode cX5_makes 150 = .ok (.isub, 1) := by decide +kernel
theorem dX5_makes_151 : decode cX5_makes 151 = .ok (.ireturn, 1) := by decide +kernel
theorem dX5_full_0 : decode cX5_full 0 = .ok (.aload_n 0, 1) := by decide +kernel
theorem dX5_full_1 : decode cX5_full 1 = .ok (.aload_n 0, 1) := by decide +kernel
theorem dX5_full_2 : decode cX5_full 2 = .ok (.getfield 66, 3) := by decide +kernel
theorem dX5_full_5 : decode cX5_full 5 = .ok (.bipush 60, 2) := by decide +kernel
theorem dX5_full_7 : decode cX5_full 7 = .ok (.if_icmp .ge 7, 3) := by decide +kernel
theorem dX5_full_10 : decode cX5_full 10 = .ok (.iconst 1, 1) := by decide +kernel
theorem dX5_full_11 : decode cX5_full 11 = .ok (.goto 4, 3) := by decide +kernel
theorem dX5_full_14 : decode cX5_full 14 = .ok (.iconst 0, 1) := by decide +kernel
theorem dX5_full_15 : decode cX5_full 15 = .ok (.iconst 1, 1) := by decide +kernel
theorem dX5_full_16 : decode cX5_full 16 = .ok (.iconst 1, 1) := by decide +kernel
theorem dX5_full_17 : decode cX5_full 17 = .ok (.invokevirtual 80, 3) := by decide +kernel
theorem dX5_full_20 : decode cX5_full 20 = .ok (.ifCond .eq 11, 3) := by decide +kernel
theorem dX5_full_23 : decode cX5_full 23 = .ok (.aload_n 0, 1) := by decide +kernel
theorem dX5_full_24 : decode cX5_full 24 = .ok (.iconst (-1), 1) := by decide +kernel
theorem dX5_full_25 : decode cX5_full 25 = .ok (.invokevirtual 87, 3) := by decide +kernel
theorem dX5_full_28 : decode cX5_full 28 = .ok (.goto 4, 3) := by decide +kernel
theorem dX5_full_31 : decode cX5_full 31 = .ok (.iconst 0, 1) := by decide +kernel
theorem dX5_full_32 : decode cX5_full 32 = .ok (.ireturn, 1) := by decide +kernel
theorem dX5_increment_0 : decode cX5_increment 0 = .ok (.aload_n 0, 1) := by decide +kernel
theorem dX5_increment_1 : decode cX5_increment 1 = .ok (.aload_n 0, 1) := by decide +kernel
theorem dX5_increment_2 : decode cX5_increment 2 = .ok (.getfield 66, 3) := by decide +kernel
theorem dX5_increment_5 : decode cX5_increment 5 = .ok (.bipush 60, 2) := by decide +kernel
theorem dX5_increment_7 : decode cX5_increment 7 = .ok (.if_icmp .ge 15, 3) := by decide +kernel
theorem dX5_increment_10 : decode cX5_increment 10 = .ok (.aload_n 0, 1) := by decide +kernel
theorem dX5_increment_11 : decode cX5_increment 11 = .ok (.invokevirtual 91, 3) := by decide +kernel
theorem dX5_increment_14 : decode cX5_increment 14 = .ok (.iconst (-1), 1) := by decide +kernel
theorem dX5_increment_15 : decode cX5_increment 15 = .ok (.if_icmp .eq 7, 3) := by decide +kernel
theorem dX5_increment_18 : decode cX5_increment 18 = .ok (.iconst 1, 1) := by decide +kernel
theorem dX5_increment_19 : decode cX5_increment 19 = .ok (.goto 4, 3) := by decide +kernel
theorem dX5_increment_22 : decode cX5_increment 22 = .ok (.iconst 0, 1) := by decide +kernel
theorem dX5_increment_23 : decode cX5_increment 23 = .ok (.iconst 1, 1) := by decide +kernel
theorem dX5_increment_24 : decode cX5_increment 24 = .ok (.iconst 1, 1) := by decide +kernel
theorem dX5_increment_25 : decode cX5_increment 25 = .ok (.invokevirtual 80, 3) := by decide +kernel
theorem dX5_increment_28 : decode cX5_increment 28 = .ok (.ifCond .eq 14, 3) := by decide +kernel
theorem dX5_increment_31 : decode cX5_increment 31 = .ok (.aload_n 0, 1) := by decide +kernel
theorem dX5_increment_32 : decode cX5_increment 32 = .ok (.aload_n 0, 1) := by decide +kernel
theorem dX5_increment_33 : decode cX5_increment 33 = .ok (.invokevirtual 91, 3) := by decide +kernel
theorem dX5_increment_36 : decode cX5_increment 36 = .ok (.invokevirtual 87, 3) := by decide +kernel
theorem dX5_increment_39 : decode cX5_increment 39 = .ok (.goto 4, 3) := by decide +kernel
theorem dX5_increment_42 : decode cX5_increment 42 = .ok (.iconst 0, 1) := by decide +kernel
theorem dX5_increment_43 : decode cX5_increment 43 = .ok (.ireturn, 1) := by decide +kernel
theorem dX5_promises_0 : decode cX5_promises 0 = .ok (.iload_n 2, 1) := by decide +kernel
theorem dX5_promises_1 : decode cX5_promises 1 = .ok (.istore_n 3, 1) := by decide +kernel
theorem dX5_promises_2 : decode cX5_promises 2 = .ok (.iconst (-1), 1) := by decide +kernel
theorem dX5_promises_3 : decode cX5_promises 3 = .ok (.istore 4, 2) := by decide +kernel
theorem dX5_promises_5 : decode cX5_promises 5 = .ok (.aload_n 0, 1) := by decide +kernel
theorem dX5_promises_6 : decode cX5_promises 6 = .ok (.getfield 66, 3) := by decide +kernel
theorem dX5_promises_9 : decode cX5_promises 9 = .ok (.iconst 1, 1) := by decide +kernel
theorem dX5_promises_10 : decode cX5_promises 10 = .ok (.isub, 1) := by decide +kernel
theorem dX5_promises_11 : decode cX5_promises 11 = .ok (.istore 5, 2) := by decide +kernel
theorem dX5_promises_13 : decode cX5_promises 13 = .ok (.iload 5, 2) := by decide +kernel
theorem dX5_promises_15 : decode cX5_promises 15 = .ok (.ifCond .lt 59, 3) := by decide +kernel
theorem dX5_promises_18 : decode cX5_promises 18 = .ok (.iload_n 3, 1) := by decide +kernel
theorem dX5_promises_19 : decode cX5_promises 19 = .ok (.ifCond .le 55, 3) := by decide +kernel
theorem dX5_promises_22 : decode cX5_promises 22 = .ok (.aload_n 0, 1) := by decide +kernel
theorem dX5_promises_23 : decode cX5_promises 23 = .ok (.getfield 31, 3) := by decide +kernel
theorem dX5_promises_26 : decode cX5_promises 26 = .ok (.iload 5, 2) := by decide +kernel
theorem dX5_promises_28 : decode cX5_promises 28 = .ok (.baload, 1) := by decide +kernel
theorem dX5_promises_29 : decode cX5_promises 29 = .ok (.ifCond .eq 39, 3) := by decide +kernel
theorem dX5_promises_32 : decode cX5_promises 32 = .ok (.aload_n 0, 1) := by decide +kernel
theorem dX5_promises_33 : decode cX5_promises 33 = .ok (.getfield 16, 3) := by decide +kernel
theorem dX5_promises_36 : decode cX5_promises 36 = .ok (.iload 5, 2) := by decide +kernel
theorem dX5_promises_38 : decode cX5_promises 38 = .ok (.iaload, 1) := by decide +kernel
theorem dX5_promises_39 : decode cX5_promises 39 = .ok (.iload_n 1, 1) := by decide +kernel
theorem dX5_promises_40 : decode cX5_promises 40 = .ok (.idiv, 1) := by decide +kernel
theorem dX5_promises_41 : decode cX5_promises 41 = .ok (.iload 4, 2) := by decide +kernel
theorem dX5_promises_43 : decode cX5_promises 43 = .ok (.if_icmp .eq 25, 3) := by decide +kernel
theorem dX5_promises_46 : decode cX5_promises 46 = .ok (.aload_n 0, 1) := by decide +kernel
theorem dX5_promises_47 : decode cX5_promises 47 = .ok (.getfield 16, 3) := by decide +kernel
theorem dX5_promises_50 : decode cX5_promises 50 = .ok (.iload 5, 2) := by decide +kernel
theorem dX5_promises_52 : decode cX5_promises 52 = .ok (.iaload, 1) := by decide +kernel
theorem dX5_promises_53 : decode cX5_promises 53 = .ok (.iload_n 1, 1) := by decide +kernel
theorem dX5_promises_54 : decode cX5_promises 54 = .ok (.idiv, 1) := by decide +kernel
theorem dX5_promises_55 : decode cX5_promises 55 = .ok (.istore 4, 2) := by decide +kernel
theorem dX5_promises_57 : decode cX5_promises 57 = .ok (.aload_n 0, 1) := by decide +kernel
theorem dX5_promises_58 : decode cX5_promises 58 = .ok (.getfield 51, 3) := by decide +kernel
theorem dX5_promises_61 : decode cX5_promises 61 = .ok (.iload 5, 2) := by decide +kernel
theorem dX5_promises_63 : decode cX5_promises 63 = .ok (.iconst 1, 1) := by decide +kernel
theorem dX5_promises_64 : decode cX5_promises 64 = .ok (.bastore, 1) := by decide +kernel
theorem dX5_promises_65 : decode cX5_promises 65 = .ok (.iinc 3 (-1), 3) := by decide +kernel
theorem dX5_promises_68 : decode cX5_promises 68 = .ok (.iinc 5 (-1), 3) := by decide +kernel
theorem dX5_promises_71 : decode cX5_promises 71 = .ok (.goto (-58), 3) := by decide +kernel
theorem dX5_promises_74 : decode cX5_promises 74 = .ok (.return_, 1) := by decide +kernel
theorem dX5_marks_0 : decode cX5_marks 0 = .ok (.iconst 0, 1) := by decide +kernel
theorem dX5_marks_1 : decode cX5_marks 1 = .ok (.istore_n 1, 1) := by decide +kernel
theorem dX5_marks_2 : decode cX5_marks 2 = .ok (.iconst 0, 1) := by decide +kernel
theorem dX5_marks_3 : decode cX5_marks 3 = .ok (.istore_n 2, 1) := by decide +kernel
theorem dX5_marks_4 : decode cX5_marks 4 = .ok (.iload_n 2, 1) := by decide +kernel
theorem dX5_marks_5 : decode cX5_marks 5 = .ok (.aload_n 0, 1) := by decide +kernel
theorem dX5_marks_6 : decode cX5_marks 6 = .ok (.getfield 66, 3) := by decide +kernel
theorem dX5_marks_9 : decode cX5_marks 9 = .ok (.if_icmp .ge 23, 3) := by decide +kernel
theorem dX5_marks_12 : decode cX5_marks 12 = .ok (.aload_n 0, 1) := by decide +kernel
theorem dX5_marks_13 : decode cX5_marks 13 = .ok (.getfield 51, 3) := by decide +kernel
theorem dX5_marks_16 : decode cX5_marks 16 = .ok (.iload_n 2, 1) := by decide +kernel
theorem dX5_marks_17 : decode cX5_marks 17 = .ok (.iconst 0, 1) := by decide +kernel
theorem dX5_marks_18 : decode cX5_marks 18 = .ok (.bastore, 1) := by decide +kernel
theorem dX5_marks_19 : decode cX5_marks 19 = .ok (.aload_n 0, 1) := by decide +kernel
theorem dX5_marks_20 : decode cX5_marks 20 = .ok (.getfield 54, 3) := by decide +kernel
theorem dX5_marks_23 : decode cX5_marks 23 = .ok (.iload_n 2, 1) := by decide +kernel
theorem dX5_marks_24 : decode cX5_marks 24 = .ok (.iconst 0, 1) := by decide +kernel
theorem dX5_marks_25 : decode cX5_marks 25 = .ok (.bastore, 1) := by decide +kernel
theorem dX5_marks_26 : decode cX5_marks 26 = .ok (.iinc 2 1, 3) := by decide +kernel
theorem dX5_marks_29 : decode cX5_marks 29 = .ok (.goto (-25), 3) := by decide +kernel
theorem dX5_marks_32 : decode cX5_marks 32 = .ok (.aload_n 0, 1) := by decide +kernel
theorem dX5_marks_33 : decode cX5_marks 33 = .ok (.iconst 1, 1) := by decide +kernel
theorem dX5_marks_34 : decode cX5_marks 34 = .ok (.aload_n 0, 1) := by decide +kernel
theorem dX5_marks_35 : decode cX5_marks 35 = .ok (.getfield 41, 3) := by decide +kernel
theorem dX5_marks_38 : decode cX5_marks 38 = .ok (.invokevirtual 95, 3) := by decide +kernel
theorem dX5_marks_41 : decode cX5_marks 41 = .ok (.aload_n 0, 1) := by decide +kernel
theorem dX5_marks_42 : decode cX5_marks 42 = .ok (.bipush 7, 2) := by decide +kernel
theorem dX5_marks_44 : decode cX5_marks 44 = .ok (.aload_n 0, 1) := by decide +kernel
theorem dX5_marks_45 : decode cX5_marks 45 = .ok (.getfield 45, 3) := by decide +kernel
theorem dX5_marks_48 : decode cX5_marks 48 = .ok (.invokevirtual 95, 3) := by decide +kernel
theorem dX5_marks_51 : decode cX5_marks 51 = .ok (.aload_n 0, 1) := by decide +kernel
theorem dX5_marks_52 : decode cX5_marks 52 = .ok (.bipush 28, 2) := by decide +kernel
theorem dX5_marks_54 : decode cX5_marks 54 = .ok (.aload_n 0, 1) := by decide +kernel
theorem dX5_marks_55 : decode cX5_marks 55 = .ok (.getfield 48, 3) := by decide +kernel
theorem dX5_marks_58 : decode cX5_marks 58 = .ok (.invokevirtual 95, 3) := by decide +kernel
theorem dX5_marks_61 : decode cX5_marks 61 = .ok (.iconst 0, 1) := by decide +kernel
theorem dX5_marks_62 : decode cX5_marks 62 = .ok (.istore_n 2, 1) := by decide +kernel
theorem dX5_marks_63 : decode cX5_marks 63 = .ok (.iload_n 2, 1) := by decide +kernel
theorem dX5_marks_64 : decode cX5_marks 64 = .ok (.aload_n 0, 1) := by decide +kernel
theorem dX5_marks_65 : decode cX5_marks 65 = .ok (.getfield 66, 3) := by decide +kernel
theorem dX5_marks_68 : decode cX5_marks 68 = .ok (.if_icmp .ge 59, 3) := by decide +kernel
theorem dX5_marks_71 : decode cX5_marks 71 = .ok (.iload_n 1, 1) := by decide +kernel
theorem dX5_marks_72 : decode cX5_marks 72 = .ok (.aload_n 0, 1) := by decide +kernel
theorem dX5_marks_73 : decode cX5_marks 73 = .ok (.getfield 51, 3) := by decide +kernel
theorem dX5_marks_76 : decode cX5_marks 76 = .ok (.iload_n 2, 1) := by decide +kernel
theorem dX5_marks_77 : decode cX5_marks 77 = .ok (.baload, 1) := by decide +kernel
theorem dX5_marks_78 : decode cX5_marks 78 = .ok (.ifCond .eq 7, 3) := by decide +kernel
theorem dX5_marks_81 : decode cX5_marks 81 = .ok (.iconst 1, 1) := by decide +kernel
theorem dX5_marks_82 : decode cX5_marks 82 = .ok (.goto 4, 3) := by decide +kernel
theorem dX5_marks_85 : decode cX5_marks 85 = .ok (.iconst 0, 1) := by decide +kernel
theorem dX5_marks_86 : decode cX5_marks 86 = .ok (.iadd, 1) := by decide +kernel
theorem dX5_marks_87 : decode cX5_marks 87 = .ok (.istore_n 1, 1) := by decide +kernel
theorem dX5_marks_88 : decode cX5_marks 88 = .ok (.iload_n 2, 1) := by decide +kernel
theorem dX5_marks_89 : decode cX5_marks 89 = .ok (.istore_n 3, 1) := by decide +kernel
theorem dX5_marks_90 : decode cX5_marks 90 = .ok (.iload_n 3, 1) := by decide +kernel
theorem dX5_marks_91 : decode cX5_marks 91 = .ok (.iconst (-1), 1) := by decide +kernel
theorem dX5_marks_92 : decode cX5_marks 92 = .ok (.if_icmp .eq 29, 3) := by decide +kernel
theorem dX5_marks_95 : decode cX5_marks 95 = .ok (.aload_n 0, 1) := by decide +kernel
theorem dX5_marks_96 : decode cX5_marks 96 = .ok (.getfield 51, 3) := by decide +kernel
theorem dX5_marks_99 : decode cX5_marks 99 = .ok (.iload_n 2, 1) := by decide +kernel
theorem dX5_marks_100 : decode cX5_marks 100 = .ok (.baload, 1) := by decide +kernel
theorem dX5_marks_101 : decode cX5_marks 101 = .ok (.ifCond .eq 20, 3) := by decide +kernel
theorem dX5_marks_104 : decode cX5_marks 104 = .ok (.aload_n 0, 1) := by decide +kernel
theorem dX5_marks_105 : decode cX5_marks 105 = .ok (.getfield 54, 3) := by decide +kernel
theorem dX5_marks_108 : decode cX5_marks 108 = .ok (.iload_n 3, 1) := by decide +kernel
theorem dX5_marks_109 : decode cX5_marks 109 = .ok (.iconst 1, 1) := by decide +kernel
theorem dX5_marks_110 : decode cX5_marks 110 = .ok (.bastore, 1) := by decide +kernel
theorem dX5_marks_111 : decode cX5_marks 111 = .ok (.aload_n 0, 1) := by decide +kernel
theorem dX5_marks_112 : decode cX5_marks 112 = .ok (.getfield 19, 3) := by decide +kernel
theorem dX5_marks_115 : decode cX5_marks 115 = .ok (.iload_n 3, 1) := by decide +kernel
theorem dX5_marks_116 : decode cX5_marks 116 = .ok (.iaload, 1) := by decide +kernel
theorem dX5_marks_117 : decode cX5_marks 117 = .ok (.istore_n 3, 1) := by decide +kernel
theorem dX5_marks_118 : decode cX5_marks 118 = .ok (.goto (-28), 3) := by decide +kernel
theorem dX5_marks_121 : decode cX5_marks 121 = .ok (.iinc 2 1, 3) := by decide +kernel
theorem dX5_marks_124 : decode cX5_marks 124 = .ok (.goto (-61), 3) := by decide +kernel
theorem dX5_marks_127 : decode cX5_marks 127 = .ok (.iload_n 1, 1) := by decide +kernel
theorem dX5_marks_128 : decode cX5_marks 128 = .ok (.ireturn, 1) := by decide +kernel
theorem dX5_isBroken_0 : decode cX5_isBroken 0 = .ok (.iconst 0, 1) := by decide +kernel
theorem dX5_isBroken_1 : decode cX5_isBroken 1 = .ok (.istore_n 2, 1) := by decide +kernel
theorem dX5_isBroken_2 : decode cX5_isBroken 2 = .ok (.iload_n 1, 1) := by decide +kernel
theorem dX5_isBroken_3 : decode cX5_isBroken 3 = .ok (.istore_n 3, 1) := by decide +kernel
theorem dX5_isBroken_4 : decode cX5_isBroken 4 = .ok (.iload_n 3, 1) := by decide +kernel
theorem dX5_isBroken_5 : decode cX5_isBroken 5 = .ok (.iconst (-1), 1) := by decide +kernel
theorem dX5_isBroken_6 : decode cX5_isBroken 6 = .ok (.if_icmp .eq 32, 3) := by decide +kernel
theorem dX5_isBroken_9 : decode cX5_isBroken 9 = .ok (.iload_n 2, 1) := by decide +kernel
theorem dX5_isBroken_10 : decode cX5_isBroken 10 = .ok (.ifCond .ne 12, 3) := by decide +kernel
theorem dX5_isBroken_13 : decode cX5_isBroken 13 = .ok (.aload_n 0, 1) := by decide +kernel
theorem dX5_isBroken_14 : decode cX5_isBroken 14 = .ok (.getfield 35, 3) := by decide +kernel
theorem dX5_isBroken_17 : decode cX5_isBroken 17 = .ok (.iload_n 3, 1) := by decide +kernel
theorem dX5_isBroken_18 : decode cX5_isBroken 18 = .ok (.baload, 1) := by decide +kernel
theorem dX5_isBroken_19 : decode cX5_isBroken 19 = .ok (.ifCond .eq 7, 3) := by decide +kernel
theorem dX5_isBroken_22 : decode cX5_isBroken 22 = .ok (.iconst 1, 1) := by decide +kernel
theorem dX5_isBroken_23 : decode cX5_isBroken 23 = .ok (.goto 4, 3) := by decide +kernel
theorem dX5_isBroken_26 : decode cX5_isBroken 26 = .ok (.iconst 0, 1) := by decide +kernel
theorem dX5_isBroken_27 : decode cX5_isBroken 27 = .ok (.istore_n 2, 1) := by decide +kernel
theorem dX5_isBroken_28 : decode cX5_isBroken 28 = .ok (.aload_n 0, 1) := by decide +kernel
theorem dX5_isBroken_29 : decode cX5_isBroken 29 = .ok (.getfield 19, 3) := by decide +kernel
theorem dX5_isBroken_32 : decode cX5_isBroken 32 = .ok (.iload_n 3, 1) := by decide +kernel
theorem dX5_isBroken_33 : decode cX5_isBroken 33 = .ok (.iaload, 1) := by decide +kernel
theorem dX5_isBroken_34 : decode cX5_isBroken 34 = .ok (.istore_n 3, 1) := by decide +kernel
theorem dX5_isBroken_35 : decode cX5_isBroken 35 = .ok (.goto (-31), 3) := by decide +kernel
theorem dX5_isBroken_38 : decode cX5_isBroken 38 = .ok (.iload_n 2, 1) := by decide +kernel
theorem dX5_isBroken_39 : decode cX5_isBroken 39 = .ok (.ireturn, 1) := by decide +kernel
theorem dX5_damage_0 : decode cX5_damage 0 = .ok (.aload_n 0, 1) := by decide +kernel
theorem dX5_damage_1 : decode cX5_damage 1 = .ok (.aload_n 0, 1) := by decide +kernel
theorem dX5_damage_2 : decode cX5_damage 2 = .ok (.iload_n 1, 1) := by decide +kernel
theorem dX5_damage_3 : decode cX5_damage 3 = .ok (.invokevirtual 99, 3) := by decide +kernel
theorem dX5_damage_6 : decode cX5_damage 6 = .ok (.iconst 1, 1) := by decide +kernel
theorem dX5_damage_7 : decode cX5_damage 7 = .ok (.iconst 1, 1) := by decide +kernel
theorem dX5_damage_8 : decode cX5_damage 8 = .ok (.invokevirtual 80, 3) := by decide +kernel
theorem dX5_damage_11 : decode cX5_damage 11 = .ok (.ifCond .ne 5, 3) := by decide +kernel
theorem dX5_damage_14 : decode cX5_damage 14 = .ok (.iconst 0, 1) := by decide +kernel
theorem dX5_damage_15 : decode cX5_damage 15 = .ok (.ireturn, 1) := by decide +kernel
theorem dX5_damage_16 : decode cX5_damage 16 = .ok (.aload_n 0, 1) := by decide +kernel
theorem dX5_damage_17 : decode cX5_damage 17 = .ok (.getfield 35, 3) := by decide +kernel
theorem dX5_damage_20 : decode cX5_damage 20 = .ok (.iload_n 1, 1) := by decide +kernel
theorem dX5_damage_21 : decode cX5_damage 21 = .ok (.iconst 1, 1) := by decide +kernel
theorem dX5_damage_22 : decode cX5_damage 22 = .ok (.bastore, 1) := by decide +kernel
theorem dX5_damage_23 : decode cX5_damage 23 = .ok (.aload_n 0, 1) := by decide +kernel
theorem dX5_damage_24 : decode cX5_damage 24 = .ok (.getfield 38, 3) := by decide +kernel
theorem dX5_damage_27 : decode cX5_damage 27 = .ok (.iload_n 1, 1) := by decide +kernel
theorem dX5_damage_28 : decode cX5_damage 28 = .ok (.iconst 0, 1) := by decide +kernel
theorem dX5_damage_29 : decode cX5_damage 29 = .ok (.bastore, 1) := by decide +kernel
theorem dX5_damage_30 : decode cX5_damage 30 = .ok (.iconst 0, 1) := by decide +kernel
theorem dX5_damage_31 : decode cX5_damage 31 = .ok (.istore_n 2, 1) := by decide +kernel
theorem dX5_damage_32 : decode cX5_damage 32 = .ok (.aload_n 0, 1) := by decide +kernel
theorem dX5_damage_33 : decode cX5_damage 33 = .ok (.invokevirtual 102, 3) := by decide +kernel
theorem dX5_damage_36 : decode cX5_damage 36 = .ok (.pop, 1) := by decide +kernel
theorem dX5_damage_37 : decode cX5_damage 37 = .ok (.iconst 0, 1) := by decide +kernel
theorem dX5_damage_38 : decode cX5_damage 38 = .ok (.istore_n 3, 1) := by decide +kernel
theorem dX5_damage_39 : decode cX5_damage 39 = .ok (.iload_n 3, 1) := by decide +kernel
theorem dX5_damage_40 : decode cX5_damage 40 = .ok (.aload_n 0, 1) := by decide +kernel
theorem dX5_damage_41 : decode cX5_damage 41 = .ok (.getfield 66, 3) := by decide +kernel
theorem dX5_damage_44 : decode cX5_damage 44 = .ok (.if_icmp .ge 34, 3) := by decide +kernel
theorem dX5_damage_47 : decode cX5_damage 47 = .ok (.iload_n 2, 1) := by decide +kernel
theorem dX5_damage_48 : decode cX5_damage 48 = .ok (.aload_n 0, 1) := by decide +kernel
theorem dX5_damage_49 : decode cX5_damage 49 = .ok (.getfield 51, 3) := by decide +kernel
theorem dX5_damage_52 : decode cX5_damage 52 = .ok (.iload_n 3, 1) := by decide +kernel
theorem dX5_damage_53 : decode cX5_damage 53 = .ok (.baload, 1) := by decide +kernel
theorem dX5_damage_54 : decode cX5_damage 54 = .ok (.ifCond .eq 15, 3) := by decide +kernel
theorem dX5_damage_57 : decode cX5_damage 57 = .ok (.aload_n 0, 1) := by decide +kernel
theorem dX5_damage_58 : decode cX5_damage 58 = .ok (.iload_n 3, 1) := by decide +kernel
theorem dX5_damage_59 : decode cX5_damage 59 = .ok (.invokevirtual 105, 3) := by decide +kernel
theorem dX5_damage_62 : decode cX5_damage 62 = .ok (.ifCond .eq 7, 3) := by decide +kernel
theorem dX5_damage_65 : decode cX5_damage 65 = .ok (.iconst 1, 1) := by decide +kernel
theorem dX5_damage_66 : decode cX5_damage 66 = .ok (.goto 4, 3) := by decide +kernel
theorem dX5_damage_69 : decode cX5_damage 69 = .ok (.iconst 0, 1) := by decide +kernel
theorem dX5_damage_70 : decode cX5_damage 70 = .ok (.iadd, 1) := by decide +kernel
theorem dX5_damage_71 : decode cX5_damage 71 = .ok (.istore_n 2, 1) := by decide +kernel
theorem dX5_damage_72 : decode cX5_damage 72 = .ok (.iinc 3 1, 3) := by decide +kernel
theorem dX5_damage_75 : decode cX5_damage 75 = .ok (.goto (-36), 3) := by decide +kernel
theorem dX5_damage_78 : decode cX5_damage 78 = .ok (.iload_n 2, 1) := by decide +kernel
theorem dX5_damage_79 : decode cX5_damage 79 = .ok (.ireturn, 1) := by decide +kernel
theorem dX5_drill_0 : decode cX5_drill 0 = .ok (.aload_n 0, 1) := by decide +kernel
theorem dX5_drill_1 : decode cX5_drill 1 = .ok (.aload_n 0, 1) := by decide +kernel
theorem dX5_drill_2 : decode cX5_drill 2 = .ok (.iload_n 1, 1) := by decide +kernel
theorem dX5_drill_3 : decode cX5_drill 3 = .ok (.invokevirtual 99, 3) := by decide +kernel
theorem dX5_drill_6 : decode cX5_drill 6 = .ok (.iconst 1, 1) := by decide +kernel
theorem dX5_drill_7 : decode cX5_drill 7 = .ok (.iconst 1, 1) := by decide +kernel
theorem dX5_drill_8 : decode cX5_drill 8 = .ok (.invokevirtual 80, 3) := by decide +kernel
theorem dX5_drill_11 : decode cX5_drill 11 = .ok (.ifCond .ne 5, 3) := by decide +kernel
theorem dX5_drill_14 : decode cX5_drill 14 = .ok (.iconst 0, 1) := by decide +kernel
theorem dX5_drill_15 : decode cX5_drill 15 = .ok (.ireturn, 1) := by decide +kernel
theorem dX5_drill_16 : decode cX5_drill 16 = .ok (.aload_n 0, 1) := by decide +kernel
theorem dX5_drill_17 : decode cX5_drill 17 = .ok (.iload_n 1, 1) := by decide +kernel
theorem dX5_drill_18 : decode cX5_drill 18 = .ok (.invokevirtual 105, 3) := by decide +kernel
theorem dX5_drill_21 : decode cX5_drill 21 = .ok (.istore_n 2, 1) := by decide +kernel
theorem dX5_drill_22 : decode cX5_drill 22 = .ok (.iconst 0, 1) := by decide +kernel
theorem dX5_drill_23 : decode cX5_drill 23 = .ok (.istore_n 3, 1) := by decide +kernel
theorem dX5_drill_24 : decode cX5_drill 24 = .ok (.iload_n 1, 1) := by decide +kernel
theorem dX5_drill_25 : decode cX5_drill 25 = .ok (.istore 4, 2) := by decide +kernel
theorem dX5_drill_27 : decode cX5_drill 27 = .ok (.iload 4, 2) := by decide +kernel
theorem dX5_drill_29 : decode cX5_drill 29 = .ok (.iconst (-1), 1) := by decide +kernel
theorem dX5_drill_30 : decode cX5_drill 30 = .ok (.if_icmp .eq 34, 3) := by decide +kernel
theorem dX5_drill_33 : decode cX5_drill 33 = .ok (.aload_n 0, 1) := by decide +kernel
theorem dX5_drill_34 : decode cX5_drill 34 = .ok (.getfield 38, 3) := by decide +kernel
theorem dX5_drill_37 : decode cX5_drill 37 = .ok (.iload 4, 2) := by decide +kernel
theorem dX5_drill_39 : decode cX5_drill 39 = .ok (.iload_n 2, 1) := by decide +kernel
theorem dX5_drill_40 : decode cX5_drill 40 = .ok (.ifCond .ne 7, 3) := by decide +kernel
theorem dX5_drill_43 : decode cX5_drill 43 = .ok (.iconst 1, 1) := by decide +kernel
theorem dX5_drill_44 : decode cX5_drill 44 = .ok (.goto 4, 3) := by decide +kernel
theorem dX5_drill_47 : decode cX5_drill 47 = .ok (.iconst 0, 1) := by decide +kernel
theorem dX5_drill_48 : decode cX5_drill 48 = .ok (.bastore, 1) := by decide +kernel
theorem dX5_drill_49 : decode cX5_drill 49 = .ok (.iinc 3 1, 3) := by decide +kernel
theorem dX5_drill_52 : decode cX5_drill 52 = .ok (.aload_n 0, 1) := by decide +kernel
theorem dX5_drill_53 : decode cX5_drill 53 = .ok (.getfield 19, 3) := by decide +kernel
theorem dX5_drill_56 : decode cX5_drill 56 = .ok (.iload 4, 2) := by decide +kernel
theorem dX5_drill_58 : decode cX5_drill 58 = .ok (.iaload, 1) := by decide +kernel
theorem dX5_drill_59 : decode cX5_drill 59 = .ok (.istore 4, 2) := by decide +kernel
theorem dX5_drill_61 : decode cX5_drill 61 = .ok (.goto (-34), 3) := by decide +kernel
theorem dX5_drill_64 : decode cX5_drill 64 = .ok (.iload_n 2, 1) := by decide +kernel
theorem dX5_drill_65 : decode cX5_drill 65 = .ok (.ifCond .eq 7, 3) := by decide +kernel
theorem dX5_drill_68 : decode cX5_drill 68 = .ok (.iconst (-1), 1) := by decide +kernel
theorem dX5_drill_69 : decode cX5_drill 69 = .ok (.goto 4, 3) := by decide +kernel
theorem dX5_drill_72 : decode cX5_drill 72 = .ok (.iload_n 3, 1) := by decide +kernel
theorem dX5_drill_73 : decode cX5_drill 73 = .ok (.ireturn, 1) := by decide +kernel
theorem dX5_setRules_0 : decode cX5_setRules 0 = .ok (.aload_n 0, 1) := by decide +kernel
theorem dX5_setRules_1 : decode cX5_setRules 1 = .ok (.iload_n 1, 1) := by decide +kernel
theorem dX5_setRules_2 : decode cX5_setRules 2 = .ok (.iconst 0, 1) := by decide +kernel
theorem dX5_setRules_3 : decode cX5_setRules 3 = .ok (.bipush 30, 2) := by decide +kernel
theorem dX5_setRules_5 : decode cX5_setRules 5 = .ok (.invokestatic 69, 3) := by decide +kernel
theorem dX5_setRules_8 : decode cX5_setRules 8 = .ok (.ifCond .eq 27, 3) := by decide +kernel
theorem dX5_setRules_11 : decode cX5_setRules 11 = .ok (.iload_n 2, 1) := by decide +kernel
theorem dX5_setRules_12 : decode cX5_setRules 12 = .ok (.iconst 0, 1) := by decide +kernel
theorem dX5_setRules_13 : decode cX5_setRules 13 = .ok (.bipush 20, 2) := by decide +kernel
theorem dX5_setRules_15 : decode cX5_setRules 15 = .ok (.invokestatic 69, 3) := by decide +kernel
theorem dX5_setRules_18 : decode cX5_setRules 18 = .ok (.ifCond .eq 17, 3) := by decide +kernel
theorem dX5_setRules_21 : decode cX5_setRules 21 = .ok (.iload_n 3, 1) := by decide +kernel
theorem dX5_setRules_22 : decode cX5_setRules 22 = .ok (.iconst 0, 1) := by decide +kernel
theorem dX5_setRules_23 : decode cX5_setRules 23 = .ok (.bipush 12, 2) := by decide +kernel
theorem dX5_setRules_25 : decode cX5_setRules 25 = .ok (.invokestatic 69, 3) := by decide +kernel
theorem dX5_setRules_28 : decode cX5_setRules 28 = .ok (.ifCond .eq 7, 3) := by decide +kernel
theorem dX5_setRules_31 : decode cX5_setRules 31 = .ok (.iconst 1, 1) := by decide +kernel
theorem dX5_setRules_32 : decode cX5_setRules 32 = .ok (.goto 4, 3) := by decide +kernel
theorem dX5_setRules_35 : decode cX5_setRules 35 = .ok (.iconst 0, 1) := by decide +kernel
theorem dX5_setRules_36 : decode cX5_setRules 36 = .ok (.iconst 1, 1) := by decide +kernel
theorem dX5_setRules_37 : decode cX5_setRules 37 = .ok (.iconst 1, 1) := by decide +kernel
theorem dX5_setRules_38 : decode cX5_setRules 38 = .ok (.invokevirtual 80, 3) := by decide +kernel
theorem dX5_setRules_41 : decode cX5_setRules 41 = .ok (.ifCond .ne 5, 3) := by decide +kernel
theorem dX5_setRules_44 : decode cX5_setRules 44 = .ok (.iconst 0, 1) := by decide +kernel
theorem dX5_setRules_45 : decode cX5_setRules 45 = .ok (.ireturn, 1) := by decide +kernel
theorem dX5_setRules_46 : decode cX5_setRules 46 = .ok (.aload_n 0, 1) := by decide +kernel
theorem dX5_setRules_47 : decode cX5_setRules 47 = .ok (.iload_n 1, 1) := by decide +kernel
theorem dX5_setRules_48 : decode cX5_setRules 48 = .ok (.putfield 41, 3) := by decide +kernel
theorem dX5_setRules_51 : decode cX5_setRules 51 = .ok (.aload_n 0, 1) := by decide +kernel
theorem dX5_setRules_52 : decode cX5_setRules 52 = .ok (.iload_n 2, 1) := by decide +kernel
theorem dX5_setRules_53 : decode cX5_setRules 53 = .ok (.putfield 45, 3) := by decide +kernel
theorem dX5_setRules_56 : decode cX5_setRules 56 = .ok (.aload_n 0, 1) := by decide +kernel
theorem dX5_setRules_57 : decode cX5_setRules 57 = .ok (.iload_n 3, 1) := by decide +kernel
theorem dX5_setRules_58 : decode cX5_setRules 58 = .ok (.putfield 48, 3) := by decide +kernel
theorem dX5_setRules_61 : decode cX5_setRules 61 = .ok (.aload_n 0, 1) := by decide +kernel
theorem dX5_setRules_62 : decode cX5_setRules 62 = .ok (.invokevirtual 102, 3) := by decide +kernel
theorem dX5_setRules_65 : decode cX5_setRules 65 = .ok (.ireturn, 1) := by decide +kernel
theorem dX5_thin_0 : decode cX5_thin 0 = .ok (.aload_n 0, 1) := by decide +kernel
theorem dX5_thin_1 : decode cX5_thin 1 = .ok (.iconst 0, 1) := by decide +kernel
theorem dX5_thin_2 : decode cX5_thin 2 = .ok (.putfield 63, 3) := by decide +kernel
theorem dX5_thin_5 : decode cX5_thin 5 = .ok (.iconst (-1), 1) := by decide +kernel
theorem dX5_thin_6 : decode cX5_thin 6 = .ok (.istore_n 1, 1) := by decide +kernel
theorem dX5_thin_7 : decode cX5_thin 7 = .ok (.aload_n 0, 1) := by decide +kernel
theorem dX5_thin_8 : decode cX5_thin 8 = .ok (.invokevirtual 102, 3) := by decide +kernel
theorem dX5_thin_11 : decode cX5_thin 11 = .ok (.pop, 1) := by decide +kernel
theorem dX5_thin_12 : decode cX5_thin 12 = .ok (.iconst 0, 1) := by decide +kernel
theorem dX5_thin_13 : decode cX5_thin 13 = .ok (.istore_n 2, 1) := by decide +kernel
theorem dX5_thin_14 : decode cX5_thin 14 = .ok (.iload_n 2, 1) := by decide +kernel
theorem dX5_thin_15 : decode cX5_thin 15 = .ok (.aload_n 0, 1) := by decide +kernel
theorem dX5_thin_16 : decode cX5_thin 16 = .ok (.getfield 66, 3) := by decide +kernel
theorem dX5_thin_19 : decode cX5_thin 19 = .ok (.if_icmp .ge 48, 3) := by decide +kernel
theorem dX5_thin_22 : decode cX5_thin 22 = .ok (.aload_n 0, 1) := by decide +kernel
theorem dX5_thin_23 : decode cX5_thin 23 = .ok (.getfield 31, 3) := by decide +kernel
theorem dX5_thin_26 : decode cX5_thin 26 = .ok (.iload_n 2, 1) := by decide +kernel
theorem dX5_thin_27 : decode cX5_thin 27 = .ok (.baload, 1) := by decide +kernel
theorem dX5_thin_28 : decode cX5_thin 28 = .ok (.ifCond .eq 31, 3) := by decide +kernel
theorem dX5_thin_31 : decode cX5_thin 31 = .ok (.aload_n 0, 1) := by decide +kernel
theorem dX5_thin_32 : decode cX5_thin 32 = .ok (.getfield 38, 3) := by decide +kernel
theorem dX5_thin_35 : decode cX5_thin 35 = .ok (.iload_n 2, 1) := by decide +kernel
theorem dX5_thin_36 : decode cX5_thin 36 = .ok (.baload, 1) := by decide +kernel
theorem dX5_thin_37 : decode cX5_thin 37 = .ok (.ifCond .eq 22, 3) := by decide +kernel
theorem dX5_thin_40 : decode cX5_thin 40 = .ok (.aload_n 0, 1) := by decide +kernel
theorem dX5_thin_41 : decode cX5_thin 41 = .ok (.getfield 16, 3) := by decide +kernel
theorem dX5_thin_44 : decode cX5_thin 44 = .ok (.iload_n 2, 1) := by decide +kernel
theorem dX5_thin_45 : decode cX5_thin 45 = .ok (.iaload, 1) := by decide +kernel
theorem dX5_thin_46 : decode cX5_thin 46 = .ok (.iload_n 1, 1) := by decide +kernel
theorem dX5_thin_47 : decode cX5_thin 47 = .ok (.if_icmp .le 12, 3) := by decide +kernel
theorem dX5_thin_50 : decode cX5_thin 50 = .ok (.aload_n 0, 1) := by decide +kernel
theorem dX5_thin_51 : decode cX5_thin 51 = .ok (.getfield 16, 3) := by decide +kernel
theorem dX5_thin_54 : decode cX5_thin 54 = .ok (.iload_n 2, 1) := by decide +kernel
theorem dX5_thin_55 : decode cX5_thin 55 = .ok (.iaload, 1) := by decide +kernel
theorem dX5_thin_56 : decode cX5_thin 56 = .ok (.goto 4, 3) := by decide +kernel
theorem dX5_thin_59 : decode cX5_thin 59 = .ok (.iload_n 1, 1) := by decide +kernel
theorem dX5_thin_60 : decode cX5_thin 60 = .ok (.istore_n 1, 1) := by decide +kernel
theorem dX5_thin_61 : decode cX5_thin 61 = .ok (.iinc 2 1, 3) := by decide +kernel
theorem dX5_thin_64 : decode cX5_thin 64 = .ok (.goto (-50), 3) := by decide +kernel
theorem dX5_thin_67 : decode cX5_thin 67 = .ok (.iconst 0, 1) := by decide +kernel
theorem dX5_thin_68 : decode cX5_thin 68 = .ok (.istore_n 2, 1) := by decide +kernel
theorem dX5_thin_69 : decode cX5_thin 69 = .ok (.iload_n 2, 1) := by decide +kernel
theorem dX5_thin_70 : decode cX5_thin 70 = .ok (.aload_n 0, 1) := by decide +kernel
theorem dX5_thin_71 : decode cX5_thin 71 = .ok (.getfield 66, 3) := by decide +kernel
theorem dX5_thin_74 : decode cX5_thin 74 = .ok (.if_icmp .ge 48, 3) := by decide +kernel
theorem dX5_thin_77 : decode cX5_thin 77 = .ok (.aload_n 0, 1) := by decide +kernel
theorem dX5_thin_78 : decode cX5_thin 78 = .ok (.getfield 57, 3) := by decide +kernel
theorem dX5_thin_81 : decode cX5_thin 81 = .ok (.iload_n 2, 1) := by decide +kernel
theorem dX5_thin_82 : decode cX5_thin 82 = .ok (.aload_n 0, 1) := by decide +kernel
theorem dX5_thin_83 : decode cX5_thin 83 = .ok (.getfield 31, 3) := by decide +kernel
theorem dX5_thin_86 : decode cX5_thin 86 = .ok (.iload_n 2, 1) := by decide +kernel
theorem dX5_thin_87 : decode cX5_thin 87 = .ok (.baload, 1) := by decide +kernel
theorem dX5_thin_88 : decode cX5_thin 88 = .ok (.ifCond .eq 26, 3) := by decide +kernel
theorem dX5_thin_91 : decode cX5_thin 91 = .ok (.aload_n 0, 1) := by decide +kernel
theorem dX5_thin_92 : decode cX5_thin 92 = .ok (.getfield 54, 3) := by decide +kernel
theorem dX5_thin_95 : decode cX5_thin 95 = .ok (.iload_n 2, 1) := by decide +kernel
theorem dX5_thin_96 : decode cX5_thin 96 = .ok (.baload, 1) := by decide +kernel
theorem dX5_thin_97 : decode cX5_thin 97 = .ok (.ifCond .ne 17, 3) := by decide +kernel
theorem dX5_thin_100 : decode cX5_thin 100 = .ok (.aload_n 0, 1) := by decide +kernel
theorem dX5_thin_101 : decode cX5_thin 101 = .ok (.getfield 16, 3) := by decide +kernel
theorem dX5_thin_104 : decode cX5_thin 104 = .ok (.iload_n 2, 1) := by decide +kernel
theorem dX5_thin_105 : decode cX5_thin 105 = .ok (.iaload, 1) := by decide +kernel
theorem dX5_thin_106 : decode cX5_thin 106 = .ok (.iload_n 1, 1) := by decide +kernel
theorem dX5_thin_107 : decode cX5_thin 107 = .ok (.if_icmp .ge 7, 3) := by decide +kernel
theorem dX5_thin_110 : decode cX5_thin 110 = .ok (.iconst 1, 1) := by decide +kernel
theorem dX5_thin_111 : decode cX5_thin 111 = .ok (.goto 4, 3) := by decide +kernel
theorem dX5_thin_114 : decode cX5_thin 114 = .ok (.iconst 0, 1) := by decide +kernel
theorem dX5_thin_115 : decode cX5_thin 115 = .ok (.bastore, 1) := by decide +kernel
theorem dX5_thin_116 : decode cX5_thin 116 = .ok (.iinc 2 1, 3) := by decide +kernel
theorem dX5_thin_119 : decode cX5_thin 119 = .ok (.goto (-50), 3) := by decide +kernel
theorem dX5_thin_122 : decode cX5_thin 122 = .ok (.aload_n 0, 1) := by decide +kernel
theorem dX5_thin_123 : decode cX5_thin 123 = .ok (.getfield 66, 3) := by decide +kernel
theorem dX5_thin_126 : decode cX5_thin 126 = .ok (.iconst 1, 1) := by decide +kernel
theorem dX5_thin_127 : decode cX5_thin 127 = .ok (.isub, 1) := by decide +kernel
theorem dX5_thin_128 : decode cX5_thin 128 = .ok (.istore_n 2, 1) := by decide +kernel
theorem dX5_thin_129 : decode cX5_thin 129 = .ok (.iload_n 2, 1) := by decide +kernel
theorem dX5_thin_130 : decode cX5_thin 130 = .ok (.ifCond .lt 49, 3) := by decide +kernel
theorem dX5_thin_133 : decode cX5_thin 133 = .ok (.aload_n 0, 1) := by decide +kernel
theorem dX5_thin_134 : decode cX5_thin 134 = .ok (.getfield 31, 3) := by decide +kernel
theorem dX5_thin_137 : decode cX5_thin 137 = .ok (.iload_n 2, 1) := by decide +kernel
theorem dX5_thin_138 : decode cX5_thin 138 = .ok (.baload, 1) := by decide +kernel
theorem dX5_thin_139 : decode cX5_thin 139 = .ok (.ifCond .eq 34, 3) := by decide +kernel
theorem dX5_thin_142 : decode cX5_thin 142 = .ok (.aload_n 0, 1) := by decide +kernel
theorem dX5_thin_143 : decode cX5_thin 143 = .ok (.getfield 57, 3) := by decide +kernel
theorem dX5_thin_146 : decode cX5_thin 146 = .ok (.iload_n 2, 1) := by decide +kernel
theorem dX5_thin_147 : decode cX5_thin 147 = .ok (.baload, 1) := by decide +kernel
theorem dX5_thin_148 : decode cX5_thin 148 = .ok (.ifCond .ne 25, 3) := by decide +kernel
theorem dX5_thin_151 : decode cX5_thin 151 = .ok (.aload_n 0, 1) := by decide +kernel
theorem dX5_thin_152 : decode cX5_thin 152 = .ok (.getfield 19, 3) := by decide +kernel
theorem dX5_thin_155 : decode cX5_thin 155 = .ok (.iload_n 2, 1) := by decide +kernel
theorem dX5_thin_156 : decode cX5_thin 156 = .ok (.iaload, 1) := by decide +kernel
theorem dX5_thin_157 : decode cX5_thin 157 = .ok (.iconst (-1), 1) := by decide +kernel
theorem dX5_thin_158 : decode cX5_thin 158 = .ok (.if_icmp .eq 15, 3) := by decide +kernel
theorem dX5_thin_161 : decode cX5_thin 161 = .ok (.aload_n 0, 1) := by decide +kernel
theorem dX5_thin_162 : decode cX5_thin 162 = .ok (.getfield 57, 3) := by decide +kernel
theorem dX5_thin_165 : decode cX5_thin 165 = .ok (.aload_n 0, 1) := by decide +kernel
theorem dX5_thin_166 : decode cX5_thin 166 = .ok (.getfield 19, 3) := by decide +kernel
theorem dX5_thin_169 : decode cX5_thin 169 = .ok (.iload_n 2, 1) := by decide +kernel
theorem dX5_thin_170 : decode cX5_thin 170 = .ok (.iaload, 1) := by decide +kernel
theorem dX5_thin_171 : decode cX5_thin 171 = .ok (.iconst 0, 1) := by decide +kernel
theorem dX5_thin_172 : decode cX5_thin 172 = .ok (.bastore, 1) := by decide +kernel
theorem dX5_thin_173 : decode cX5_thin 173 = .ok (.iinc 2 (-1), 3) := by decide +kernel
theorem dX5_thin_176 : decode cX5_thin 176 = .ok (.goto (-47), 3) := by decide +kernel
theorem dX5_thin_179 : decode cX5_thin 179 = .ok (.iconst 0, 1) := by decide +kernel
theorem dX5_thin_180 : decode cX5_thin 180 = .ok (.istore_n 2, 1) := by decide +kernel
theorem dX5_thin_181 : decode cX5_thin 181 = .ok (.iconst 0, 1) := by decide +kernel
theorem dX5_thin_182 : decode cX5_thin 182 = .ok (.istore_n 3, 1) := by decide +kernel
theorem dX5_thin_183 : decode cX5_thin 183 = .ok (.iload_n 3, 1) := by decide +kernel
theorem dX5_thin_184 : decode cX5_thin 184 = .ok (.aload_n 0, 1) := by decide +kernel
theorem dX5_thin_185 : decode cX5_thin 185 = .ok (.getfield 66, 3) := by decide +kernel
theorem dX5_thin_188 : decode cX5_thin 188 = .ok (.if_icmp .ge 62, 3) := by decide +kernel
theorem dX5_thin_191 : decode cX5_thin 191 = .ok (.iload_n 2, 1) := by decide +kernel
theorem dX5_thin_192 : decode cX5_thin 192 = .ok (.aload_n 0, 1) := by decide +kernel
theorem dX5_thin_193 : decode cX5_thin 193 = .ok (.getfield 57, 3) := by decide +kernel
theorem dX5_thin_196 : decode cX5_thin 196 = .ok (.iload_n 3, 1) := by decide +kernel
theorem dX5_thin_197 : decode cX5_thin 197 = .ok (.baload, 1) := by decide +kernel
theorem dX5_thin_198 : decode cX5_thin 198 = .ok (.ifCond .eq 14, 3) := by decide +kernel
theorem dX5_thin_201 : decode cX5_thin 201 = .ok (.aload_n 0, 1) := by decide +kernel
theorem dX5_thin_202 : decode cX5_thin 202 = .ok (.getfield 22, 3) := by decide +kernel
theorem dX5_thin_205 : decode cX5_thin 205 = .ok (.iload_n 3, 1) := by decide +kernel
theorem dX5_thin_206 : decode cX5_thin 206 = .ok (.iaload, 1) := by decide +kernel
theorem dX5_thin_207 : decode cX5_thin 207 = .ok (.iconst 1, 1) := by decide +kernel
theorem dX5_thin_208 : decode cX5_thin 208 = .ok (.iadd, 1) := by decide +kernel
theorem dX5_thin_209 : decode cX5_thin 209 = .ok (.goto 4, 3) := by decide +kernel
theorem dX5_thin_212 : decode cX5_thin 212 = .ok (.iconst 0, 1) := by decide +kernel
theorem dX5_thin_213 : decode cX5_thin 213 = .ok (.iadd, 1) := by decide +kernel
theorem dX5_thin_214 : decode cX5_thin 214 = .ok (.istore_n 2, 1) := by decide +kernel
theorem dX5_thin_215 : decode cX5_thin 215 = .ok (.aload_n 0, 1) := by decide +kernel
theorem dX5_thin_216 : decode cX5_thin 216 = .ok (.getfield 31, 3) := by decide +kernel
theorem dX5_thin_219 : decode cX5_thin 219 = .ok (.iload_n 3, 1) := by decide +kernel
theorem dX5_thin_220 : decode cX5_thin 220 = .ok (.aload_n 0, 1) := by decide +kernel
theorem dX5_thin_221 : decode cX5_thin 221 = .ok (.getfield 31, 3) := by decide +kernel
theorem dX5_thin_224 : decode cX5_thin 224 = .ok (.iload_n 3, 1) := by decide +kernel
theorem dX5_thin_225 : decode cX5_thin 225 = .ok (.baload, 1) := by decide +kernel
theorem dX5_thin_226 : decode cX5_thin 226 = .ok (.ifCond .eq 16, 3) := by decide +kernel
theorem dX5_thin_229 : decode cX5_thin 229 = .ok (.aload_n 0, 1) := by decide +kernel
theorem dX5_thin_230 : decode cX5_thin 230 = .ok (.getfield 57, 3) := by decide +kernel
theorem dX5_thin_233 : decode cX5_thin 233 = .ok (.iload_n 3, 1) := by decide +kernel
theorem dX5_thin_234 : decode cX5_thin 234 = .ok (.baload, 1) := by decide +kernel
theorem dX5_thin_235 : decode cX5_thin 235 = .ok (.ifCond .ne 7, 3) := by decide +kernel
theorem dX5_thin_238 : decode cX5_thin 238 = .ok (.iconst 1, 1) := by decide +kernel
theorem dX5_thin_239 : decode cX5_thin 239 = .ok (.goto 4, 3) := by decide +kernel
theorem dX5_thin_242 : decode cX5_thin 242 = .ok (.iconst 0, 1) := by decide +kernel
theorem dX5_thin_243 : decode cX5_thin 243 = .ok (.bastore, 1) := by decide +kernel
theorem dX5_thin_244 : decode cX5_thin 244 = .ok (.iinc 3 1, 3) := by decide +kernel
theorem dX5_thin_247 : decode cX5_thin 247 = .ok (.goto (-64), 3) := by decide +kernel
theorem dX5_thin_250 : decode cX5_thin 250 = .ok (.iload_n 2, 1) := by decide +kernel
theorem dX5_thin_251 : decode cX5_thin 251 = .ok (.ireturn, 1) := by decide +kernel
theorem dX5_day_0 : decode cX5_day 0 = .ok (.aload_n 0, 1) := by decide +kernel
theorem dX5_day_1 : decode cX5_day 1 = .ok (.iconst 0, 1) := by decide +kernel
theorem dX5_day_2 : decode cX5_day 2 = .ok (.putfield 63, 3) := by decide +kernel
theorem dX5_day_5 : decode cX5_day 5 = .ok (.aload_n 0, 1) := by decide +kernel
theorem dX5_day_6 : decode cX5_day 6 = .ok (.getfield 84, 3) := by decide +kernel
theorem dX5_day_9 : decode cX5_day 9 = .ok (.ireturn, 1) := by decide +kernel
theorem dX5_copies_0 : decode cX5_copies 0 = .ok (.aload_n 0, 1) := by decide +kernel
theorem dX5_copies_1 : decode cX5_copies 1 = .ok (.iconst 0, 1) := by decide +kernel
theorem dX5_copies_2 : decode cX5_copies 2 = .ok (.putfield 63, 3) := by decide +kernel
theorem dX5_copies_5 : decode cX5_copies 5 = .ok (.iconst 0, 1) := by decide +kernel
theorem dX5_copies_6 : decode cX5_copies 6 = .ok (.istore_n 1, 1) := by decide +kernel
theorem dX5_copies_7 : decode cX5_copies 7 = .ok (.iconst 0, 1) := by decide +kernel
theorem dX5_copies_8 : decode cX5_copies 8 = .ok (.istore_n 2, 1) := by decide +kernel
theorem dX5_copies_9 : decode cX5_copies 9 = .ok (.iload_n 2, 1) := by decide +kernel
theorem dX5_copies_10 : decode cX5_copies 10 = .ok (.aload_n 0, 1) := by decide +kernel
theorem dX5_copies_11 : decode cX5_copies 11 = .ok (.getfield 66, 3) := by decide +kernel
theorem dX5_copies_14 : decode cX5_copies 14 = .ok (.if_icmp .ge 26, 3) := by decide +kernel
theorem dX5_copies_17 : decode cX5_copies 17 = .ok (.iload_n 1, 1) := by decide +kernel
theorem dX5_copies_18 : decode cX5_copies 18 = .ok (.aload_n 0, 1) := by decide +kernel
theorem dX5_copies_19 : decode cX5_copies 19 = .ok (.getfield 31, 3) := by decide +kernel
theorem dX5_copies_22 : decode cX5_copies 22 = .ok (.iload_n 2, 1) := by decide +kernel
theorem dX5_copies_23 : decode cX5_copies 23 = .ok (.baload, 1) := by decide +kernel
theorem dX5_copies_24 : decode cX5_copies 24 = .ok (.ifCond .eq 7, 3) := by decide +kernel
theorem dX5_copies_27 : decode cX5_copies 27 = .ok (.iconst 1, 1) := by decide +kernel
theorem dX5_copies_28 : decode cX5_copies 28 = .ok (.goto 4, 3) := by decide +kernel
theorem dX5_copies_31 : decode cX5_copies 31 = .ok (.iconst 0, 1) := by decide +kernel
theorem dX5_copies_32 : decode cX5_copies 32 = .ok (.iadd, 1) := by decide +kernel
theorem dX5_copies_33 : decode cX5_copies 33 = .ok (.istore_n 1, 1) := by decide +kernel
theorem dX5_copies_34 : decode cX5_copies 34 = .ok (.iinc 2 1, 3) := by decide +kernel
theorem dX5_copies_37 : decode cX5_copies 37 = .ok (.goto (-28), 3) := by decide +kernel
theorem dX5_copies_40 : decode cX5_copies 40 = .ok (.iload_n 1, 1) := by decide +kernel
theorem dX5_copies_41 : decode cX5_copies 41 = .ok (.ireturn, 1) := by decide +kernel
theorem dX5_space_0 : decode cX5_space 0 = .ok (.aload_n 0, 1) := by decide +kernel
theorem dX5_space_1 : decode cX5_space 1 = .ok (.iconst 0, 1) := by decide +kernel
theorem dX5_space_2 : decode cX5_space 2 = .ok (.putfield 63, 3) := by decide +kernel
theorem dX5_space_5 : decode cX5_space 5 = .ok (.iconst 0, 1) := by decide +kernel
theorem dX5_space_6 : decode cX5_space 6 = .ok (.istore_n 1, 1) := by decide +kernel
theorem dX5_space_7 : decode cX5_space 7 = .ok (.iconst 0, 1) := by decide +kernel
theorem dX5_space_8 : decode cX5_space 8 = .ok (.istore_n 2, 1) := by decide +kernel
theorem dX5_space_9 : decode cX5_space 9 = .ok (.iload_n 2, 1) := by decide +kernel
theorem dX5_space_10 : decode cX5_space 10 = .ok (.aload_n 0, 1) := by decide +kernel
theorem dX5_space_11 : decode cX5_space 11 = .ok (.getfield 66, 3) := by decide +kernel
theorem dX5_space_14 : decode cX5_space 14 = .ok (.if_icmp .ge 33, 3) := by decide +kernel
theorem dX5_space_17 : decode cX5_space 17 = .ok (.iload_n 1, 1) := by decide +kernel
theorem dX5_space_18 : decode cX5_space 18 = .ok (.aload_n 0, 1) := by decide +kernel
theorem dX5_space_19 : decode cX5_space 19 = .ok (.getfield 31, 3) := by decide +kernel
theorem dX5_space_22 : decode cX5_space 22 = .ok (.iload_n 2, 1) := by decide +kernel
theorem dX5_space_23 : decode cX5_space 23 = .ok (.baload, 1) := by decide +kernel
theorem dX5_space_24 : decode cX5_space 24 = .ok (.ifCond .eq 14, 3) := by decide +kernel
theorem dX5_space_27 : decode cX5_space 27 = .ok (.aload_n 0, 1) := by decide +kernel
theorem dX5_space_28 : decode cX5_space 28 = .ok (.getfield 22, 3) := by decide +kernel
theorem dX5_space_31 : decode cX5_space 31 = .ok (.iload_n 2, 1) := by decide +kernel
theorem dX5_space_32 : decode cX5_space 32 = .ok (.iaload, 1) := by decide +kernel
theorem dX5_space_33 : decode cX5_space 33 = .ok (.iconst 1, 1) := by decide +kernel
theorem dX5_space_34 : decode cX5_space 34 = .ok (.iadd, 1) := by decide +kernel
theorem dX5_space_35 : decode cX5_space 35 = .ok (.goto 4, 3) := by decide +kernel
theorem dX5_space_38 : decode cX5_space 38 = .ok (.iconst 0, 1) := by decide +kernel
theorem dX5_space_39 : decode cX5_space 39 = .ok (.iadd, 1) := by decide +kernel
theorem dX5_space_40 : decode cX5_space 40 = .ok (.istore_n 1, 1) := by decide +kernel
theorem dX5_space_41 : decode cX5_space 41 = .ok (.iinc 2 1, 3) := by decide +kernel
theorem dX5_space_44 : decode cX5_space 44 = .ok (.goto (-35), 3) := by decide +kernel
theorem dX5_space_47 : decode cX5_space 47 = .ok (.iload_n 1, 1) := by decide +kernel
theorem dX5_space_48 : decode cX5_space 48 = .ok (.ireturn, 1) := by decide +kernel
theorem dX5_dayOf_0 : decode cX5_dayOf 0 = .ok (.aload_n 0, 1) := by decide +kernel
theorem dX5_dayOf_1 : decode cX5_dayOf 1 = .ok (.aload_n 0, 1) := by decide +kernel
theorem dX5_dayOf_2 : decode cX5_dayOf 2 = .ok (.iload_n 1, 1) := by decide +kernel
theorem dX5_dayOf_3 : decode cX5_dayOf 3 = .ok (.invokevirtual 99, 3) := by decide +kernel
theorem dX5_dayOf_6 : decode cX5_dayOf 6 = .ok (.iconst 1, 1) := by decide +kernel
theorem dX5_dayOf_7 : decode cX5_dayOf 7 = .ok (.iconst 1, 1) := by decide +kernel
theorem dX5_dayOf_8 : decode cX5_dayOf 8 = .ok (.invokevirtual 80, 3) := by decide +kernel
theorem dX5_dayOf_11 : decode cX5_dayOf 11 = .ok (.ifCond .eq 12, 3) := by decide +kernel
theorem dX5_dayOf_14 : decode cX5_dayOf 14 = .ok (.aload_n 0, 1) := by decide +kernel
theorem dX5_dayOf_15 : decode cX5_dayOf 15 = .ok (.getfield 16, 3) := by decide +kernel
theorem dX5_dayOf_18 : decode cX5_dayOf 18 = .ok (.iload_n 1, 1) := by decide +kernel
theorem dX5_dayOf_19 : decode cX5_dayOf 19 = .ok (.iaload, 1) := by decide +kernel
theorem dX5_dayOf_20 : decode cX5_dayOf 20 = .ok (.goto 4, 3) := by decide +kernel
theorem dX5_dayOf_23 : decode cX5_dayOf 23 = .ok (.iconst 0, 1) := by decide +kernel
theorem dX5_dayOf_24 : decode cX5_dayOf 24 = .ok (.ireturn, 1) := by decide +kernel
theorem dX5_baseOf_0 : decode cX5_baseOf 0 = .ok (.aload_n 0, 1) := by decide +kernel
theorem dX5_baseOf_1 : decode cX5_baseOf 1 = .ok (.aload_n 0, 1) := by decide +kernel
theorem dX5_baseOf_2 : decode cX5_baseOf 2 = .ok (.iload_n 1, 1) := by decide +kernel
theorem dX5_baseOf_3 : decode cX5_baseOf 3 = .ok (.invokevirtual 99, 3) := by decide +kernel
theorem dX5_baseOf_6 : decode cX5_baseOf 6 = .ok (.iconst 1, 1) := by decide +kernel
theorem dX5_baseOf_7 : decode cX5_baseOf 7 = .ok (.iconst 1, 1) := by decide +kernel
theorem dX5_baseOf_8 : decode cX5_baseOf 8 = .ok (.invokevirtual 80, 3) := by decide +kernel
theorem dX5_baseOf_11 : decode cX5_baseOf 11 = .ok (.ifCond .eq 12, 3) := by decide +kernel
theorem dX5_baseOf_14 : decode cX5_baseOf 14 = .ok (.aload_n 0, 1) := by decide +kernel
theorem dX5_baseOf_15 : decode cX5_baseOf 15 = .ok (.getfield 19, 3) := by decide +kernel
theorem dX5_baseOf_18 : decode cX5_baseOf 18 = .ok (.iload_n 1, 1) := by decide +kernel
theorem dX5_baseOf_19 : decode cX5_baseOf 19 = .ok (.iaload, 1) := by decide +kernel
theorem dX5_baseOf_20 : decode cX5_baseOf 20 = .ok (.goto 4, 3) := by decide +kernel
theorem dX5_baseOf_23 : decode cX5_baseOf 23 = .ok (.iconst 0, 1) := by decide +kernel
theorem dX5_baseOf_24 : decode cX5_baseOf 24 = .ok (.ireturn, 1) := by decide +kernel
theorem dX5_keeps_0 : decode cX5_keeps 0 = .ok (.aload_n 0, 1) := by decide +kernel
theorem dX5_keeps_1 : decode cX5_keeps 1 = .ok (.aload_n 0, 1) := by decide +kernel
theorem dX5_keeps_2 : decode cX5_keeps 2 = .ok (.iload_n 1, 1) := by decide +kernel
theorem dX5_keeps_3 : decode cX5_keeps 3 = .ok (.invokevirtual 99, 3) := by decide +kernel
theorem dX5_keeps_6 : decode cX5_keeps 6 = .ok (.iconst 1, 1) := by decide +kernel
theorem dX5_keeps_7 : decode cX5_keeps 7 = .ok (.iconst 1, 1) := by decide +kernel
theorem dX5_keeps_8 : decode cX5_keeps 8 = .ok (.invokevirtual 80, 3) := by decide +kernel
theorem dX5_keeps_11 : decode cX5_keeps 11 = .ok (.ifCond .eq 12, 3) := by decide +kernel
theorem dX5_keeps_14 : decode cX5_keeps 14 = .ok (.aload_n 0, 1) := by decide +kernel
theorem dX5_keeps_15 : decode cX5_keeps 15 = .ok (.getfield 22, 3) := by decide +kernel
theorem dX5_keeps_18 : decode cX5_keeps 18 = .ok (.iload_n 1, 1) := by decide +kernel
theorem dX5_keeps_19 : decode cX5_keeps 19 = .ok (.iaload, 1) := by decide +kernel
theorem dX5_keeps_20 : decode cX5_keeps 20 = .ok (.goto 4, 3) := by decide +kernel
theorem dX5_keeps_23 : decode cX5_keeps 23 = .ok (.iconst 0, 1) := by decide +kernel
theorem dX5_keeps_24 : decode cX5_keeps 24 = .ok (.ireturn, 1) := by decide +kernel
theorem dX5_isPromised_0 : decode cX5_isPromised 0 = .ok (.aload_n 0, 1) := by decide +kernel
theorem dX5_isPromised_1 : decode cX5_isPromised 1 = .ok (.invokevirtual 102, 3) := by decide +kernel
theorem dX5_isPromised_4 : decode cX5_isPromised 4 = .ok (.pop, 1) := by decide +kernel
theorem dX5_isPromised_5 : decode cX5_isPromised 5 = .ok (.aload_n 0, 1) := by decide +kernel
theorem dX5_isPromised_6 : decode cX5_isPromised 6 = .ok (.aload_n 0, 1) := by decide +kernel
theorem dX5_isPromised_7 : decode cX5_isPromised 7 = .ok (.iload_n 1, 1) := by decide +kernel
theorem dX5_isPromised_8 : decode cX5_isPromised 8 = .ok (.invokevirtual 99, 3) := by decide +kernel
theorem dX5_isPromised_11 : decode cX5_isPromised 11 = .ok (.iconst 1, 1) := by decide +kernel
theorem dX5_isPromised_12 : decode cX5_isPromised 12 = .ok (.iconst 1, 1) := by decide +kernel
theorem dX5_isPromised_13 : decode cX5_isPromised 13 = .ok (.invokevirtual 80, 3) := by decide +kernel
theorem dX5_isPromised_16 : decode cX5_isPromised 16 = .ok (.ifCond .eq 16, 3) := by decide +kernel
theorem dX5_isPromised_19 : decode cX5_isPromised 19 = .ok (.aload_n 0, 1) := by decide +kernel
theorem dX5_isPromised_20 : decode cX5_isPromised 20 = .ok (.getfield 51, 3) := by decide +kernel
theorem dX5_isPromised_23 : decode cX5_isPromised 23 = .ok (.iload_n 1, 1) := by decide +kernel
theorem dX5_isPromised_24 : decode cX5_isPromised 24 = .ok (.baload, 1) := by decide +kernel
theorem dX5_isPromised_25 : decode cX5_isPromised 25 = .ok (.ifCond .eq 7, 3) := by decide +kernel
theorem dX5_isPromised_28 : decode cX5_isPromised 28 = .ok (.iconst 1, 1) := by decide +kernel
theorem dX5_isPromised_29 : decode cX5_isPromised 29 = .ok (.goto 4, 3) := by decide +kernel
theorem dX5_isPromised_32 : decode cX5_isPromised 32 = .ok (.iconst 0, 1) := by decide +kernel
theorem dX5_isPromised_33 : decode cX5_isPromised 33 = .ok (.ireturn, 1) := by decide +kernel
theorem dX5_isNeeded_0 : decode cX5_isNeeded 0 = .ok (.aload_n 0, 1) := by decide +kernel
theorem dX5_isNeeded_1 : decode cX5_isNeeded 1 = .ok (.invokevirtual 102, 3) := by decide +kernel
theorem dX5_isNeeded_4 : decode cX5_isNeeded 4 = .ok (.pop, 1) := by decide +kernel
theorem dX5_isNeeded_5 : decode cX5_isNeeded 5 = .ok (.aload_n 0, 1) := by decide +kernel
theorem dX5_isNeeded_6 : decode cX5_isNeeded 6 = .ok (.aload_n 0, 1) := by decide +kernel
theorem dX5_isNeeded_7 : decode cX5_isNeeded 7 = .ok (.iload_n 1, 1) := by decide +kernel
theorem dX5_isNeeded_8 : decode cX5_isNeeded 8 = .ok (.invokevirtual 99, 3) := by decide +kernel
theorem dX5_isNeeded_11 : decode cX5_isNeeded 11 = .ok (.iconst 1, 1) := by decide +kernel
theorem dX5_isNeeded_12 : decode cX5_isNeeded 12 = .ok (.iconst 1, 1) := by decide +kernel
theorem dX5_isNeeded_13 : decode cX5_isNeeded 13 = .ok (.invokevirtual 80, 3) := by decide +kernel
theorem dX5_isNeeded_16 : decode cX5_isNeeded 16 = .ok (.ifCond .eq 16, 3) := by decide +kernel
theorem dX5_isNeeded_19 : decode cX5_isNeeded 19 = .ok (.aload_n 0, 1) := by decide +kernel
theorem dX5_isNeeded_20 : decode cX5_isNeeded 20 = .ok (.getfield 54, 3) := by decide +kernel
theorem dX5_isNeeded_23 : decode cX5_isNeeded 23 = .ok (.iload_n 1, 1) := by decide +kernel
theorem dX5_isNeeded_24 : decode cX5_isNeeded 24 = .ok (.baload, 1) := by decide +kernel
theorem dX5_isNeeded_25 : decode cX5_isNeeded 25 = .ok (.ifCond .eq 7, 3) := by decide +kernel
theorem dX5_isNeeded_28 : decode cX5_isNeeded 28 = .ok (.iconst 1, 1) := by decide +kernel
theorem dX5_isNeeded_29 : decode cX5_isNeeded 29 = .ok (.goto 4, 3) := by decide +kernel
theorem dX5_isNeeded_32 : decode cX5_isNeeded 32 = .ok (.iconst 0, 1) := by decide +kernel
theorem dX5_isNeeded_33 : decode cX5_isNeeded 33 = .ok (.ireturn, 1) := by decide +kernel
theorem dX5_isProved_0 : decode cX5_isProved 0 = .ok (.aload_n 0, 1) := by decide +kernel
theorem dX5_isProved_1 : decode cX5_isProved 1 = .ok (.aload_n 0, 1) := by decide +kernel
theorem dX5_isProved_2 : decode cX5_isProved 2 = .ok (.iload_n 1, 1) := by decide +kernel
theorem dX5_isProved_3 : decode cX5_isProved 3 = .ok (.invokevirtual 99, 3) := by decide +kernel
theorem dX5_isProved_6 : decode cX5_isProved 6 = .ok (.iconst 1, 1) := by decide +kernel
theorem dX5_isProved_7 : decode cX5_isProved 7 = .ok (.iconst 1, 1) := by decide +kernel
theorem dX5_isProved_8 : decode cX5_isProved 8 = .ok (.invokevirtual 80, 3) := by decide +kernel
theorem dX5_isProved_11 : decode cX5_isProved 11 = .ok (.ifCond .eq 16, 3) := by decide +kernel
theorem dX5_isProved_14 : decode cX5_isProved 14 = .ok (.aload_n 0, 1) := by decide +kernel
theorem dX5_isProved_15 : decode cX5_isProved 15 = .ok (.getfield 38, 3) := by decide +kernel
theorem dX5_isProved_18 : decode cX5_isProved 18 = .ok (.iload_n 1, 1) := by decide +kernel
theorem dX5_isProved_19 : decode cX5_isProved 19 = .ok (.baload, 1) := by decide +kernel
theorem dX5_isProved_20 : decode cX5_isProved 20 = .ok (.ifCond .eq 7, 3) := by decide +kernel
theorem dX5_isProved_23 : decode cX5_isProved 23 = .ok (.iconst 1, 1) := by decide +kernel
theorem dX5_isProved_24 : decode cX5_isProved 24 = .ok (.goto 4, 3) := by decide +kernel
theorem dX5_isProved_27 : decode cX5_isProved 27 = .ok (.iconst 0, 1) := by decide +kernel
theorem dX5_isProved_28 : decode cX5_isProved 28 = .ok (.ireturn, 1) := by decide +kernel
theorem dX5_restore_0 : decode cX5_restore 0 = .ok (.aload_n 0, 1) := by decide +kernel
theorem dX5_restore_1 : decode cX5_restore 1 = .ok (.aload_n 0, 1) := by decide +kernel
theorem dX5_restore_2 : decode cX5_restore 2 = .ok (.iload_n 1, 1) := by decide +kernel
theorem dX5_restore_3 : decode cX5_restore 3 = .ok (.invokevirtual 99, 3) := by decide +kernel
theorem dX5_restore_6 : decode cX5_restore 6 = .ok (.ifCond .eq 14, 3) := by decide +kernel
theorem dX5_restore_9 : decode cX5_restore 9 = .ok (.iload_n 2, 1) := by decide +kernel
theorem dX5_restore_10 : decode cX5_restore 10 = .ok (.invokestatic 73, 3) := by decide +kernel
theorem dX5_restore_13 : decode cX5_restore 13 = .ok (.ifCond .eq 7, 3) := by decide +kernel
theorem dX5_restore_16 : decode cX5_restore 16 = .ok (.iconst 1, 1) := by decide +kernel
theorem dX5_restore_17 : decode cX5_restore 17 = .ok (.goto 4, 3) := by decide +kernel
theorem dX5_restore_20 : decode cX5_restore 20 = .ok (.iconst 0, 1) := by decide +kernel
theorem dX5_restore_21 : decode cX5_restore 21 = .ok (.iconst 1, 1) := by decide +kernel
theorem dX5_restore_22 : decode cX5_restore 22 = .ok (.iconst 1, 1) := by decide +kernel
theorem dX5_restore_23 : decode cX5_restore 23 = .ok (.invokevirtual 80, 3) := by decide +kernel
theorem dX5_restore_26 : decode cX5_restore 26 = .ok (.ifCond .ne 5, 3) := by decide +kernel
theorem dX5_restore_29 : decode cX5_restore 29 = .ok (.iconst 0, 1) := by decide +kernel
theorem dX5_restore_30 : decode cX5_restore 30 = .ok (.ireturn, 1) := by decide +kernel
theorem dX5_restore_31 : decode cX5_restore 31 = .ok (.iload_n 1, 1) := by decide +kernel
theorem dX5_restore_32 : decode cX5_restore 32 = .ok (.istore_n 3, 1) := by decide +kernel
theorem dX5_restore_33 : decode cX5_restore 33 = .ok (.aload_n 0, 1) := by decide +kernel
theorem dX5_restore_34 : decode cX5_restore 34 = .ok (.getfield 28, 3) := by decide +kernel
theorem dX5_restore_37 : decode cX5_restore 37 = .ok (.bipush 10, 2) := by decide +kernel
theorem dX5_restore_39 : decode cX5_restore 39 = .ok (.iload_n 3, 1) := by decide +kernel
theorem dX5_restore_40 : decode cX5_restore 40 = .ok (.imul, 1) := by decide +kernel
theorem dX5_restore_41 : decode cX5_restore 41 = .ok (.iload_n 2, 1) := by decide +kernel
theorem dX5_restore_42 : decode cX5_restore 42 = .ok (.iadd, 1) := by decide +kernel
theorem dX5_restore_43 : decode cX5_restore 43 = .ok (.iaload, 1) := by decide +kernel
theorem dX5_restore_44 : decode cX5_restore 44 = .ok (.iconst (-1), 1) := by decide +kernel
theorem dX5_restore_45 : decode cX5_restore 45 = .ok (.if_icmp .ne 13, 3) := by decide +kernel
theorem dX5_restore_48 : decode cX5_restore 48 = .ok (.aload_n 0, 1) := by decide +kernel
theorem dX5_restore_49 : decode cX5_restore 49 = .ok (.getfield 19, 3) := by decide +kernel
theorem dX5_restore_52 : decode cX5_restore 52 = .ok (.iload_n 3, 1) := by decide +kernel
theorem dX5_restore_53 : decode cX5_restore 53 = .ok (.iaload, 1) := by decide +kernel
theorem dX5_restore_54 : decode cX5_restore 54 = .ok (.istore_n 3, 1) := by decide +kernel
theorem dX5_restore_55 : decode cX5_restore 55 = .ok (.goto (-22), 3) := by decide +kernel
theorem dX5_restore_58 : decode cX5_restore 58 = .ok (.aload_n 0, 1) := by decide +kernel
theorem dX5_restore_59 : decode cX5_restore 59 = .ok (.getfield 28, 3) := by decide +kernel
theorem dX5_restore_62 : decode cX5_restore 62 = .ok (.bipush 10, 2) := by decide +kernel
theorem dX5_restore_64 : decode cX5_restore 64 = .ok (.iload_n 3, 1) := by decide +kernel
theorem dX5_restore_65 : decode cX5_restore 65 = .ok (.imul, 1) := by decide +kernel
theorem dX5_restore_66 : decode cX5_restore 66 = .ok (.iload_n 2, 1) := by decide +kernel
theorem dX5_restore_67 : decode cX5_restore 67 = .ok (.iadd, 1) := by decide +kernel
theorem dX5_restore_68 : decode cX5_restore 68 = .ok (.iaload, 1) := by decide +kernel
theorem dX5_restore_69 : decode cX5_restore 69 = .ok (.ireturn, 1) := by decide +kernel
theorem dX5_restoreByChanges_0 : decode cX5_restoreByChanges 0 = .ok (.aload_n 0, 1) := by decide +kernel
theorem dX5_restoreByChanges_1 : decode cX5_restoreByChanges 1 = .ok (.iload_n 1, 1) := by decide +kernel
theorem dX5_restoreByChanges_2 : decode cX5_restoreByChanges 2 = .ok (.iload_n 2, 1) := by decide +kernel
theorem dX5_restoreByChanges_3 : decode cX5_restoreByChanges 3 = .ok (.invokevirtual 108, 3) := by decide +kernel
theorem dX5_restoreByChanges_6 : decode cX5_restoreByChanges 6 = .ok (.ireturn, 1) := by decide +kernel
theorem dX5_isDay_0 : decode cX5_isDay 0 = .ok (.iload_n 0, 1) := by decide +kernel
theorem dX5_isDay_1 : decode cX5_isDay 1 = .ok (.iconst 0, 1) := by decide +kernel
theorem dX5_isDay_2 : decode cX5_isDay 2 = .ok (.sipush 364, 3) := by decide +kernel
theorem dX5_isDay_5 : decode cX5_isDay 5 = .ok (.invokestatic 69, 3) := by decide +kernel
theorem dX5_isDay_8 : decode cX5_isDay 8 = .ok (.ireturn, 1) := by decide +kernel
theorem dX5_onCall_0 : decode cX5_onCall 0 = .ok (.aload_n 0, 1) := by decide +kernel
theorem dX5_onCall_1 : decode cX5_onCall 1 = .ok (.iload_n 1, 1) := by decide +kernel
theorem dX5_onCall_2 : decode cX5_onCall 2 = .ok (.invokestatic 112, 3) := by decide +kernel
theorem dX5_onCall_5 : decode cX5_onCall 5 = .ok (.iconst 1, 1) := by decide +kernel
theorem dX5_onCall_6 : decode cX5_onCall 6 = .ok (.iconst 1, 1) := by decide +kernel
theorem dX5_onCall_7 : decode cX5_onCall 7 = .ok (.invokevirtual 80, 3) := by decide +kernel
theorem dX5_onCall_10 : decode cX5_onCall 10 = .ok (.ifCond .eq 12, 3) := by decide +kernel
theorem dX5_onCall_13 : decode cX5_onCall 13 = .ok (.aload_n 0, 1) := by decide +kernel
theorem dX5_onCall_14 : decode cX5_onCall 14 = .ok (.getfield 60, 3) := by decide +kernel
theorem dX5_onCall_17 : decode cX5_onCall 17 = .ok (.iload_n 1, 1) := by decide +kernel
theorem dX5_onCall_18 : decode cX5_onCall 18 = .ok (.iaload, 1) := by decide +kernel
theorem dX5_onCall_19 : decode cX5_onCall 19 = .ok (.goto 4, 3) := by decide +kernel
theorem dX5_onCall_22 : decode cX5_onCall 22 = .ok (.iconst 0, 1) := by decide +kernel
theorem dX5_onCall_23 : decode cX5_onCall 23 = .ok (.ireturn, 1) := by decide +kernel
theorem dX5_isTwice_0 : decode cX5_isTwice 0 = .ok (.iload_n 1, 1) := by decide +kernel
theorem dX5_isTwice_1 : decode cX5_isTwice 1 = .ok (.ifCond .le 20, 3) := by decide +kernel
theorem dX5_isTwice_4 : decode cX5_isTwice 4 = .ok (.aload_n 0, 1) := by decide +kernel
theorem dX5_isTwice_5 : decode cX5_isTwice 5 = .ok (.getfield 60, 3) := by decide +kernel
theorem dX5_isTwice_8 : decode cX5_isTwice 8 = .ok (.iload_n 1, 1) := by decide +kernel
theorem dX5_isTwice_9 : decode cX5_isTwice 9 = .ok (.iconst 1, 1) := by decide +kernel
theorem dX5_isTwice_10 : decode cX5_isTwice 10 = .ok (.isub, 1) := by decide +kernel
theorem dX5_isTwice_11 : decode cX5_isTwice 11 = .ok (.iaload, 1) := by decide +kernel
theorem dX5_isTwice_12 : decode cX5_isTwice 12 = .ok (.aload_n 0, 1) := by decide +kernel
theorem dX5_isTwice_13 : decode cX5_isTwice 13 = .ok (.getfield 60, 3) := by decide +kernel
theorem dX5_isTwice_16 : decode cX5_isTwice 16 = .ok (.iload_n 1, 1) := by decide +kernel
theorem dX5_isTwice_17 : decode cX5_isTwice 17 = .ok (.iaload, 1) := by decide +kernel
theorem dX5_isTwice_18 : decode cX5_isTwice 18 = .ok (.if_icmp .eq 27, 3) := by decide +kernel
theorem dX5_isTwice_21 : decode cX5_isTwice 21 = .ok (.iload_n 1, 1) := by decide +kernel
theorem dX5_isTwice_22 : decode cX5_isTwice 22 = .ok (.sipush 364, 3) := by decide +kernel
theorem dX5_isTwice_25 : decode cX5_isTwice 25 = .ok (.if_icmp .ge 24, 3) := by decide +kernel
theorem dX5_isTwice_28 : decode cX5_isTwice 28 = .ok (.aload_n 0, 1) := by decide +kernel
theorem dX5_isTwice_29 : decode cX5_isTwice 29 = .ok (.getfield 60, 3) := by decide +kernel
theorem dX5_isTwice_32 : decode cX5_isTwice 32 = .ok (.iload_n 1, 1) := by decide +kernel
theorem dX5_isTwice_33 : decode cX5_isTwice 33 = .ok (.iconst 1, 1) := by decide +kernel
theorem dX5_isTwice_34 : decode cX5_isTwice 34 = .ok (.iadd, 1) := by decide +kernel
theorem dX5_isTwice_35 : decode cX5_isTwice 35 = .ok (.iaload, 1) := by decide +kernel
theorem dX5_isTwice_36 : decode cX5_isTwice 36 = .ok (.aload_n 0, 1) := by decide +kernel
theorem dX5_isTwice_37 : decode cX5_isTwice 37 = .ok (.getfield 60, 3) := by decide +kernel
theorem dX5_isTwice_40 : decode cX5_isTwice 40 = .ok (.iload_n 1, 1) := by decide +kernel
theorem dX5_isTwice_41 : decode cX5_isTwice 41 = .ok (.iaload, 1) := by decide +kernel
theorem dX5_isTwice_42 : decode cX5_isTwice 42 = .ok (.if_icmp .ne 7, 3) := by decide +kernel
theorem dX5_isTwice_45 : decode cX5_isTwice 45 = .ok (.iconst 1, 1) := by decide +kernel
theorem dX5_isTwice_46 : decode cX5_isTwice 46 = .ok (.goto 4, 3) := by decide +kernel
theorem dX5_isTwice_49 : decode cX5_isTwice 49 = .ok (.iconst 0, 1) := by decide +kernel
theorem dX5_isTwice_50 : decode cX5_isTwice 50 = .ok (.ireturn, 1) := by decide +kernel
theorem dX5_exchanges_0 : decode cX5_exchanges 0 = .ok (.aload_n 0, 1) := by decide +kernel
theorem dX5_exchanges_1 : decode cX5_exchanges 1 = .ok (.getfield 60, 3) := by decide +kernel
theorem dX5_exchanges_4 : decode cX5_exchanges 4 = .ok (.iload_n 1, 1) := by decide +kernel
theorem dX5_exchanges_5 : decode cX5_exchanges 5 = .ok (.iaload, 1) := by decide +kernel
theorem dX5_exchanges_6 : decode cX5_exchanges 6 = .ok (.istore_n 3, 1) := by decide +kernel
theorem dX5_exchanges_7 : decode cX5_exchanges 7 = .ok (.aload_n 0, 1) := by decide +kernel
theorem dX5_exchanges_8 : decode cX5_exchanges 8 = .ok (.getfield 60, 3) := by decide +kernel
theorem dX5_exchanges_11 : decode cX5_exchanges 11 = .ok (.iload_n 1, 1) := by decide +kernel
theorem dX5_exchanges_12 : decode cX5_exchanges 12 = .ok (.aload_n 0, 1) := by decide +kernel
theorem dX5_exchanges_13 : decode cX5_exchanges 13 = .ok (.getfield 60, 3) := by decide +kernel
theorem dX5_exchanges_16 : decode cX5_exchanges 16 = .ok (.iload_n 2, 1) := by decide +kernel
theorem dX5_exchanges_17 : decode cX5_exchanges 17 = .ok (.iaload, 1) := by decide +kernel
theorem dX5_exchanges_18 : decode cX5_exchanges 18 = .ok (.iastore, 1) := by decide +kernel
theorem dX5_exchanges_19 : decode cX5_exchanges 19 = .ok (.aload_n 0, 1) := by decide +kernel
theorem dX5_exchanges_20 : decode cX5_exchanges 20 = .ok (.getfield 60, 3) := by decide +kernel
theorem dX5_exchanges_23 : decode cX5_exchanges 23 = .ok (.iload_n 2, 1) := by decide +kernel
theorem dX5_exchanges_24 : decode cX5_exchanges 24 = .ok (.iload_n 3, 1) := by decide +kernel
theorem dX5_exchanges_25 : decode cX5_exchanges 25 = .ok (.iastore, 1) := by decide +kernel
theorem dX5_exchanges_26 : decode cX5_exchanges 26 = .ok (.return_, 1) := by decide +kernel
theorem dX5_swap_0 : decode cX5_swap 0 = .ok (.iload_n 1, 1) := by decide +kernel
theorem dX5_swap_1 : decode cX5_swap 1 = .ok (.aload_n 0, 1) := by decide +kernel
theorem dX5_swap_2 : decode cX5_swap 2 = .ok (.getfield 84, 3) := by decide +kernel
theorem dX5_swap_5 : decode cX5_swap 5 = .ok (.sipush 364, 3) := by decide +kernel
theorem dX5_swap_8 : decode cX5_swap 8 = .ok (.invokestatic 69, 3) := by decide +kernel
theorem dX5_swap_11 : decode cX5_swap 11 = .ok (.ifCond .eq 26, 3) := by decide +kernel
theorem dX5_swap_14 : decode cX5_swap 14 = .ok (.iload_n 2, 1) := by decide +kernel
theorem dX5_swap_15 : decode cX5_swap 15 = .ok (.aload_n 0, 1) := by decide +kernel
theorem dX5_swap_16 : decode cX5_swap 16 = .ok (.getfield 84, 3) := by decide +kernel
theorem dX5_swap_19 : decode cX5_swap 19 = .ok (.sipush 364, 3) := by decide +kernel
theorem dX5_swap_22 : decode cX5_swap 22 = .ok (.invokestatic 69, 3) := by decide +kernel
theorem dX5_swap_25 : decode cX5_swap 25 = .ok (.ifCond .eq 12, 3) := by decide +kernel
theorem dX5_swap_28 : decode cX5_swap 28 = .ok (.iload_n 1, 1) := by decide +kernel
theorem dX5_swap_29 : decode cX5_swap 29 = .ok (.iload_n 2, 1) := by decide +kernel
theorem dX5_swap_30 : decode cX5_swap 30 = .ok (.if_icmp .eq 7, 3) := by decide +kernel
theorem dX5_swap_33 : decode cX5_swap 33 = .ok (.iconst 1, 1) := by decide +kernel
theorem dX5_swap_34 : decode cX5_swap 34 = .ok (.goto 4, 3) := by decide +kernel
theorem dX5_swap_37 : decode cX5_swap 37 = .ok (.iconst 0, 1) := by decide +kernel
theorem dX5_swap_38 : decode cX5_swap 38 = .ok (.istore_n 3, 1) := by decide +kernel
theorem dX5_swap_39 : decode cX5_swap 39 = .ok (.iconst 0, 1) := by decide +kernel
theorem dX5_swap_40 : decode cX5_swap 40 = .ok (.istore 4, 2) := by decide +kernel
theorem dX5_swap_42 : decode cX5_swap 42 = .ok (.iload_n 3, 1) := by decide +kernel
theorem dX5_swap_43 : decode cX5_swap 43 = .ok (.ifCond .eq 43, 3) := by decide +kernel
theorem dX5_swap_46 : decode cX5_swap 46 = .ok (.aload_n 0, 1) := by decide +kernel
theorem dX5_swap_47 : decode cX5_swap 47 = .ok (.iload_n 1, 1) := by decide +kernel
theorem dX5_swap_48 : decode cX5_swap 48 = .ok (.iload_n 2, 1) := by decide +kernel
theorem dX5_swap_49 : decode cX5_swap 49 = .ok (.invokevirtual 115, 3) := by decide +kernel
theorem dX5_swap_52 : decode cX5_swap 52 = .ok (.aload_n 0, 1) := by decide +kernel
theorem dX5_swap_53 : decode cX5_swap 53 = .ok (.iload_n 1, 1) := by decide +kernel
theorem dX5_swap_54 : decode cX5_swap 54 = .ok (.invokevirtual 118, 3) := by decide +kernel
theorem dX5_swap_57 : decode cX5_swap 57 = .ok (.ifCond .ne 15, 3) := by decide +kernel
theorem dX5_swap_60 : decode cX5_swap 60 = .ok (.aload_n 0, 1) := by decide +kernel
theorem dX5_swap_61 : decode cX5_swap 61 = .ok (.iload_n 2, 1) := by decide +kernel
theorem dX5_swap_62 : decode cX5_swap 62 = .ok (.invokevirtual 118, 3) := by decide +kernel
theorem dX5_swap_65 : decode cX5_swap 65 = .ok (.ifCond .ne 7, 3) := by decide +kernel
theorem dX5_swap_68 : decode cX5_swap 68 = .ok (.iconst 1, 1) := by decide +kernel
theorem dX5_swap_69 : decode cX5_swap 69 = .ok (.goto 4, 3) := by decide +kernel
theorem dX5_swap_72 : decode cX5_swap 72 = .ok (.iconst 0, 1) := by decide +kernel
theorem dX5_swap_73 : decode cX5_swap 73 = .ok (.istore 4, 2) := by decide +kernel
theorem dX5_swap_75 : decode cX5_swap 75 = .ok (.iload 4, 2) := by decide +kernel
theorem dX5_swap_77 : decode cX5_swap 77 = .ok (.ifCond .ne 9, 3) := by decide +kernel
theorem dX5_swap_80 : decode cX5_swap 80 = .ok (.aload_n 0, 1) := by decide +kernel
theorem dX5_swap_81 : decode cX5_swap 81 = .ok (.iload_n 1, 1) := by decide +kernel
theorem dX5_swap_82 : decode cX5_swap 82 = .ok (.iload_n 2, 1) := by decide +kernel
theorem dX5_swap_83 : decode cX5_swap 83 = .ok (.invokevirtual 115, 3) := by decide +kernel
theorem dX5_swap_86 : decode cX5_swap 86 = .ok (.aload_n 0, 1) := by decide +kernel
theorem dX5_swap_87 : decode cX5_swap 87 = .ok (.iload_n 3, 1) := by decide +kernel
theorem dX5_swap_88 : decode cX5_swap 88 = .ok (.iload 4, 2) := by decide +kernel
theorem dX5_swap_90 : decode cX5_swap 90 = .ok (.iconst 1, 1) := by decide +kernel
theorem dX5_swap_91 : decode cX5_swap 91 = .ok (.invokevirtual 80, 3) := by decide +kernel
theorem dX5_swap_94 : decode cX5_swap 94 = .ok (.ifCond .eq 12, 3) := by decide +kernel
theorem dX5_swap_97 : decode cX5_swap 97 = .ok (.aload_n 0, 1) := by decide +kernel
theorem dX5_swap_98 : decode cX5_swap 98 = .ok (.getfield 60, 3) := by decide +kernel
theorem dX5_swap_101 : decode cX5_swap 101 = .ok (.iload_n 1, 1) := by decide +kernel
theorem dX5_swap_102 : decode cX5_swap 102 = .ok (.iaload, 1) := by decide +kernel
theorem dX5_swap_103 : decode cX5_swap 103 = .ok (.goto 4, 3) := by decide +kernel
theorem dX5_swap_106 : decode cX5_swap 106 = .ok (.iconst 0, 1) := by decide +kernel
theorem dX5_swap_107 : decode cX5_swap 107 = .ok (.ireturn, 1) := by decide +kernel
theorem dX5_alarm_0 : decode cX5_alarm 0 = .ok (.aload_n 0, 1) := by decide +kernel
theorem dX5_alarm_1 : decode cX5_alarm 1 = .ok (.iload_n 1, 1) := by decide +kernel
theorem dX5_alarm_2 : decode cX5_alarm 2 = .ok (.iconst 0, 1) := by decide +kernel
theorem dX5_alarm_3 : decode cX5_alarm 3 = .ok (.bipush 31, 2) := by decide +kernel
theorem dX5_alarm_5 : decode cX5_alarm 5 = .ok (.invokestatic 69, 3) := by decide +kernel
theorem dX5_alarm_8 : decode cX5_alarm 8 = .ok (.iconst 1, 1) := by decide +kernel
theorem dX5_alarm_9 : decode cX5_alarm 9 = .ok (.iconst 1, 1) := by decide +kernel
theorem dX5_alarm_10 : decode cX5_alarm 10 = .ok (.invokevirtual 80, 3) := by decide +kernel
theorem dX5_alarm_13 : decode cX5_alarm 13 = .ok (.ifCond .ne 5, 3) := by decide +kernel
theorem dX5_alarm_16 : decode cX5_alarm 16 = .ok (.iconst 0, 1) := by decide +kernel
theorem dX5_alarm_17 : decode cX5_alarm 17 = .ok (.ireturn, 1) := by decide +kernel
theorem dX5_alarm_18 : decode cX5_alarm 18 = .ok (.iconst 0, 1) := by decide +kernel
theorem dX5_alarm_19 : decode cX5_alarm 19 = .ok (.istore_n 2, 1) := by decide +kernel
theorem dX5_alarm_20 : decode cX5_alarm 20 = .ok (.iload_n 2, 1) := by decide +kernel
theorem dX5_alarm_21 : decode cX5_alarm 21 = .ok (.iconst 4, 1) := by decide +kernel
theorem dX5_alarm_22 : decode cX5_alarm 22 = .ok (.if_icmp .ge 40, 3) := by decide +kernel
theorem dX5_alarm_25 : decode cX5_alarm 25 = .ok (.iload_n 1, 1) := by decide +kernel
theorem dX5_alarm_26 : decode cX5_alarm 26 = .ok (.aload_n 0, 1) := by decide +kernel
theorem dX5_alarm_27 : decode cX5_alarm 27 = .ok (.getfield 60, 3) := by decide +kernel
theorem dX5_alarm_30 : decode cX5_alarm 30 = .ok (.aload_n 0, 1) := by decide +kernel
theorem dX5_alarm_31 : decode cX5_alarm 31 = .ok (.getfield 84, 3) := by decide +kernel
theorem dX5_alarm_34 : decode cX5_alarm 34 = .ok (.iload_n 2, 1) := by decide +kernel
theorem dX5_alarm_35 : decode cX5_alarm 35 = .ok (.iadd, 1) := by decide +kernel
theorem dX5_alarm_36 : decode cX5_alarm 36 = .ok (.iaload, 1) := by decide +kernel
theorem dX5_alarm_37 : decode cX5_alarm 37 = .ok (.ishr, 1) := by decide +kernel
theorem dX5_alarm_38 : decode cX5_alarm 38 = .ok (.iconst 1, 1) := by decide +kernel
theorem dX5_alarm_39 : decode cX5_alarm 39 = .ok (.iand, 1) := by decide +kernel
theorem dX5_alarm_40 : decode cX5_alarm 40 = .ok (.iconst 1, 1) := by decide +kernel
theorem dX5_alarm_41 : decode cX5_alarm 41 = .ok (.if_icmp .ne 15, 3) := by decide +kernel
theorem dX5_alarm_44 : decode cX5_alarm 44 = .ok (.aload_n 0, 1) := by decide +kernel
theorem dX5_alarm_45 : decode cX5_alarm 45 = .ok (.getfield 60, 3) := by decide +kernel
theorem dX5_alarm_48 : decode cX5_alarm 48 = .ok (.aload_n 0, 1) := by decide +kernel
theorem dX5_alarm_49 : decode cX5_alarm 49 = .ok (.getfield 84, 3) := by decide +kernel
theorem dX5_alarm_52 : decode cX5_alarm 52 = .ok (.iload_n 2, 1) := by decide +kernel
theorem dX5_alarm_53 : decode cX5_alarm 53 = .ok (.iadd, 1) := by decide +kernel
theorem dX5_alarm_54 : decode cX5_alarm 54 = .ok (.iaload, 1) := by decide +kernel
theorem dX5_alarm_55 : decode cX5_alarm 55 = .ok (.ireturn, 1) := by decide +kernel
theorem dX5_alarm_56 : decode cX5_alarm 56 = .ok (.iinc 2 1, 3) := by decide +kernel
theorem dX5_alarm_59 : decode cX5_alarm 59 = .ok (.goto (-39), 3) := by decide +kernel
theorem dX5_alarm_62 : decode cX5_alarm 62 = .ok (.iconst (-1), 1) := by decide +kernel
theorem dX5_alarm_63 : decode cX5_alarm 63 = .ok (.ireturn, 1) := by decide +kernel
