theorem dL_stool_0 : decode cL_stool 0 = .ok (.aload 5, 2) := by decide +kernel
theorem dL_stool_2 : decode cL_stool 2 = .ok (.iconst 0, 1) := by decide +kernel
theorem dL_stool_3 : decode cL_stool 3 = .ok (.aload_n 0, 1) := by decide +kernel
theorem dL_stool_4 : decode cL_stool 4 = .ok (.iload_n 1, 1) := by decide +kernel
theorem dL_stool_5 : decode cL_stool 5 = .ok (.iload_n 2, 1) := by decide +kernel
theorem dL_stool_6 : decode cL_stool 6 = .ok (.iload_n 3, 1) := by decide +kernel
theorem dL_stool_7 : decode cL_stool 7 = .ok (.iload 4, 2) := by decide +kernel
theorem dL_stool_9 : decode cL_stool 9 = .ok (.invokevirtual 7, 3) := by decide +kernel
theorem dL_stool_12 : decode cL_stool 12 = .ok (.i2l, 1) := by decide +kernel
theorem dL_stool_13 : decode cL_stool 13 = .ok (.lastore, 1) := by decide +kernel
theorem dL_stool_14 : decode cL_stool 14 = .ok (.goto 11, 3) := by decide +kernel
theorem dL_stool_17 : decode cL_stool 17 = .ok (.astore 6, 2) := by decide +kernel
theorem dL_stool_19 : decode cL_stool 19 = .ok (.iconst 1, 1) := by decide +kernel
theorem dL_stool_20 : decode cL_stool 20 = .ok (.ireturn, 1) := by decide +kernel
theorem dL_stool_21 : decode cL_stool 21 = .ok (.astore 6, 2) := by decide +kernel
theorem dL_stool_23 : decode cL_stool 23 = .ok (.iconst 2, 1) := by decide +kernel
theorem dL_stool_24 : decode cL_stool 24 = .ok (.ireturn, 1) := by decide +kernel
theorem dL_stool_25 : decode cL_stool 25 = .ok (.iconst 0, 1) := by decide +kernel
theorem dL_stool_26 : decode cL_stool 26 = .ok (.ireturn, 1) := by decide +kernel
theorem dL_guest_0 : decode cL_guest 0 = .ok (.aload_n 3, 1) := by decide +kernel
theorem dL_guest_1 : decode cL_guest 1 = .ok (.iconst 0, 1) := by decide +kernel
theorem dL_guest_2 : decode cL_guest 2 = .ok (.aload_n 0, 1) := by decide +kernel
theorem dL_guest_3 : decode cL_guest 3 = .ok (.iload_n 1, 1) := by decide +kernel
theorem dL_guest_4 : decode cL_guest 4 = .ok (.iload_n 2, 1) := by decide +kernel
theorem dL_guest_5 : decode cL_guest 5 = .ok (.invokevirtual 17, 3) := by decide +kernel
theorem dL_guest_8 : decode cL_guest 8 = .ok (.i2l, 1) := by decide +kernel
theorem dL_guest_9 : decode cL_guest 9 = .ok (.lastore, 1) := by decide +kernel
theorem dL_guest_10 : decode cL_guest 10 = .ok (.goto 11, 3) := by decide +kernel
theorem dL_guest_13 : decode cL_guest 13 = .ok (.astore 4, 2) := by decide +kernel
theorem dL_guest_15 : decode cL_guest 15 = .ok (.iconst 1, 1) := by decide +kernel
theorem dL_guest_16 : decode cL_guest 16 = .ok (.ireturn, 1) := by decide +kernel
theorem dL_guest_17 : decode cL_guest 17 = .ok (.astore 4, 2) := by decide +kernel
theorem dL_guest_19 : decode cL_guest 19 = .ok (.iconst 2, 1) := by decide +kernel
theorem dL_guest_20 : decode cL_guest 20 = .ok (.ireturn, 1) := by decide +kernel
theorem dL_guest_21 : decode cL_guest 21 = .ok (.iconst 0, 1) := by decide +kernel
theorem dL_guest_22 : decode cL_guest 22 = .ok (.ireturn, 1) := by decide +kernel
theorem dL_cat_0 : decode cL_cat 0 = .ok (.aload_n 2, 1) := by decide +kernel
theorem dL_cat_1 : decode cL_cat 1 = .ok (.iconst 0, 1) := by decide +kernel
theorem dL_cat_2 : decode cL_cat 2 = .ok (.aload_n 0, 1) := by decide +kernel
theorem dL_cat_3 : decode cL_cat 3 = .ok (.iload_n 1, 1) := by decide +kernel
theorem dL_cat_4 : decode cL_cat 4 = .ok (.invokevirtual 21, 3) := by decide +kernel
theorem dL_cat_7 : decode cL_cat 7 = .ok (.i2l, 1) := by decide +kernel
theorem dL_cat_8 : decode cL_cat 8 = .ok (.lastore, 1) := by decide +kernel
theorem dL_cat_9 : decode cL_cat 9 = .ok (.goto 9, 3) := by decide +kernel
theorem dL_cat_12 : decode cL_cat 12 = .ok (.astore_n 3, 1) := by decide +kernel
theorem dL_cat_13 : decode cL_cat 13 = .ok (.iconst 1, 1) := by decide +kernel
theorem dL_cat_14 : decode cL_cat 14 = .ok (.ireturn, 1) := by decide +kernel
theorem dL_cat_15 : decode cL_cat 15 = .ok (.astore_n 3, 1) := by decide +kernel
theorem dL_cat_16 : decode cL_cat 16 = .ok (.iconst 2, 1) := by decide +kernel
theorem dL_cat_17 : decode cL_cat 17 = .ok (.ireturn, 1) := by decide +kernel
theorem dL_cat_18 : decode cL_cat 18 = .ok (.iconst 0, 1) := by decide +kernel
theorem dL_cat_19 : decode cL_cat 19 = .ok (.ireturn, 1) := by decide +kernel
theorem dL_sit_0 : decode cL_sit 0 = .ok (.aload_n 3, 1) := by decide +kernel
theorem dL_sit_1 : decode cL_sit 1 = .ok (.iconst 0, 1) := by decide +kernel
theorem dL_sit_2 : decode cL_sit 2 = .ok (.aload_n 0, 1) := by decide +kernel
theorem dL_sit_3 : decode cL_sit 3 = .ok (.iload_n 1, 1) := by decide +kernel
theorem dL_sit_4 : decode cL_sit 4 = .ok (.iload_n 2, 1) := by decide +kernel
theorem dL_sit_5 : decode cL_sit 5 = .ok (.invokevirtual 25, 3) := by decide +kernel
theorem dL_sit_8 : decode cL_sit 8 = .ok (.i2l, 1) := by decide +kernel
theorem dL_sit_9 : decode cL_sit 9 = .ok (.lastore, 1) := by decide +kernel
theorem dL_sit_10 : decode cL_sit 10 = .ok (.goto 11, 3) := by decide +kernel
theorem dL_sit_13 : decode cL_sit 13 = .ok (.astore 4, 2) := by decide +kernel
theorem dL_sit_15 : decode cL_sit 15 = .ok (.iconst 1, 1) := by decide +kernel
theorem dL_sit_16 : decode cL_sit 16 = .ok (.ireturn, 1) := by decide +kernel
theorem dL_sit_17 : decode cL_sit 17 = .ok (.astore 4, 2) := by decide +kernel
theorem dL_sit_19 : decode cL_sit 19 = .ok (.iconst 2, 1) := by decide +kernel
theorem dL_sit_20 : decode cL_sit 20 = .ok (.ireturn, 1) := by decide +kernel
theorem dL_sit_21 : decode cL_sit 21 = .ok (.iconst 0, 1) := by decide +kernel
theorem dL_sit_22 : decode cL_sit 22 = .ok (.ireturn, 1) := by decide +kernel
theorem dL_getUp_0 : decode cL_getUp 0 = .ok (.aload_n 2, 1) := by decide +kernel
theorem dL_getUp_1 : decode cL_getUp 1 = .ok (.iconst 0, 1) := by decide +kernel
theorem dL_getUp_2 : decode cL_getUp 2 = .ok (.aload_n 0, 1) := by decide +kernel
theorem dL_getUp_3 : decode cL_getUp 3 = .ok (.iload_n 1, 1) := by decide +kernel
theorem dL_getUp_4 : decode cL_getUp 4 = .ok (.invokevirtual 30, 3) := by decide +kernel
theorem dL_getUp_7 : decode cL_getUp 7 = .ok (.i2l, 1) := by decide +kernel
theorem dL_getUp_8 : decode cL_getUp 8 = .ok (.lastore, 1) := by decide +kernel
theorem dL_getUp_9 : decode cL_getUp 9 = .ok (.goto 9, 3) := by decide +kernel
theorem dL_getUp_12 : decode cL_getUp 12 = .ok (.astore_n 3, 1) := by decide +kernel
theorem dL_getUp_13 : decode cL_getUp 13 = .ok (.iconst 1, 1) := by decide +kernel
theorem dL_getUp_14 : decode cL_getUp 14 = .ok (.ireturn, 1) := by decide +kernel
theorem dL_getUp_15 : decode cL_getUp 15 = .ok (.astore_n 3, 1) := by decide +kernel
theorem dL_getUp_16 : decode cL_getUp 16 = .ok (.iconst 2, 1) := by decide +kernel
theorem dL_getUp_17 : decode cL_getUp 17 = .ok (.ireturn, 1) := by decide +kernel
theorem dL_getUp_18 : decode cL_getUp 18 = .ok (.iconst 0, 1) := by decide +kernel
theorem dL_getUp_19 : decode cL_getUp 19 = .ok (.ireturn, 1) := by decide +kernel
theorem dL_stoolOf_0 : decode cL_stoolOf 0 = .ok (.aload_n 3, 1) := by decide +kernel
theorem dL_stoolOf_1 : decode cL_stoolOf 1 = .ok (.iconst 0, 1) := by decide +kernel
theorem dL_stoolOf_2 : decode cL_stoolOf 2 = .ok (.aload_n 0, 1) := by decide +kernel
theorem dL_stoolOf_3 : decode cL_stoolOf 3 = .ok (.iload_n 1, 1) := by decide +kernel
theorem dL_stoolOf_4 : decode cL_stoolOf 4 = .ok (.iload_n 2, 1) := by decide +kernel
theorem dL_stoolOf_5 : decode cL_stoolOf 5 = .ok (.invokevirtual 33, 3) := by decide +kernel
theorem dL_stoolOf_8 : decode cL_stoolOf 8 = .ok (.i2l, 1) := by decide +kernel
theorem dL_stoolOf_9 : decode cL_stoolOf 9 = .ok (.lastore, 1) := by decide +kernel
theorem dL_stoolOf_10 : decode cL_stoolOf 10 = .ok (.goto 11, 3) := by decide +kernel
theorem dL_stoolOf_13 : decode cL_stoolOf 13 = .ok (.astore 4, 2) := by decide +kernel
theorem dL_stoolOf_15 : decode cL_stoolOf 15 = .ok (.iconst 1, 1) := by decide +kernel
theorem dL_stoolOf_16 : decode cL_stoolOf 16 = .ok (.ireturn, 1) := by decide +kernel
theorem dL_stoolOf_17 : decode cL_stoolOf 17 = .ok (.astore 4, 2) := by decide +kernel
theorem dL_stoolOf_19 : decode cL_stoolOf 19 = .ok (.iconst 2, 1) := by decide +kernel
theorem dL_stoolOf_20 : decode cL_stoolOf 20 = .ok (.ireturn, 1) := by decide +kernel
theorem dL_stoolOf_21 : decode cL_stoolOf 21 = .ok (.iconst 0, 1) := by decide +kernel
theorem dL_stoolOf_22 : decode cL_stoolOf 22 = .ok (.ireturn, 1) := by decide +kernel
theorem dL_sitterOf_0 : decode cL_sitterOf 0 = .ok (.aload_n 3, 1) := by decide +kernel
theorem dL_sitterOf_1 : decode cL_sitterOf 1 = .ok (.iconst 0, 1) := by decide +kernel
theorem dL_sitterOf_2 : decode cL_sitterOf 2 = .ok (.aload_n 0, 1) := by decide +kernel
theorem dL_sitterOf_3 : decode cL_sitterOf 3 = .ok (.iload_n 1, 1) := by decide +kernel
theorem dL_sitterOf_4 : decode cL_sitterOf 4 = .ok (.iload_n 2, 1) := by decide +kernel
theorem dL_sitterOf_5 : decode cL_sitterOf 5 = .ok (.invokevirtual 36, 3) := by decide +kernel
theorem dL_sitterOf_8 : decode cL_sitterOf 8 = .ok (.i2l, 1) := by decide +kernel
theorem dL_sitterOf_9 : decode cL_sitterOf 9 = .ok (.lastore, 1) := by decide +kernel
theorem dL_sitterOf_10 : decode cL_sitterOf 10 = .ok (.goto 11, 3) := by decide +kernel
theorem dL_sitterOf_13 : decode cL_sitterOf 13 = .ok (.astore 4, 2) := by decide +kernel
theorem dL_sitterOf_15 : decode cL_sitterOf 15 = .ok (.iconst 1, 1) := by decide +kernel
theorem dL_sitterOf_16 : decode cL_sitterOf 16 = .ok (.ireturn, 1) := by decide +kernel
theorem dL_sitterOf_17 : decode cL_sitterOf 17 = .ok (.astore 4, 2) := by decide +kernel
theorem dL_sitterOf_19 : decode cL_sitterOf 19 = .ok (.iconst 2, 1) := by decide +kernel
theorem dL_sitterOf_20 : decode cL_sitterOf 20 = .ok (.ireturn, 1) := by decide +kernel
theorem dL_sitterOf_21 : decode cL_sitterOf 21 = .ok (.iconst 0, 1) := by decide +kernel
theorem dL_sitterOf_22 : decode cL_sitterOf 22 = .ok (.ireturn, 1) := by decide +kernel
theorem dL_clash_0 : decode cL_clash 0 = .ok (.aload_n 3, 1) := by decide +kernel
theorem dL_clash_1 : decode cL_clash 1 = .ok (.iconst 0, 1) := by decide +kernel
theorem dL_clash_2 : decode cL_clash 2 = .ok (.aload_n 0, 1) := by decide +kernel
theorem dL_clash_3 : decode cL_clash 3 = .ok (.iload_n 1, 1) := by decide +kernel
theorem dL_clash_4 : decode cL_clash 4 = .ok (.iload_n 2, 1) := by decide +kernel
theorem dL_clash_5 : decode cL_clash 5 = .ok (.invokevirtual 39, 3) := by decide +kernel
theorem dL_clash_8 : decode cL_clash 8 = .ok (.ifCond .eq 7, 3) := by decide +kernel
theorem dL_clash_11 : decode cL_clash 11 = .ok (.lconst 1, 1) := by decide +kernel
theorem dL_clash_12 : decode cL_clash 12 = .ok (.goto 4, 3) := by decide +kernel
theorem dL_clash_15 : decode cL_clash 15 = .ok (.lconst 0, 1) := by decide +kernel
theorem dL_clash_16 : decode cL_clash 16 = .ok (.lastore, 1) := by decide +kernel
theorem dL_clash_17 : decode cL_clash 17 = .ok (.goto 7, 3) := by decide +kernel
theorem dL_clash_20 : decode cL_clash 20 = .ok (.astore 4, 2) := by decide +kernel
theorem dL_clash_22 : decode cL_clash 22 = .ok (.iconst 1, 1) := by decide +kernel
theorem dL_clash_23 : decode cL_clash 23 = .ok (.ireturn, 1) := by decide +kernel
theorem dL_clash_24 : decode cL_clash 24 = .ok (.iconst 0, 1) := by decide +kernel
theorem dL_clash_25 : decode cL_clash 25 = .ok (.ireturn, 1) := by decide +kernel
theorem dL_brawl_0 : decode cL_brawl 0 = .ok (.aload_n 3, 1) := by decide +kernel
theorem dL_brawl_1 : decode cL_brawl 1 = .ok (.iconst 0, 1) := by decide +kernel
theorem dL_brawl_2 : decode cL_brawl 2 = .ok (.aload_n 0, 1) := by decide +kernel
theorem dL_brawl_3 : decode cL_brawl 3 = .ok (.iload_n 1, 1) := by decide +kernel
theorem dL_brawl_4 : decode cL_brawl 4 = .ok (.iload_n 2, 1) := by decide +kernel
theorem dL_brawl_5 : decode cL_brawl 5 = .ok (.invokevirtual 43, 3) := by decide +kernel
theorem dL_brawl_8 : decode cL_brawl 8 = .ok (.i2l, 1) := by decide +kernel
theorem dL_brawl_9 : decode cL_brawl 9 = .ok (.lastore, 1) := by decide +kernel
theorem dL_brawl_10 : decode cL_brawl 10 = .ok (.goto 15, 3) := by decide +kernel
theorem dL_brawl_13 : decode cL_brawl 13 = .ok (.astore 4, 2) := by decide +kernel
theorem dL_brawl_15 : decode cL_brawl 15 = .ok (.iconst 1, 1) := by decide +kernel
theorem dL_brawl_16 : decode cL_brawl 16 = .ok (.ireturn, 1) := by decide +kernel
theorem dL_brawl_17 : decode cL_brawl 17 = .ok (.astore 4, 2) := by decide +kernel
theorem dL_brawl_19 : decode cL_brawl 19 = .ok (.iconst 2, 1) := by decide +kernel
theorem dL_brawl_20 : decode cL_brawl 20 = .ok (.ireturn, 1) := by decide +kernel
theorem dL_brawl_21 : decode cL_brawl 21 = .ok (.astore 4, 2) := by decide +kernel
theorem dL_brawl_23 : decode cL_brawl 23 = .ok (.iconst 3, 1) := by decide +kernel
theorem dL_brawl_24 : decode cL_brawl 24 = .ok (.ireturn, 1) := by decide +kernel
theorem dL_brawl_25 : decode cL_brawl 25 = .ok (.iconst 0, 1) := by decide +kernel
theorem dL_brawl_26 : decode cL_brawl 26 = .ok (.ireturn, 1) := by decide +kernel
theorem dL_swap_0 : decode cL_swap 0 = .ok (.aload_n 3, 1) := by decide +kernel
theorem dL_swap_1 : decode cL_swap 1 = .ok (.iconst 0, 1) := by decide +kernel
theorem dL_swap_2 : decode cL_swap 2 = .ok (.aload_n 0, 1) := by decide +kernel
theorem dL_swap_3 : decode cL_swap 3 = .ok (.iload_n 1, 1) := by decide +kernel
theorem dL_swap_4 : decode cL_swap 4 = .ok (.iload_n 2, 1) := by decide +kernel
theorem dL_swap_5 : decode cL_swap 5 = .ok (.invokevirtual 46, 3) := by decide +kernel
theorem dL_swap_8 : decode cL_swap 8 = .ok (.i2l, 1) := by decide +kernel
theorem dL_swap_9 : decode cL_swap 9 = .ok (.lastore, 1) := by decide +kernel
theorem dL_swap_10 : decode cL_swap 10 = .ok (.goto 15, 3) := by decide +kernel
theorem dL_swap_13 : decode cL_swap 13 = .ok (.astore 4, 2) := by decide +kernel
theorem dL_swap_15 : decode cL_swap 15 = .ok (.iconst 1, 1) := by decide +kernel
theorem dL_swap_16 : decode cL_swap 16 = .ok (.ireturn, 1) := by decide +kernel
theorem dL_swap_17 : decode cL_swap 17 = .ok (.astore 4, 2) := by decide +kernel
theorem dL_swap_19 : decode cL_swap 19 = .ok (.iconst 2, 1) := by decide +kernel
theorem dL_swap_20 : decode cL_swap 20 = .ok (.ireturn, 1) := by decide +kernel
theorem dL_swap_21 : decode cL_swap 21 = .ok (.astore 4, 2) := by decide +kernel
theorem dL_swap_23 : decode cL_swap 23 = .ok (.iconst 3, 1) := by decide +kernel
theorem dL_swap_24 : decode cL_swap 24 = .ok (.ireturn, 1) := by decide +kernel
theorem dL_swap_25 : decode cL_swap 25 = .ok (.iconst 0, 1) := by decide +kernel
theorem dL_swap_26 : decode cL_swap 26 = .ok (.ireturn, 1) := by decide +kernel
theorem dL_bestSwap_0 : decode cL_bestSwap 0 = .ok (.aload_n 2, 1) := by decide +kernel
theorem dL_bestSwap_1 : decode cL_bestSwap 1 = .ok (.iconst 0, 1) := by decide +kernel
theorem dL_bestSwap_2 : decode cL_bestSwap 2 = .ok (.aload_n 0, 1) := by decide +kernel
theorem dL_bestSwap_3 : decode cL_bestSwap 3 = .ok (.iload_n 1, 1) := by decide +kernel
theorem dL_bestSwap_4 : decode cL_bestSwap 4 = .ok (.invokevirtual 49, 3) := by decide +kernel
theorem dL_bestSwap_7 : decode cL_bestSwap 7 = .ok (.i2l, 1) := by decide +kernel
theorem dL_bestSwap_8 : decode cL_bestSwap 8 = .ok (.lastore, 1) := by decide +kernel
theorem dL_bestSwap_9 : decode cL_bestSwap 9 = .ok (.goto 6, 3) := by decide +kernel
theorem dL_bestSwap_12 : decode cL_bestSwap 12 = .ok (.astore_n 3, 1) := by decide +kernel
theorem dL_bestSwap_13 : decode cL_bestSwap 13 = .ok (.iconst 1, 1) := by decide +kernel
theorem dL_bestSwap_14 : decode cL_bestSwap 14 = .ok (.ireturn, 1) := by decide +kernel
theorem dL_bestSwap_15 : decode cL_bestSwap 15 = .ok (.iconst 0, 1) := by decide +kernel
theorem dL_bestSwap_16 : decode cL_bestSwap 16 = .ok (.ireturn, 1) := by decide +kernel
theorem dL_coin_0 : decode cL_coin 0 = .ok (.aload_n 2, 1) := by decide +kernel
theorem dL_coin_1 : decode cL_coin 1 = .ok (.iconst 0, 1) := by decide +kernel
theorem dL_coin_2 : decode cL_coin 2 = .ok (.aload_n 0, 1) := by decide +kernel
theorem dL_coin_3 : decode cL_coin 3 = .ok (.iload_n 1, 1) := by decide +kernel
theorem dL_coin_4 : decode cL_coin 4 = .ok (.invokevirtual 55, 3) := by decide +kernel
theorem dL_coin_7 : decode cL_coin 7 = .ok (.i2l, 1) := by decide +kernel
theorem dL_coin_8 : decode cL_coin 8 = .ok (.lastore, 1) := by decide +kernel
theorem dL_coin_9 : decode cL_coin 9 = .ok (.goto 9, 3) := by decide +kernel
theorem dL_coin_12 : decode cL_coin 12 = .ok (.astore_n 3, 1) := by decide +kernel
theorem dL_coin_13 : decode cL_coin 13 = .ok (.iconst 1, 1) := by decide +kernel
theorem dL_coin_14 : decode cL_coin 14 = .ok (.ireturn, 1) := by decide +kernel
theorem dL_coin_15 : decode cL_coin 15 = .ok (.astore_n 3, 1) := by decide +kernel
theorem dL_coin_16 : decode cL_coin 16 = .ok (.iconst 2, 1) := by decide +kernel
theorem dL_coin_17 : decode cL_coin 17 = .ok (.ireturn, 1) := by decide +kernel
theorem dL_coin_18 : decode cL_coin 18 = .ok (.iconst 0, 1) := by decide +kernel
theorem dL_coin_19 : decode cL_coin 19 = .ok (.ireturn, 1) := by decide +kernel
theorem dL_takeCoin_0 : decode cL_takeCoin 0 = .ok (.aload_n 2, 1) := by decide +kernel
theorem dL_takeCoin_1 : decode cL_takeCoin 1 = .ok (.iconst 0, 1) := by decide +kernel
theorem dL_takeCoin_2 : decode cL_takeCoin 2 = .ok (.aload_n 0, 1) := by decide +kernel
theorem dL_takeCoin_3 : decode cL_takeCoin 3 = .ok (.iload_n 1, 1) := by decide +kernel
theorem dL_takeCoin_4 : decode cL_takeCoin 4 = .ok (.invokevirtual 58, 3) := by decide +kernel
theorem dL_takeCoin_7 : decode cL_takeCoin 7 = .ok (.i2l, 1) := by decide +kernel
theorem dL_takeCoin_8 : decode cL_takeCoin 8 = .ok (.lastore, 1) := by decide +kernel
theorem dL_takeCoin_9 : decode cL_takeCoin 9 = .ok (.goto 9, 3) := by decide +kernel
theorem dL_takeCoin_12 : decode cL_takeCoin 12 = .ok (.astore_n 3, 1) := by decide +kernel
theorem dL_takeCoin_13 : decode cL_takeCoin 13 = .ok (.iconst 1, 1) := by decide +kernel
theorem dL_takeCoin_14 : decode cL_takeCoin 14 = .ok (.ireturn, 1) := by decide +kernel
theorem dL_takeCoin_15 : decode cL_takeCoin 15 = .ok (.astore_n 3, 1) := by decide +kernel
theorem dL_takeCoin_16 : decode cL_takeCoin 16 = .ok (.iconst 2, 1) := by decide +kernel
theorem dL_takeCoin_17 : decode cL_takeCoin 17 = .ok (.ireturn, 1) := by decide +kernel
theorem dL_takeCoin_18 : decode cL_takeCoin 18 = .ok (.iconst 0, 1) := by decide +kernel
theorem dL_takeCoin_19 : decode cL_takeCoin 19 = .ok (.ireturn, 1) := by decide +kernel
theorem dL_tilt_0 : decode cL_tilt 0 = .ok (.aload_n 2, 1) := by decide +kernel
theorem dL_tilt_1 : decode cL_tilt 1 = .ok (.iconst 0, 1) := by decide +kernel
theorem dL_tilt_2 : decode cL_tilt 2 = .ok (.aload_n 0, 1) := by decide +kernel
theorem dL_tilt_3 : decode cL_tilt 3 = .ok (.iload_n 1, 1) := by decide +kernel
theorem dL_tilt_4 : decode cL_tilt 4 = .ok (.invokevirtual 61, 3) := by decide +kernel
theorem dL_tilt_7 : decode cL_tilt 7 = .ok (.f2d, 1) := by decide +kernel
theorem dL_tilt_8 : decode cL_tilt 8 = .ok (.dastore, 1) := by decide +kernel
theorem dL_tilt_9 : decode cL_tilt 9 = .ok (.goto 6, 3) := by decide +kernel
theorem dL_tilt_12 : decode cL_tilt 12 = .ok (.astore_n 3, 1) := by decide +kernel
theorem dL_tilt_13 : decode cL_tilt 13 = .ok (.iconst 1, 1) := by decide +kernel
theorem dL_tilt_14 : decode cL_tilt 14 = .ok (.ireturn, 1) := by decide +kernel
theorem dL_tilt_15 : decode cL_tilt 15 = .ok (.iconst 0, 1) := by decide +kernel
theorem dL_tilt_16 : decode cL_tilt 16 = .ok (.ireturn, 1) := by decide +kernel
theorem dL_tiltBits_0 : decode cL_tiltBits 0 = .ok (.aload_n 2, 1) := by decide +kernel
theorem dL_tiltBits_1 : decode cL_tiltBits 1 = .ok (.iconst 0, 1) := by decide +kernel
theorem dL_tiltBits_2 : decode cL_tiltBits 2 = .ok (.aload_n 0, 1) := by decide +kernel
theorem dL_tiltBits_3 : decode cL_tiltBits 3 = .ok (.iload_n 1, 1) := by decide +kernel
theorem dL_tiltBits_4 : decode cL_tiltBits 4 = .ok (.invokevirtual 65, 3) := by decide +kernel
theorem dL_tiltBits_7 : decode cL_tiltBits 7 = .ok (.i2l, 1) := by decide +kernel
theorem dL_tiltBits_8 : decode cL_tiltBits 8 = .ok (.lastore, 1) := by decide +kernel
theorem dL_tiltBits_9 : decode cL_tiltBits 9 = .ok (.goto 6, 3) := by decide +kernel
theorem dL_tiltBits_12 : decode cL_tiltBits 12 = .ok (.astore_n 3, 1) := by decide +kernel
theorem dL_tiltBits_13 : decode cL_tiltBits 13 = .ok (.iconst 1, 1) := by decide +kernel
theorem dL_tiltBits_14 : decode cL_tiltBits 14 = .ok (.ireturn, 1) := by decide +kernel
theorem dL_tiltBits_15 : decode cL_tiltBits 15 = .ok (.iconst 0, 1) := by decide +kernel
theorem dL_tiltBits_16 : decode cL_tiltBits 16 = .ok (.ireturn, 1) := by decide +kernel
theorem dL_plusTilt_0 : decode cL_plusTilt 0 = .ok (.aload_n 3, 1) := by decide +kernel
theorem dL_plusTilt_1 : decode cL_plusTilt 1 = .ok (.iconst 0, 1) := by decide +kernel
theorem dL_plusTilt_2 : decode cL_plusTilt 2 = .ok (.aload_n 0, 1) := by decide +kernel
theorem dL_plusTilt_3 : decode cL_plusTilt 3 = .ok (.iload_n 1, 1) := by decide +kernel
theorem dL_plusTilt_4 : decode cL_plusTilt 4 = .ok (.iload_n 2, 1) := by decide +kernel
theorem dL_plusTilt_5 : decode cL_plusTilt 5 = .ok (.invokevirtual 68, 3) := by decide +kernel
theorem dL_plusTilt_8 : decode cL_plusTilt 8 = .ok (.i2l, 1) := by decide +kernel
theorem dL_plusTilt_9 : decode cL_plusTilt 9 = .ok (.lastore, 1) := by decide +kernel
theorem dL_plusTilt_10 : decode cL_plusTilt 10 = .ok (.goto 11, 3) := by decide +kernel
theorem dL_plusTilt_13 : decode cL_plusTilt 13 = .ok (.astore 4, 2) := by decide +kernel
theorem dL_plusTilt_15 : decode cL_plusTilt 15 = .ok (.iconst 1, 1) := by decide +kernel
theorem dL_plusTilt_16 : decode cL_plusTilt 16 = .ok (.ireturn, 1) := by decide +kernel
theorem dL_plusTilt_17 : decode cL_plusTilt 17 = .ok (.astore 4, 2) := by decide +kernel
theorem dL_plusTilt_19 : decode cL_plusTilt 19 = .ok (.iconst 2, 1) := by decide +kernel
theorem dL_plusTilt_20 : decode cL_plusTilt 20 = .ok (.ireturn, 1) := by decide +kernel
theorem dL_plusTilt_21 : decode cL_plusTilt 21 = .ok (.iconst 0, 1) := by decide +kernel
theorem dL_plusTilt_22 : decode cL_plusTilt 22 = .ok (.ireturn, 1) := by decide +kernel
theorem dL_noiseOf_0 : decode cL_noiseOf 0 = .ok (.aload_n 2, 1) := by decide +kernel
theorem dL_noiseOf_1 : decode cL_noiseOf 1 = .ok (.iconst 0, 1) := by decide +kernel
theorem dL_noiseOf_2 : decode cL_noiseOf 2 = .ok (.aload_n 0, 1) := by decide +kernel
theorem dL_noiseOf_3 : decode cL_noiseOf 3 = .ok (.iload_n 1, 1) := by decide +kernel
theorem dL_noiseOf_4 : decode cL_noiseOf 4 = .ok (.invokevirtual 71, 3) := by decide +kernel
theorem dL_noiseOf_7 : decode cL_noiseOf 7 = .ok (.f2d, 1) := by decide +kernel
theorem dL_noiseOf_8 : decode cL_noiseOf 8 = .ok (.dastore, 1) := by decide +kernel
theorem dL_noiseOf_9 : decode cL_noiseOf 9 = .ok (.goto 6, 3) := by decide +kernel
theorem dL_noiseOf_12 : decode cL_noiseOf 12 = .ok (.astore_n 3, 1) := by decide +kernel
theorem dL_noiseOf_13 : decode cL_noiseOf 13 = .ok (.iconst 1, 1) := by decide +kernel
theorem dL_noiseOf_14 : decode cL_noiseOf 14 = .ok (.ireturn, 1) := by decide +kernel
theorem dL_noiseOf_15 : decode cL_noiseOf 15 = .ok (.iconst 0, 1) := by decide +kernel
theorem dL_noiseOf_16 : decode cL_noiseOf 16 = .ok (.ireturn, 1) := by decide +kernel
theorem dL_tilted_0 : decode cL_tilted 0 = .ok (.aload_n 2, 1) := by decide +kernel
theorem dL_tilted_1 : decode cL_tilted 1 = .ok (.iconst 0, 1) := by decide +kernel
theorem dL_tilted_2 : decode cL_tilted 2 = .ok (.aload_n 0, 1) := by decide +kernel
theorem dL_tilted_3 : decode cL_tilted 3 = .ok (.iload_n 1, 1) := by decide +kernel
theorem dL_tilted_4 : decode cL_tilted 4 = .ok (.invokevirtual 74, 3) := by decide +kernel
theorem dL_tilted_7 : decode cL_tilted 7 = .ok (.i2l, 1) := by decide +kernel
theorem dL_tilted_8 : decode cL_tilted 8 = .ok (.lastore, 1) := by decide +kernel
theorem dL_tilted_9 : decode cL_tilted 9 = .ok (.goto 6, 3) := by decide +kernel
theorem dL_tilted_12 : decode cL_tilted 12 = .ok (.astore_n 3, 1) := by decide +kernel
theorem dL_tilted_13 : decode cL_tilted 13 = .ok (.iconst 1, 1) := by decide +kernel
theorem dL_tilted_14 : decode cL_tilted 14 = .ok (.ireturn, 1) := by decide +kernel
theorem dL_tilted_15 : decode cL_tilted 15 = .ok (.iconst 0, 1) := by decide +kernel
theorem dL_tilted_16 : decode cL_tilted 16 = .ok (.ireturn, 1) := by decide +kernel
theorem dL_ranked_0 : decode cL_ranked 0 = .ok (.aload_n 2, 1) := by decide +kernel
theorem dL_ranked_1 : decode cL_ranked 1 = .ok (.iconst 0, 1) := by decide +kernel
theorem dL_ranked_2 : decode cL_ranked 2 = .ok (.aload_n 0, 1) := by decide +kernel
theorem dL_ranked_3 : decode cL_ranked 3 = .ok (.iload_n 1, 1) := by decide +kernel
theorem dL_ranked_4 : decode cL_ranked 4 = .ok (.invokevirtual 77, 3) := by decide +kernel
theorem dL_ranked_7 : decode cL_ranked 7 = .ok (.i2l, 1) := by decide +kernel
theorem dL_ranked_8 : decode cL_ranked 8 = .ok (.lastore, 1) := by decide +kernel
theorem dL_ranked_9 : decode cL_ranked 9 = .ok (.goto 6, 3) := by decide +kernel
theorem dL_ranked_12 : decode cL_ranked 12 = .ok (.astore_n 3, 1) := by decide +kernel
theorem dL_ranked_13 : decode cL_ranked 13 = .ok (.iconst 1, 1) := by decide +kernel
theorem dL_ranked_14 : decode cL_ranked 14 = .ok (.ireturn, 1) := by decide +kernel
theorem dL_ranked_15 : decode cL_ranked 15 = .ok (.iconst 0, 1) := by decide +kernel
theorem dL_ranked_16 : decode cL_ranked 16 = .ok (.ireturn, 1) := by decide +kernel
theorem dL_stoolLine_0 : decode cL_stoolLine 0 = .ok (.aload_n 2, 1) := by decide +kernel
theorem dL_stoolLine_1 : decode cL_stoolLine 1 = .ok (.iconst 0, 1) := by decide +kernel
theorem dL_stoolLine_2 : decode cL_stoolLine 2 = .ok (.aload_n 0, 1) := by decide +kernel
theorem dL_stoolLine_3 : decode cL_stoolLine 3 = .ok (.iload_n 1, 1) := by decide +kernel
theorem dL_stoolLine_4 : decode cL_stoolLine 4 = .ok (.invokevirtual 80, 3) := by decide +kernel
theorem dL_stoolLine_7 : decode cL_stoolLine 7 = .ok (.i2l, 1) := by decide +kernel
theorem dL_stoolLine_8 : decode cL_stoolLine 8 = .ok (.lastore, 1) := by decide +kernel
theorem dL_stoolLine_9 : decode cL_stoolLine 9 = .ok (.goto 6, 3) := by decide +kernel
theorem dL_stoolLine_12 : decode cL_stoolLine 12 = .ok (.astore_n 3, 1) := by decide +kernel
theorem dL_stoolLine_13 : decode cL_stoolLine 13 = .ok (.iconst 1, 1) := by decide +kernel
theorem dL_stoolLine_14 : decode cL_stoolLine 14 = .ok (.ireturn, 1) := by decide +kernel
theorem dL_stoolLine_15 : decode cL_stoolLine 15 = .ok (.iconst 0, 1) := by decide +kernel
theorem dL_stoolLine_16 : decode cL_stoolLine 16 = .ok (.ireturn, 1) := by decide +kernel
theorem dL_character_0 : decode cL_character 0 = .ok (.aload_n 2, 1) := by decide +kernel
theorem dL_character_1 : decode cL_character 1 = .ok (.iconst 0, 1) := by decide +kernel
theorem dL_character_2 : decode cL_character 2 = .ok (.aload_n 0, 1) := by decide +kernel
theorem dL_character_3 : decode cL_character 3 = .ok (.iload_n 1, 1) := by decide +kernel
theorem dL_character_4 : decode cL_character 4 = .ok (.invokevirtual 83, 3) := by decide +kernel
theorem dL_character_7 : decode cL_character 7 = .ok (.i2l, 1) := by decide +kernel
theorem dL_character_8 : decode cL_character 8 = .ok (.lastore, 1) := by decide +kernel
theorem dL_character_9 : decode cL_character 9 = .ok (.goto 6, 3) := by decide +kernel
theorem dL_character_12 : decode cL_character 12 = .ok (.astore_n 3, 1) := by decide +kernel
theorem dL_character_13 : decode cL_character 13 = .ok (.iconst 1, 1) := by decide +kernel
theorem dL_character_14 : decode cL_character 14 = .ok (.ireturn, 1) := by decide +kernel
theorem dL_character_15 : decode cL_character 15 = .ok (.iconst 0, 1) := by decide +kernel
theorem dL_character_16 : decode cL_character 16 = .ok (.ireturn, 1) := by decide +kernel
theorem dL_append_0 : decode cL_append 0 = .ok (.aload_n 2, 1) := by decide +kernel
theorem dL_append_1 : decode cL_append 1 = .ok (.iconst 0, 1) := by decide +kernel
theorem dL_append_2 : decode cL_append 2 = .ok (.aload_n 0, 1) := by decide +kernel
theorem dL_append_3 : decode cL_append 3 = .ok (.iload_n 1, 1) := by decide +kernel
theorem dL_append_4 : decode cL_append 4 = .ok (.invokevirtual 87, 3) := by decide +kernel
theorem dL_append_7 : decode cL_append 7 = .ok (.i2l, 1) := by decide +kernel
theorem dL_append_8 : decode cL_append 8 = .ok (.lastore, 1) := by decide +kernel
theorem dL_append_9 : decode cL_append 9 = .ok (.goto 6, 3) := by decide +kernel
theorem dL_append_12 : decode cL_append 12 = .ok (.astore_n 3, 1) := by decide +kernel
theorem dL_append_13 : decode cL_append 13 = .ok (.iconst 1, 1) := by decide +kernel
theorem dL_append_14 : decode cL_append 14 = .ok (.ireturn, 1) := by decide +kernel
theorem dL_append_15 : decode cL_append 15 = .ok (.iconst 0, 1) := by decide +kernel
theorem dL_append_16 : decode cL_append 16 = .ok (.ireturn, 1) := by decide +kernel
theorem dL_run_0 : decode cL_run 0 = .ok (.aload_n 1, 1) := by decide +kernel
theorem dL_run_1 : decode cL_run 1 = .ok (.iconst 0, 1) := by decide +kernel
theorem dL_run_2 : decode cL_run 2 = .ok (.aload_n 0, 1) := by decide +kernel
theorem dL_run_3 : decode cL_run 3 = .ok (.invokevirtual 93, 3) := by decide +kernel
theorem dL_run_6 : decode cL_run 6 = .ok (.i2l, 1) := by decide +kernel
theorem dL_run_7 : decode cL_run 7 = .ok (.lastore, 1) := by decide +kernel
theorem dL_run_8 : decode cL_run 8 = .ok (.goto 9, 3) := by decide +kernel
theorem dL_run_11 : decode cL_run 11 = .ok (.astore_n 2, 1) := by decide +kernel
theorem dL_run_12 : decode cL_run 12 = .ok (.iconst 1, 1) := by decide +kernel
theorem dL_run_13 : decode cL_run 13 = .ok (.ireturn, 1) := by decide +kernel
theorem dL_run_14 : decode cL_run 14 = .ok (.astore_n 2, 1) := by decide +kernel
theorem dL_run_15 : decode cL_run 15 = .ok (.iconst 2, 1) := by decide +kernel
theorem dL_run_16 : decode cL_run 16 = .ok (.ireturn, 1) := by decide +kernel
theorem dL_run_17 : decode cL_run 17 = .ok (.iconst 0, 1) := by decide +kernel
theorem dL_run_18 : decode cL_run 18 = .ok (.ireturn, 1) := by decide +kernel
theorem dL_refusal_0 : decode cL_refusal 0 = .ok (.aload_n 2, 1) := by decide +kernel
theorem dL_refusal_1 : decode cL_refusal 1 = .ok (.iconst 0, 1) := by decide +kernel
theorem dL_refusal_2 : decode cL_refusal 2 = .ok (.aload_n 0, 1) := by decide +kernel
theorem dL_refusal_3 : decode cL_refusal 3 = .ok (.iload_n 1, 1) := by decide +kernel
theorem dL_refusal_4 : decode cL_refusal 4 = .ok (.invokevirtual 97, 3) := by decide +kernel
theorem dL_refusal_7 : decode cL_refusal 7 = .ok (.i2l, 1) := by decide +kernel
theorem dL_refusal_8 : decode cL_refusal 8 = .ok (.lastore, 1) := by decide +kernel
theorem dL_refusal_9 : decode cL_refusal 9 = .ok (.goto 6, 3) := by decide +kernel
theorem dL_refusal_12 : decode cL_refusal 12 = .ok (.astore_n 3, 1) := by decide +kernel
theorem dL_refusal_13 : decode cL_refusal 13 = .ok (.iconst 1, 1) := by decide +kernel
theorem dL_refusal_14 : decode cL_refusal 14 = .ok (.ireturn, 1) := by decide +kernel
theorem dL_refusal_15 : decode cL_refusal 15 = .ok (.iconst 0, 1) := by decide +kernel
theorem dL_refusal_16 : decode cL_refusal 16 = .ok (.ireturn, 1) := by decide +kernel
theorem dL_account_0 : decode cL_account 0 = .ok (.aload_n 2, 1) := by decide +kernel
theorem dL_account_1 : decode cL_account 1 = .ok (.iconst 0, 1) := by decide +kernel
theorem dL_account_2 : decode cL_account 2 = .ok (.aload_n 0, 1) := by decide +kernel
theorem dL_account_3 : decode cL_account 3 = .ok (.iload_n 1, 1) := by decide +kernel
theorem dL_account_4 : decode cL_account 4 = .ok (.invokevirtual 100, 3) := by decide +kernel
theorem dL_account_7 : decode cL_account 7 = .ok (.i2l, 1) := by decide +kernel
theorem dL_account_8 : decode cL_account 8 = .ok (.lastore, 1) := by decide +kernel
theorem dL_account_9 : decode cL_account 9 = .ok (.goto 6, 3) := by decide +kernel
theorem dL_account_12 : decode cL_account 12 = .ok (.astore_n 3, 1) := by decide +kernel
theorem dL_account_13 : decode cL_account 13 = .ok (.iconst 1, 1) := by decide +kernel
theorem dL_account_14 : decode cL_account 14 = .ok (.ireturn, 1) := by decide +kernel
theorem dL_account_15 : decode cL_account 15 = .ok (.iconst 0, 1) := by decide +kernel
theorem dL_account_16 : decode cL_account 16 = .ok (.ireturn, 1) := by decide +kernel
theorem dL_meanHeight_0 : decode cL_meanHeight 0 = .ok (.aload_n 1, 1) := by decide +kernel
theorem dL_meanHeight_1 : decode cL_meanHeight 1 = .ok (.iconst 0, 1) := by decide +kernel
theorem dL_meanHeight_2 : decode cL_meanHeight 2 = .ok (.aload_n 0, 1) := by decide +kernel
theorem dL_meanHeight_3 : decode cL_meanHeight 3 = .ok (.invokevirtual 103, 3) := by decide +kernel
theorem dL_meanHeight_6 : decode cL_meanHeight 6 = .ok (.dastore, 1) := by decide +kernel
theorem dL_meanHeight_7 : decode cL_meanHeight 7 = .ok (.goto 6, 3) := by decide +kernel
theorem dL_meanHeight_10 : decode cL_meanHeight 10 = .ok (.astore_n 2, 1) := by decide +kernel
theorem dL_meanHeight_11 : decode cL_meanHeight 11 = .ok (.iconst 1, 1) := by decide +kernel
theorem dL_meanHeight_12 : decode cL_meanHeight 12 = .ok (.ireturn, 1) := by decide +kernel
theorem dL_meanHeight_13 : decode cL_meanHeight 13 = .ok (.iconst 0, 1) := by decide +kernel
theorem dL_meanHeight_14 : decode cL_meanHeight 14 = .ok (.ireturn, 1) := by decide +kernel
theorem dL_undo_0 : decode cL_undo 0 = .ok (.aload_n 1, 1) := by decide +kernel
theorem dL_undo_1 : decode cL_undo 1 = .ok (.iconst 0, 1) := by decide +kernel
theorem dL_undo_2 : decode cL_undo 2 = .ok (.aload_n 0, 1) := by decide +kernel
theorem dL_undo_3 : decode cL_undo 3 = .ok (.invokevirtual 109, 3) := by decide +kernel
theorem dL_undo_6 : decode cL_undo 6 = .ok (.i2l, 1) := by decide +kernel
theorem dL_undo_7 : decode cL_undo 7 = .ok (.lastore, 1) := by decide +kernel
theorem dL_undo_8 : decode cL_undo 8 = .ok (.goto 6, 3) := by decide +kernel
theorem dL_undo_11 : decode cL_undo 11 = .ok (.astore_n 2, 1) := by decide +kernel
theorem dL_undo_12 : decode cL_undo 12 = .ok (.iconst 1, 1) := by decide +kernel
theorem dL_undo_13 : decode cL_undo 13 = .ok (.ireturn, 1) := by decide +kernel
theorem dL_undo_14 : decode cL_undo 14 = .ok (.iconst 0, 1) := by decide +kernel
theorem dL_undo_15 : decode cL_undo 15 = .ok (.ireturn, 1) := by decide +kernel
theorem dL_restore_0 : decode cL_restore 0 = .ok (.aload_n 1, 1) := by decide +kernel
theorem dL_restore_1 : decode cL_restore 1 = .ok (.iconst 0, 1) := by decide +kernel
theorem dL_restore_2 : decode cL_restore 2 = .ok (.aload_n 0, 1) := by decide +kernel
theorem dL_restore_3 : decode cL_restore 3 = .ok (.invokevirtual 112, 3) := by decide +kernel
theorem dL_restore_6 : decode cL_restore 6 = .ok (.i2l, 1) := by decide +kernel
theorem dL_restore_7 : decode cL_restore 7 = .ok (.lastore, 1) := by decide +kernel
theorem dL_restore_8 : decode cL_restore 8 = .ok (.goto 6, 3) := by decide +kernel
theorem dL_restore_11 : decode cL_restore 11 = .ok (.astore_n 2, 1) := by decide +kernel
theorem dL_restore_12 : decode cL_restore 12 = .ok (.iconst 1, 1) := by decide +kernel
theorem dL_restore_13 : decode cL_restore 13 = .ok (.ireturn, 1) := by decide +kernel
theorem dL_restore_14 : decode cL_restore 14 = .ok (.iconst 0, 1) := by decide +kernel
theorem dL_restore_15 : decode cL_restore 15 = .ok (.ireturn, 1) := by decide +kernel
