theorem dX0_toBits_0 : decode cX0_toBits 0 = .ok (.fload_n 0, 1) := by decide +kernel
theorem dX0_toBits_1 : decode cX0_toBits 1 = .ok (.fconst 0, 1) := by decide +kernel
theorem dX0_toBits_2 : decode cX0_toBits 2 = .ok (.fcmp .l, 1) := by decide +kernel
theorem dX0_toBits_3 : decode cX0_toBits 3 = .ok (.ifCond .gt 5, 3) := by decide +kernel
theorem dX0_toBits_6 : decode cX0_toBits 6 = .ok (.iconst 0, 1) := by decide +kernel
theorem dX0_toBits_7 : decode cX0_toBits 7 = .ok (.ireturn, 1) := by decide +kernel
theorem dX0_toBits_8 : decode cX0_toBits 8 = .ok (.fload_n 0, 1) := by decide +kernel
theorem dX0_toBits_9 : decode cX0_toBits 9 = .ok (.f2d, 1) := by decide +kernel
theorem dX0_toBits_10 : decode cX0_toBits 10 = .ok (.dstore_n 1, 1) := by decide +kernel
theorem dX0_toBits_11 : decode cX0_toBits 11 = .ok (.bipush 127, 2) := by decide +kernel
theorem dX0_toBits_13 : decode cX0_toBits 13 = .ok (.istore_n 3, 1) := by decide +kernel
theorem dX0_toBits_14 : decode cX0_toBits 14 = .ok (.dload_n 1, 1) := by decide +kernel
theorem dX0_toBits_15 : decode cX0_toBits 15 = .ok (.ldc2_w 9, 3) := by decide +kernel
theorem dX0_toBits_18 : decode cX0_toBits 18 = .ok (.dcmp .l, 1) := by decide +kernel
theorem dX0_toBits_19 : decode cX0_toBits 19 = .ok (.ifCond .lt 22, 3) := by decide +kernel
theorem dX0_toBits_22 : decode cX0_toBits 22 = .ok (.iload_n 3, 1) := by decide +kernel
theorem dX0_toBits_23 : decode cX0_toBits 23 = .ok (.sipush 254, 3) := by decide +kernel
theorem dX0_toBits_26 : decode cX0_toBits 26 = .ok (.if_icmp .ge 15, 3) := by decide +kernel
theorem dX0_toBits_29 : decode cX0_toBits 29 = .ok (.dload_n 1, 1) := by decide +kernel
theorem dX0_toBits_30 : decode cX0_toBits 30 = .ok (.ldc2_w 9, 3) := by decide +kernel
theorem dX0_toBits_33 : decode cX0_toBits 33 = .ok (.ddiv, 1) := by decide +kernel
theorem dX0_toBits_34 : decode cX0_toBits 34 = .ok (.dstore_n 1, 1) := by decide +kernel
theorem dX0_toBits_35 : decode cX0_toBits 35 = .ok (.iinc 3 1, 3) := by decide +kernel
theorem dX0_toBits_38 : decode cX0_toBits 38 = .ok (.goto (-24), 3) := by decide +kernel
theorem dX0_toBits_41 : decode cX0_toBits 41 = .ok (.dload_n 1, 1) := by decide +kernel
theorem dX0_toBits_42 : decode cX0_toBits 42 = .ok (.dconst 1, 1) := by decide +kernel
theorem dX0_toBits_43 : decode cX0_toBits 43 = .ok (.dcmp .g, 1) := by decide +kernel
theorem dX0_toBits_44 : decode cX0_toBits 44 = .ok (.ifCond .ge 20, 3) := by decide +kernel
theorem dX0_toBits_47 : decode cX0_toBits 47 = .ok (.iload_n 3, 1) := by decide +kernel
theorem dX0_toBits_48 : decode cX0_toBits 48 = .ok (.iconst 1, 1) := by decide +kernel
theorem dX0_toBits_49 : decode cX0_toBits 49 = .ok (.if_icmp .le 15, 3) := by decide +kernel
theorem dX0_toBits_52 : decode cX0_toBits 52 = .ok (.dload_n 1, 1) := by decide +kernel
theorem dX0_toBits_53 : decode cX0_toBits 53 = .ok (.ldc2_w 9, 3) := by decide +kernel
theorem dX0_toBits_56 : decode cX0_toBits 56 = .ok (.dmul, 1) := by decide +kernel
theorem dX0_toBits_57 : decode cX0_toBits 57 = .ok (.dstore_n 1, 1) := by decide +kernel
theorem dX0_toBits_58 : decode cX0_toBits 58 = .ok (.iinc 3 (-1), 3) := by decide +kernel
theorem dX0_toBits_61 : decode cX0_toBits 61 = .ok (.goto (-20), 3) := by decide +kernel
theorem dX0_toBits_64 : decode cX0_toBits 64 = .ok (.iload_n 3, 1) := by decide +kernel
theorem dX0_toBits_65 : decode cX0_toBits 65 = .ok (.ldc 11, 2) := by decide +kernel
theorem dX0_toBits_67 : decode cX0_toBits 67 = .ok (.imul, 1) := by decide +kernel
theorem dX0_toBits_68 : decode cX0_toBits 68 = .ok (.dload_n 1, 1) := by decide +kernel
theorem dX0_toBits_69 : decode cX0_toBits 69 = .ok (.dconst 1, 1) := by decide +kernel
theorem dX0_toBits_70 : decode cX0_toBits 70 = .ok (.dsub, 1) := by decide +kernel
theorem dX0_toBits_71 : decode cX0_toBits 71 = .ok (.ldc2_w 12, 3) := by decide +kernel
theorem dX0_toBits_74 : decode cX0_toBits 74 = .ok (.dmul, 1) := by decide +kernel
theorem dX0_toBits_75 : decode cX0_toBits 75 = .ok (.d2i, 1) := by decide +kernel
theorem dX0_toBits_76 : decode cX0_toBits 76 = .ok (.iadd, 1) := by decide +kernel
theorem dX0_toBits_77 : decode cX0_toBits 77 = .ok (.ireturn, 1) := by decide +kernel
theorem dX0_fromBits_0 : decode cX0_fromBits 0 = .ok (.iload_n 0, 1) := by decide +kernel
theorem dX0_fromBits_1 : decode cX0_fromBits 1 = .ok (.bipush 23, 2) := by decide +kernel
theorem dX0_fromBits_3 : decode cX0_fromBits 3 = .ok (.iushr, 1) := by decide +kernel
theorem dX0_fromBits_4 : decode cX0_fromBits 4 = .ok (.istore_n 1, 1) := by decide +kernel
theorem dX0_fromBits_5 : decode cX0_fromBits 5 = .ok (.iload_n 0, 1) := by decide +kernel
theorem dX0_fromBits_6 : decode cX0_fromBits 6 = .ok (.ldc 14, 2) := by decide +kernel
theorem dX0_fromBits_8 : decode cX0_fromBits 8 = .ok (.iand, 1) := by decide +kernel
theorem dX0_fromBits_9 : decode cX0_fromBits 9 = .ok (.i2d, 1) := by decide +kernel
theorem dX0_fromBits_10 : decode cX0_fromBits 10 = .ok (.ldc2_w 12, 3) := by decide +kernel
theorem dX0_fromBits_13 : decode cX0_fromBits 13 = .ok (.ddiv, 1) := by decide +kernel
theorem dX0_fromBits_14 : decode cX0_fromBits 14 = .ok (.dstore_n 2, 1) := by decide +kernel
theorem dX0_fromBits_15 : decode cX0_fromBits 15 = .ok (.iload_n 1, 1) := by decide +kernel
theorem dX0_fromBits_16 : decode cX0_fromBits 16 = .ok (.iconst 1, 1) := by decide +kernel
theorem dX0_fromBits_17 : decode cX0_fromBits 17 = .ok (.if_icmp .lt 10, 3) := by decide +kernel
theorem dX0_fromBits_20 : decode cX0_fromBits 20 = .ok (.dload_n 2, 1) := by decide +kernel
theorem dX0_fromBits_21 : decode cX0_fromBits 21 = .ok (.dconst 1, 1) := by decide +kernel
theorem dX0_fromBits_22 : decode cX0_fromBits 22 = .ok (.dadd, 1) := by decide +kernel
theorem dX0_fromBits_23 : decode cX0_fromBits 23 = .ok (.dstore_n 2, 1) := by decide +kernel
theorem dX0_fromBits_24 : decode cX0_fromBits 24 = .ok (.goto 5, 3) := by decide +kernel
theorem dX0_fromBits_27 : decode cX0_fromBits 27 = .ok (.iconst 1, 1) := by decide +kernel
theorem dX0_fromBits_28 : decode cX0_fromBits 28 = .ok (.istore_n 1, 1) := by decide +kernel
theorem dX0_fromBits_29 : decode cX0_fromBits 29 = .ok (.iload_n 1, 1) := by decide +kernel
theorem dX0_fromBits_30 : decode cX0_fromBits 30 = .ok (.bipush 127, 2) := by decide +kernel
theorem dX0_fromBits_32 : decode cX0_fromBits 32 = .ok (.if_icmp .le 15, 3) := by decide +kernel
theorem dX0_fromBits_35 : decode cX0_fromBits 35 = .ok (.dload_n 2, 1) := by decide +kernel
theorem dX0_fromBits_36 : decode cX0_fromBits 36 = .ok (.ldc2_w 9, 3) := by decide +kernel
theorem dX0_fromBits_39 : decode cX0_fromBits 39 = .ok (.dmul, 1) := by decide +kernel
theorem dX0_fromBits_40 : decode cX0_fromBits 40 = .ok (.dstore_n 2, 1) := by decide +kernel
theorem dX0_fromBits_41 : decode cX0_fromBits 41 = .ok (.iinc 1 (-1), 3) := by decide +kernel
theorem dX0_fromBits_44 : decode cX0_fromBits 44 = .ok (.goto (-15), 3) := by decide +kernel
theorem dX0_fromBits_47 : decode cX0_fromBits 47 = .ok (.iload_n 1, 1) := by decide +kernel
theorem dX0_fromBits_48 : decode cX0_fromBits 48 = .ok (.bipush 127, 2) := by decide +kernel
theorem dX0_fromBits_50 : decode cX0_fromBits 50 = .ok (.if_icmp .ge 15, 3) := by decide +kernel
theorem dX0_fromBits_53 : decode cX0_fromBits 53 = .ok (.dload_n 2, 1) := by decide +kernel
theorem dX0_fromBits_54 : decode cX0_fromBits 54 = .ok (.ldc2_w 9, 3) := by decide +kernel
theorem dX0_fromBits_57 : decode cX0_fromBits 57 = .ok (.ddiv, 1) := by decide +kernel
theorem dX0_fromBits_58 : decode cX0_fromBits 58 = .ok (.dstore_n 2, 1) := by decide +kernel
theorem dX0_fromBits_59 : decode cX0_fromBits 59 = .ok (.iinc 1 1, 3) := by decide +kernel
theorem dX0_fromBits_62 : decode cX0_fromBits 62 = .ok (.goto (-15), 3) := by decide +kernel
theorem dX0_fromBits_65 : decode cX0_fromBits 65 = .ok (.dload_n 2, 1) := by decide +kernel
theorem dX0_fromBits_66 : decode cX0_fromBits 66 = .ok (.d2f, 1) := by decide +kernel
theorem dX0_fromBits_67 : decode cX0_fromBits 67 = .ok (.freturn, 1) := by decide +kernel
set_option maxRecDepth 20000 in
theorem ggX1_init_X3_init : GoodIn wsX1_init wsX3_init := goodIn_r _ [11, 12, 2, 3, 13, 14, 15, 16, 17, 18, 19, 20, 21, 25, 26, 27, 28, 29, 30, 31, 32] (by decide +kernel) (by decide +kernel)
set_option maxRecDepth 20000 in
theorem gX1_init_X3_init_n22 : GoodIn wsX1_init (wsX3_init) := ggX1_init_X3_init
theorem dX1_init_0 : decode cX1_init 0 = .ok (.aload_n 0, 1) := by decide +kernel
theorem dX1_init_1 : decode cX1_init 1 = .ok (.invokespecial 3, 3) := by decide +kernel
theorem dX1_init_4 : decode cX1_init 4 = .ok (.aload_n 0, 1) := by decide +kernel
theorem dX1_init_5 : decode cX1_init 5 = .ok (.bipush 9, 2) := by decide +kernel
theorem dX1_init_7 : decode cX1_init 7 = .ok (.anewarray 9, 3) := by decide +kernel
theorem dX1_init_10 : decode cX1_init 10 = .ok (.putfield 11, 3) := by decide +kernel
theorem dX1_init_13 : decode cX1_init 13 = .ok (.aload_n 0, 1) := by decide +kernel
theorem dX1_init_14 : decode cX1_init 14 = .ok (.iconst 0, 1) := by decide +kernel
theorem dX1_init_15 : decode cX1_init 15 = .ok (.putfield 15, 3) := by decide +kernel
theorem dX1_init_18 : decode cX1_init 18 = .ok (.aload_n 0, 1) := by decide +kernel
theorem dX1_init_19 : decode cX1_init 19 = .ok (.iconst 0, 1) := by decide +kernel
theorem dX1_init_20 : decode cX1_init 20 = .ok (.putfield 19, 3) := by decide +kernel
theorem dX1_init_23 : decode cX1_init 23 = .ok (.iconst 0, 1) := by decide +kernel
theorem dX1_init_24 : decode cX1_init 24 = .ok (.istore_n 1, 1) := by decide +kernel
theorem dX1_init_25 : decode cX1_init 25 = .ok (.iload_n 1, 1) := by decide +kernel
theorem dX1_init_26 : decode cX1_init 26 = .ok (.bipush 9, 2) := by decide +kernel
theorem dX1_init_28 : decode cX1_init 28 = .ok (.if_icmp .ge 22, 3) := by decide +kernel
theorem dX1_init_31 : decode cX1_init 31 = .ok (.aload_n 0, 1) := by decide +kernel
theorem dX1_init_32 : decode cX1_init 32 = .ok (.getfield 11, 3) := by decide +kernel
theorem dX1_init_35 : decode cX1_init 35 = .ok (.iload_n 1, 1) := by decide +kernel
theorem dX1_init_36 : decode cX1_init 36 = .ok (.new 9, 3) := by decide +kernel
theorem dX1_init_39 : decode cX1_init 39 = .ok (.dup, 1) := by decide +kernel
theorem dX1_init_40 : decode cX1_init 40 = .ok (.invokespecial 22, 3) := by decide +kernel
theorem dX1_init_43 : decode cX1_init 43 = .ok (.aastore, 1) := by decide +kernel
theorem dX1_init_44 : decode cX1_init 44 = .ok (.iinc 1 1, 3) := by decide +kernel
theorem dX1_init_47 : decode cX1_init 47 = .ok (.goto (-22), 3) := by decide +kernel
theorem dX1_init_50 : decode cX1_init 50 = .ok (.return_, 1) := by decide +kernel
set_option maxRecDepth 20000 in
theorem ggX1_prepare_J9_floorMod_7cf53 : GoodIn wsX1_prepare wsJ9_floorMod_7cf53 := goodIn_r _ [6] (by decide +kernel) (by decide +kernel)
set_option maxRecDepth 20000 in
theorem gX1_prepare_J9_floorMod_7cf53 : GoodIn wsX1_prepare (va_wsS RX1 23 yJ9_floorMod_7cf53 wsJ9_floorMod_7cf53) := goodIn_app (goodIn_of _ (by decide +kernel)) ggX1_prepare_J9_floorMod_7cf53
set_option maxRecDepth 20000 in
theorem ggX1_prepare_X3_copy : GoodIn wsX1_prepare wsX3_copy := goodIn_r _ [11, 12, 13, 14, 15, 16, 17, 18, 19, 20, 21, 22, 23, 24, 25, 26, 27, 31, 32, 33, 34, 35, 36, 37, 38] (by decide +kernel) (by decide +kernel)
set_option maxRecDepth 20000 in
theorem gX1_prepare_X3_copy : GoodIn wsX1_prepare (wsV RX1 29 RX3 yX3_copy wsX3_copy) := goodIn_app (goodIn_of _ (by decide +kernel)) ggX1_prepare_X3_copy
theorem dX1_prepare_0 : decode cX1_prepare 0 = .ok (.aload_n 0, 1) := by decide +kernel
theorem dX1_prepare_1 : decode cX1_prepare 1 = .ok (.getfield 11, 3) := by decide +kernel
theorem dX1_prepare_4 : decode cX1_prepare 4 = .ok (.aload_n 0, 1) := by decide +kernel
theorem dX1_prepare_5 : decode cX1_prepare 5 = .ok (.getfield 15, 3) := by decide +kernel
theorem dX1_prepare_8 : decode cX1_prepare 8 = .ok (.bipush 9, 2) := by decide +kernel
theorem dX1_prepare_10 : decode cX1_prepare 10 = .ok (.invokestatic 23, 3) := by decide +kernel
theorem dX1_prepare_13 : decode cX1_prepare 13 = .ok (.aaload, 1) := by decide +kernel
theorem dX1_prepare_14 : decode cX1_prepare 14 = .ok (.astore_n 2, 1) := by decide +kernel
theorem dX1_prepare_15 : decode cX1_prepare 15 = .ok (.aload_n 2, 1) := by decide +kernel
theorem dX1_prepare_16 : decode cX1_prepare 16 = .ok (.ifnull 8, 3) := by decide +kernel
theorem dX1_prepare_19 : decode cX1_prepare 19 = .ok (.aload_n 2, 1) := by decide +kernel
theorem dX1_prepare_20 : decode cX1_prepare 20 = .ok (.aload_n 1, 1) := by decide +kernel
theorem dX1_prepare_21 : decode cX1_prepare 21 = .ok (.invokevirtual 29, 3) := by decide +kernel
theorem dX1_prepare_24 : decode cX1_prepare 24 = .ok (.return_, 1) := by decide +kernel
set_option maxRecDepth 20000 in
theorem ggX1_takeBack_J9_floorMod_7cf53 : GoodIn wsX1_takeBack wsJ9_floorMod_7cf53 := goodIn_r _ [6] (by decide +kernel) (by decide +kernel)
set_option maxRecDepth 20000 in
theorem gX1_takeBack_J9_floorMod_7cf53 : GoodIn wsX1_takeBack (va_wsS RX1 23 yJ9_floorMod_7cf53 wsJ9_floorMod_7cf53) := goodIn_app (goodIn_of _ (by decide +kernel)) ggX1_takeBack_J9_floorMod_7cf53
set_option maxRecDepth 20000 in
theorem ggX1_takeBack_X3_copy : GoodIn wsX1_takeBack wsX3_copy := goodIn_r _ [11, 12, 13, 14, 15, 16, 17, 18, 19, 20, 21, 22, 23, 24, 25, 26, 27, 31, 32, 33, 34, 35, 36, 37, 38] (by decide +kernel) (by decide +kernel)
set_option maxRecDepth 20000 in
theorem gX1_takeBack_X3_copy : GoodIn wsX1_takeBack (wsV RX1 29 RX3 yX3_copy wsX3_copy) := goodIn_app (goodIn_of _ (by decide +kernel)) ggX1_takeBack_X3_copy
theorem dX1_takeBack_0 : decode cX1_takeBack 0 = .ok (.aload_n 0, 1) := by decide +kernel
theorem dX1_takeBack_1 : decode cX1_takeBack 1 = .ok (.getfield 11, 3) := by decide +kernel
theorem dX1_takeBack_4 : decode cX1_takeBack 4 = .ok (.aload_n 0, 1) := by decide +kernel
theorem dX1_takeBack_5 : decode cX1_takeBack 5 = .ok (.getfield 15, 3) := by decide +kernel
theorem dX1_takeBack_8 : decode cX1_takeBack 8 = .ok (.bipush 9, 2) := by decide +kernel
theorem dX1_takeBack_10 : decode cX1_takeBack 10 = .ok (.invokestatic 23, 3) := by decide +kernel
theorem dX1_takeBack_13 : decode cX1_takeBack 13 = .ok (.aaload, 1) := by decide +kernel
theorem dX1_takeBack_14 : decode cX1_takeBack 14 = .ok (.astore_n 2, 1) := by decide +kernel
theorem dX1_takeBack_15 : decode cX1_takeBack 15 = .ok (.aload_n 2, 1) := by decide +kernel
theorem dX1_takeBack_16 : decode cX1_takeBack 16 = .ok (.ifnull 8, 3) := by decide +kernel
theorem dX1_takeBack_19 : decode cX1_takeBack 19 = .ok (.aload_n 1, 1) := by decide +kernel
theorem dX1_takeBack_20 : decode cX1_takeBack 20 = .ok (.aload_n 2, 1) := by decide +kernel
theorem dX1_takeBack_21 : decode cX1_takeBack 21 = .ok (.invokevirtual 29, 3) := by decide +kernel
theorem dX1_takeBack_24 : decode cX1_takeBack 24 = .ok (.return_, 1) := by decide +kernel
theorem dX1_keep_0 : decode cX1_keep 0 = .ok (.aload_n 0, 1) := by decide +kernel
theorem dX1_keep_1 : decode cX1_keep 1 = .ok (.aload_n 0, 1) := by decide +kernel
theorem dX1_keep_2 : decode cX1_keep 2 = .ok (.getfield 15, 3) := by decide +kernel
theorem dX1_keep_5 : decode cX1_keep 5 = .ok (.iconst 1, 1) := by decide +kernel
theorem dX1_keep_6 : decode cX1_keep 6 = .ok (.iadd, 1) := by decide +kernel
theorem dX1_keep_7 : decode cX1_keep 7 = .ok (.bipush 9, 2) := by decide +kernel
theorem dX1_keep_9 : decode cX1_keep 9 = .ok (.irem, 1) := by decide +kernel
theorem dX1_keep_10 : decode cX1_keep 10 = .ok (.putfield 15, 3) := by decide +kernel
theorem dX1_keep_13 : decode cX1_keep 13 = .ok (.aload_n 0, 1) := by decide +kernel
theorem dX1_keep_14 : decode cX1_keep 14 = .ok (.bipush 8, 2) := by decide +kernel
theorem dX1_keep_16 : decode cX1_keep 16 = .ok (.aload_n 0, 1) := by decide +kernel
theorem dX1_keep_17 : decode cX1_keep 17 = .ok (.getfield 19, 3) := by decide +kernel
theorem dX1_keep_20 : decode cX1_keep 20 = .ok (.iconst 1, 1) := by decide +kernel
theorem dX1_keep_21 : decode cX1_keep 21 = .ok (.iadd, 1) := by decide +kernel
theorem dX1_keep_22 : decode cX1_keep 22 = .ok (.invokestatic 33, 3) := by decide +kernel
theorem dX1_keep_25 : decode cX1_keep 25 = .ok (.putfield 19, 3) := by decide +kernel
theorem dX1_keep_28 : decode cX1_keep 28 = .ok (.return_, 1) := by decide +kernel
set_option maxRecDepth 20000 in
theorem ggX1_stepBack_X1_takeBack : GoodIn wsX1_stepBack wsX1_takeBack := goodIn_r _ [7, 8, 1, 9, 10, 11, 12, 13, 14, 15, 16, 17, 18, 19, 20, 21, 22, 23, 24, 25, 26, 27, 28, 29, 30, 31, 32, 33, 34, 35, 36, 37, 38, 39, 40, 41, 42, 43, 44] (by decide +kernel) (by decide +kernel)
set_option maxRecDepth 20000 in
theorem gX1_stepBack_X1_takeBack : GoodIn wsX1_stepBack (wsV RX1 36 RX1 yX1_takeBack wsX1_takeBack) := goodIn_app (goodIn_of _ (by decide +kernel)) ggX1_stepBack_X1_takeBack
theorem dX1_stepBack_0 : decode cX1_stepBack 0 = .ok (.aload_n 0, 1) := by decide +kernel
theorem dX1_stepBack_1 : decode cX1_stepBack 1 = .ok (.aload_n 0, 1) := by decide +kernel
theorem dX1_stepBack_2 : decode cX1_stepBack 2 = .ok (.getfield 15, 3) := by decide +kernel
theorem dX1_stepBack_5 : decode cX1_stepBack 5 = .ok (.bipush 8, 2) := by decide +kernel
theorem dX1_stepBack_7 : decode cX1_stepBack 7 = .ok (.iadd, 1) := by decide +kernel
theorem dX1_stepBack_8 : decode cX1_stepBack 8 = .ok (.bipush 9, 2) := by decide +kernel
theorem dX1_stepBack_10 : decode cX1_stepBack 10 = .ok (.irem, 1) := by decide +kernel
theorem dX1_stepBack_11 : decode cX1_stepBack 11 = .ok (.putfield 15, 3) := by decide +kernel
theorem dX1_stepBack_14 : decode cX1_stepBack 14 = .ok (.aload_n 0, 1) := by decide +kernel
theorem dX1_stepBack_15 : decode cX1_stepBack 15 = .ok (.dup, 1) := by decide +kernel
theorem dX1_stepBack_16 : decode cX1_stepBack 16 = .ok (.getfield 19, 3) := by decide +kernel
theorem dX1_stepBack_19 : decode cX1_stepBack 19 = .ok (.iconst 1, 1) := by decide +kernel
theorem dX1_stepBack_20 : decode cX1_stepBack 20 = .ok (.isub, 1) := by decide +kernel
theorem dX1_stepBack_21 : decode cX1_stepBack 21 = .ok (.putfield 19, 3) := by decide +kernel
theorem dX1_stepBack_24 : decode cX1_stepBack 24 = .ok (.aload_n 0, 1) := by decide +kernel
theorem dX1_stepBack_25 : decode cX1_stepBack 25 = .ok (.aload_n 1, 1) := by decide +kernel
theorem dX1_stepBack_26 : decode cX1_stepBack 26 = .ok (.invokevirtual 36, 3) := by decide +kernel
theorem dX1_stepBack_29 : decode cX1_stepBack 29 = .ok (.return_, 1) := by decide +kernel
theorem dX1_forget_0 : decode cX1_forget 0 = .ok (.aload_n 0, 1) := by decide +kernel
theorem dX1_forget_1 : decode cX1_forget 1 = .ok (.iconst 0, 1) := by decide +kernel
theorem dX1_forget_2 : decode cX1_forget 2 = .ok (.putfield 19, 3) := by decide +kernel
theorem dX1_forget_5 : decode cX1_forget 5 = .ok (.return_, 1) := by decide +kernel
theorem dX2_init_0 : decode cX2_init 0 = .ok (.aload_n 0, 1) := by decide +kernel
theorem dX2_init_1 : decode cX2_init 1 = .ok (.invokespecial 1, 3) := by decide +kernel
theorem dX2_init_4 : decode cX2_init 4 = .ok (.aload_n 0, 1) := by decide +kernel
theorem dX2_init_5 : decode cX2_init 5 = .ok (.sipush 600, 3) := by decide +kernel
theorem dX2_init_8 : decode cX2_init 8 = .ok (.newarray .char, 2) := by decide +kernel
theorem dX2_init_10 : decode cX2_init 10 = .ok (.putfield 9, 3) := by decide +kernel
theorem dX2_init_13 : decode cX2_init 13 = .ok (.aload_n 0, 1) := by decide +kernel
theorem dX2_init_14 : decode cX2_init 14 = .ok (.iconst 0, 1) := by decide +kernel
theorem dX2_init_15 : decode cX2_init 15 = .ok (.putfield 13, 3) := by decide +kernel
theorem dX2_init_18 : decode cX2_init 18 = .ok (.return_, 1) := by decide +kernel
theorem dX2_clear_0 : decode cX2_clear 0 = .ok (.aload_n 0, 1) := by decide +kernel
theorem dX2_clear_1 : decode cX2_clear 1 = .ok (.iconst 0, 1) := by decide +kernel
theorem dX2_clear_2 : decode cX2_clear 2 = .ok (.putfield 13, 3) := by decide +kernel
theorem dX2_clear_5 : decode cX2_clear 5 = .ok (.return_, 1) := by decide +kernel
theorem dX2_add_0 : decode cX2_add 0 = .ok (.aload_n 0, 1) := by decide +kernel
theorem dX2_add_1 : decode cX2_add 1 = .ok (.getfield 13, 3) := by decide +kernel
theorem dX2_add_4 : decode cX2_add 4 = .ok (.ifCond .lt 33, 3) := by decide +kernel
theorem dX2_add_7 : decode cX2_add 7 = .ok (.aload_n 0, 1) := by decide +kernel
theorem dX2_add_8 : decode cX2_add 8 = .ok (.getfield 13, 3) := by decide +kernel
theorem dX2_add_11 : decode cX2_add 11 = .ok (.sipush 600, 3) := by decide +kernel
theorem dX2_add_14 : decode cX2_add 14 = .ok (.if_icmp .ge 23, 3) := by decide +kernel
theorem dX2_add_17 : decode cX2_add 17 = .ok (.aload_n 0, 1) := by decide +kernel
theorem dX2_add_18 : decode cX2_add 18 = .ok (.getfield 9, 3) := by decide +kernel
theorem dX2_add_21 : decode cX2_add 21 = .ok (.aload_n 0, 1) := by decide +kernel
theorem dX2_add_22 : decode cX2_add 22 = .ok (.getfield 13, 3) := by decide +kernel
theorem dX2_add_25 : decode cX2_add 25 = .ok (.iload_n 1, 1) := by decide +kernel
theorem dX2_add_26 : decode cX2_add 26 = .ok (.castore, 1) := by decide +kernel
theorem dX2_add_27 : decode cX2_add 27 = .ok (.aload_n 0, 1) := by decide +kernel
theorem dX2_add_28 : decode cX2_add 28 = .ok (.dup, 1) := by decide +kernel
theorem dX2_add_29 : decode cX2_add 29 = .ok (.getfield 13, 3) := by decide +kernel
theorem dX2_add_32 : decode cX2_add 32 = .ok (.iconst 1, 1) := by decide +kernel
theorem dX2_add_33 : decode cX2_add 33 = .ok (.iadd, 1) := by decide +kernel
theorem dX2_add_34 : decode cX2_add 34 = .ok (.putfield 13, 3) := by decide +kernel
theorem dX2_add_37 : decode cX2_add 37 = .ok (.return_, 1) := by decide +kernel
set_option maxRecDepth 20000 in
theorem ggX2_addTimes_X2_add : GoodIn wsX2_addTimes wsX2_add := goodIn_ca (goodIn_r _ [5, 6, 7, 8, 9] (by decide +kernel) (by decide +kernel)) (goodIn_sub (fun _ h => List.mem_cons_of_mem _ (List.mem_append_right _ h)) (by decide +kernel))
set_option maxRecDepth 20000 in
theorem gX2_addTimes_X2_add : GoodIn wsX2_addTimes (wsV RX2 17 RX2 yX2_add wsX2_add) := goodIn_app (goodIn_of _ (by decide +kernel)) ggX2_addTimes_X2_add
theorem dX2_addTimes_0 : decode cX2_addTimes 0 = .ok (.iconst 0, 1) := by decide +kernel
theorem dX2_addTimes_1 : decode cX2_addTimes 1 = .ok (.istore_n 3, 1) := by decide +kernel
theorem dX2_addTimes_2 : decode cX2_addTimes 2 = .ok (.iload_n 3, 1) := by decide +kernel
theorem dX2_addTimes_3 : decode cX2_addTimes 3 = .ok (.iload_n 2, 1) := by decide +kernel
theorem dX2_addTimes_4 : decode cX2_addTimes 4 = .ok (.if_icmp .ge 21, 3) := by decide +kernel
theorem dX2_addTimes_7 : decode cX2_addTimes 7 = .ok (.iload_n 3, 1) := by decide +kernel
theorem dX2_addTimes_8 : decode cX2_addTimes 8 = .ok (.sipush 600, 3) := by decide +kernel
theorem dX2_addTimes_11 : decode cX2_addTimes 11 = .ok (.if_icmp .ge 14, 3) := by decide +kernel
theorem dX2_addTimes_14 : decode cX2_addTimes 14 = .ok (.aload_n 0, 1) := by decide +kernel
theorem dX2_addTimes_15 : decode cX2_addTimes 15 = .ok (.iload_n 1, 1) := by decide +kernel
theorem dX2_addTimes_16 : decode cX2_addTimes 16 = .ok (.invokevirtual 17, 3) := by decide +kernel
theorem dX2_addTimes_19 : decode cX2_addTimes 19 = .ok (.iinc 3 1, 3) := by decide +kernel
theorem dX2_addTimes_22 : decode cX2_addTimes 22 = .ok (.goto (-20), 3) := by decide +kernel
theorem dX2_addTimes_25 : decode cX2_addTimes 25 = .ok (.return_, 1) := by decide +kernel
set_option maxRecDepth 20000 in
theorem ggX2_addNumber_X2_add : GoodIn wsX2_addNumber wsX2_add := goodIn_ca (goodIn_r _ [5, 6, 7, 8, 9] (by decide +kernel) (by decide +kernel)) (goodIn_sub (fun _ h => List.mem_cons_of_mem _ (List.mem_append_right _ h)) (by decide +kernel))
set_option maxRecDepth 20000 in
theorem gX2_addNumber_X2_add : GoodIn wsX2_addNumber (wsV RX2 17 RX2 yX2_add wsX2_add) := goodIn_app (goodIn_of _ (by decide +kernel)) ggX2_addNumber_X2_add
theorem dX2_addNumber_0 : decode cX2_addNumber 0 = .ok (.iload_n 1, 1) := by decide +kernel
theorem dX2_addNumber_1 : decode cX2_addNumber 1 = .ok (.bipush 9, 2) := by decide +kernel
theorem dX2_addNumber_3 : decode cX2_addNumber 3 = .ok (.if_icmp .le 15, 3) := by decide +kernel
theorem dX2_addNumber_6 : decode cX2_addNumber 6 = .ok (.aload_n 0, 1) := by decide +kernel
theorem dX2_addNumber_7 : decode cX2_addNumber 7 = .ok (.bipush 48, 2) := by decide +kernel
theorem dX2_addNumber_9 : decode cX2_addNumber 9 = .ok (.iload_n 1, 1) := by decide +kernel
theorem dX2_addNumber_10 : decode cX2_addNumber 10 = .ok (.bipush 10, 2) := by decide +kernel
theorem dX2_addNumber_12 : decode cX2_addNumber 12 = .ok (.idiv, 1) := by decide +kernel
theorem dX2_addNumber_13 : decode cX2_addNumber 13 = .ok (.iadd, 1) := by decide +kernel
theorem dX2_addNumber_14 : decode cX2_addNumber 14 = .ok (.i2c, 1) := by decide +kernel
theorem dX2_addNumber_15 : decode cX2_addNumber 15 = .ok (.invokevirtual 17, 3) := by decide +kernel
theorem dX2_addNumber_18 : decode cX2_addNumber 18 = .ok (.aload_n 0, 1) := by decide +kernel
theorem dX2_addNumber_19 : decode cX2_addNumber 19 = .ok (.bipush 48, 2) := by decide +kernel
theorem dX2_addNumber_21 : decode cX2_addNumber 21 = .ok (.iload_n 1, 1) := by decide +kernel
theorem dX2_addNumber_22 : decode cX2_addNumber 22 = .ok (.bipush 10, 2) := by decide +kernel
theorem dX2_addNumber_24 : decode cX2_addNumber 24 = .ok (.irem, 1) := by decide +kernel
theorem dX2_addNumber_25 : decode cX2_addNumber 25 = .ok (.iadd, 1) := by decide +kernel
theorem dX2_addNumber_26 : decode cX2_addNumber 26 = .ok (.i2c, 1) := by decide +kernel
theorem dX2_addNumber_27 : decode cX2_addNumber 27 = .ok (.invokevirtual 17, 3) := by decide +kernel
theorem dX2_addNumber_30 : decode cX2_addNumber 30 = .ok (.return_, 1) := by decide +kernel
theorem dX2_signAt_0 : decode cX2_signAt 0 = .ok (.iload_n 1, 1) := by decide +kernel
theorem dX2_signAt_1 : decode cX2_signAt 1 = .ok (.ifCond .lt 19, 3) := by decide +kernel
theorem dX2_signAt_4 : decode cX2_signAt 4 = .ok (.iload_n 1, 1) := by decide +kernel
theorem dX2_signAt_5 : decode cX2_signAt 5 = .ok (.sipush 600, 3) := by decide +kernel
theorem dX2_signAt_8 : decode cX2_signAt 8 = .ok (.if_icmp .ge 12, 3) := by decide +kernel
theorem dX2_signAt_11 : decode cX2_signAt 11 = .ok (.aload_n 0, 1) := by decide +kernel
theorem dX2_signAt_12 : decode cX2_signAt 12 = .ok (.getfield 9, 3) := by decide +kernel
theorem dX2_signAt_15 : decode cX2_signAt 15 = .ok (.iload_n 1, 1) := by decide +kernel
theorem dX2_signAt_16 : decode cX2_signAt 16 = .ok (.caload, 1) := by decide +kernel
theorem dX2_signAt_17 : decode cX2_signAt 17 = .ok (.goto 5, 3) := by decide +kernel
theorem dX2_signAt_20 : decode cX2_signAt 20 = .ok (.bipush 32, 2) := by decide +kernel
theorem dX2_signAt_22 : decode cX2_signAt 22 = .ok (.ireturn, 1) := by decide +kernel
theorem dX3_init_0 : decode cX3_init 0 = .ok (.aload_n 0, 1) := by decide +kernel
theorem dX3_init_1 : decode cX3_init 1 = .ok (.invokespecial 3, 3) := by decide +kernel
theorem dX3_init_4 : decode cX3_init 4 = .ok (.aload_n 0, 1) := by decide +kernel
theorem dX3_init_5 : decode cX3_init 5 = .ok (.bipush 72, 2) := by decide +kernel
theorem dX3_init_7 : decode cX3_init 7 = .ok (.newarray .int, 2) := by decide +kernel
theorem dX3_init_9 : decode cX3_init 9 = .ok (.putfield 11, 3) := by decide +kernel
theorem dX3_init_12 : decode cX3_init 12 = .ok (.aload_n 0, 1) := by decide +kernel
theorem dX3_init_13 : decode cX3_init 13 = .ok (.bipush 36, 2) := by decide +kernel
theorem dX3_init_15 : decode cX3_init 15 = .ok (.newarray .int, 2) := by decide +kernel
theorem dX3_init_17 : decode cX3_init 17 = .ok (.putfield 15, 3) := by decide +kernel
theorem dX3_init_20 : decode cX3_init 20 = .ok (.aload_n 0, 1) := by decide +kernel
theorem dX3_init_21 : decode cX3_init 21 = .ok (.iconst 0, 1) := by decide +kernel
theorem dX3_init_22 : decode cX3_init 22 = .ok (.putfield 18, 3) := by decide +kernel
theorem dX3_init_25 : decode cX3_init 25 = .ok (.aload_n 0, 1) := by decide +kernel
theorem dX3_init_26 : decode cX3_init 26 = .ok (.iconst 0, 1) := by decide +kernel
theorem dX3_init_27 : decode cX3_init 27 = .ok (.putfield 22, 3) := by decide +kernel
theorem dX3_init_30 : decode cX3_init 30 = .ok (.aload_n 0, 1) := by decide +kernel
theorem dX3_init_31 : decode cX3_init 31 = .ok (.bipush 6, 2) := by decide +kernel
theorem dX3_init_33 : decode cX3_init 33 = .ok (.putfield 25, 3) := by decide +kernel
theorem dX3_init_36 : decode cX3_init 36 = .ok (.aload_n 0, 1) := by decide +kernel
theorem dX3_init_37 : decode cX3_init 37 = .ok (.iconst 0, 1) := by decide +kernel
theorem dX3_init_38 : decode cX3_init 38 = .ok (.putfield 28, 3) := by decide +kernel
theorem dX3_init_41 : decode cX3_init 41 = .ok (.aload_n 0, 1) := by decide +kernel
theorem dX3_init_42 : decode cX3_init 42 = .ok (.iconst 0, 1) := by decide +kernel
theorem dX3_init_43 : decode cX3_init 43 = .ok (.putfield 31, 3) := by decide +kernel
theorem dX3_init_46 : decode cX3_init 46 = .ok (.aload_n 0, 1) := by decide +kernel
theorem dX3_init_47 : decode cX3_init 47 = .ok (.iconst 0, 1) := by decide +kernel
theorem dX3_init_48 : decode cX3_init 48 = .ok (.putfield 34, 3) := by decide +kernel
theorem dX3_init_51 : decode cX3_init 51 = .ok (.return_, 1) := by decide +kernel
theorem dX3_copy_0 : decode cX3_copy 0 = .ok (.aload_n 1, 1) := by decide +kernel
theorem dX3_copy_1 : decode cX3_copy 1 = .ok (.getfield 11, 3) := by decide +kernel
theorem dX3_copy_4 : decode cX3_copy 4 = .ok (.iconst 0, 1) := by decide +kernel
theorem dX3_copy_5 : decode cX3_copy 5 = .ok (.aload_n 0, 1) := by decide +kernel
theorem dX3_copy_6 : decode cX3_copy 6 = .ok (.getfield 11, 3) := by decide +kernel
theorem dX3_copy_9 : decode cX3_copy 9 = .ok (.iconst 0, 1) := by decide +kernel
theorem dX3_copy_10 : decode cX3_copy 10 = .ok (.aload_n 1, 1) := by decide +kernel
theorem dX3_copy_11 : decode cX3_copy 11 = .ok (.getfield 11, 3) := by decide +kernel
theorem dX3_copy_14 : decode cX3_copy 14 = .ok (.arraylength, 1) := by decide +kernel
theorem dX3_copy_15 : decode cX3_copy 15 = .ok (.aload_n 0, 1) := by decide +kernel
theorem dX3_copy_16 : decode cX3_copy 16 = .ok (.getfield 11, 3) := by decide +kernel
theorem dX3_copy_19 : decode cX3_copy 19 = .ok (.arraylength, 1) := by decide +kernel
theorem dX3_copy_20 : decode cX3_copy 20 = .ok (.invokestatic 37, 3) := by decide +kernel
theorem dX3_copy_23 : decode cX3_copy 23 = .ok (.invokestatic 43, 3) := by decide +kernel
theorem dX3_copy_26 : decode cX3_copy 26 = .ok (.aload_n 1, 1) := by decide +kernel
theorem dX3_copy_27 : decode cX3_copy 27 = .ok (.getfield 15, 3) := by decide +kernel
theorem dX3_copy_30 : decode cX3_copy 30 = .ok (.iconst 0, 1) := by decide +kernel
theorem dX3_copy_31 : decode cX3_copy 31 = .ok (.aload_n 0, 1) := by decide +kernel
theorem dX3_copy_32 : decode cX3_copy 32 = .ok (.getfield 15, 3) := by decide +kernel
theorem dX3_copy_35 : decode cX3_copy 35 = .ok (.iconst 0, 1) := by decide +kernel
theorem dX3_copy_36 : decode cX3_copy 36 = .ok (.aload_n 1, 1) := by decide +kernel
theorem dX3_copy_37 : decode cX3_copy 37 = .ok (.getfield 15, 3) := by decide +kernel
theorem dX3_copy_40 : decode cX3_copy 40 = .ok (.arraylength, 1) := by decide +kernel
theorem dX3_copy_41 : decode cX3_copy 41 = .ok (.aload_n 0, 1) := by decide +kernel
theorem dX3_copy_42 : decode cX3_copy 42 = .ok (.getfield 15, 3) := by decide +kernel
theorem dX3_copy_45 : decode cX3_copy 45 = .ok (.arraylength, 1) := by decide +kernel
theorem dX3_copy_46 : decode cX3_copy 46 = .ok (.invokestatic 37, 3) := by decide +kernel
theorem dX3_copy_49 : decode cX3_copy 49 = .ok (.invokestatic 43, 3) := by decide +kernel
theorem dX3_copy_52 : decode cX3_copy 52 = .ok (.aload_n 0, 1) := by decide +kernel
theorem dX3_copy_53 : decode cX3_copy 53 = .ok (.aload_n 1, 1) := by decide +kernel
theorem dX3_copy_54 : decode cX3_copy 54 = .ok (.getfield 18, 3) := by decide +kernel
theorem dX3_copy_57 : decode cX3_copy 57 = .ok (.putfield 18, 3) := by decide +kernel
theorem dX3_copy_60 : decode cX3_copy 60 = .ok (.aload_n 0, 1) := by decide +kernel
theorem dX3_copy_61 : decode cX3_copy 61 = .ok (.aload_n 1, 1) := by decide +kernel
theorem dX3_copy_62 : decode cX3_copy 62 = .ok (.getfield 22, 3) := by decide +kernel
theorem dX3_copy_65 : decode cX3_copy 65 = .ok (.putfield 22, 3) := by decide +kernel
theorem dX3_copy_68 : decode cX3_copy 68 = .ok (.aload_n 0, 1) := by decide +kernel
theorem dX3_copy_69 : decode cX3_copy 69 = .ok (.aload_n 1, 1) := by decide +kernel
theorem dX3_copy_70 : decode cX3_copy 70 = .ok (.getfield 25, 3) := by decide +kernel
theorem dX3_copy_73 : decode cX3_copy 73 = .ok (.putfield 25, 3) := by decide +kernel
theorem dX3_copy_76 : decode cX3_copy 76 = .ok (.aload_n 0, 1) := by decide +kernel
theorem dX3_copy_77 : decode cX3_copy 77 = .ok (.aload_n 1, 1) := by decide +kernel
theorem dX3_copy_78 : decode cX3_copy 78 = .ok (.getfield 28, 3) := by decide +kernel
theorem dX3_copy_81 : decode cX3_copy 81 = .ok (.putfield 28, 3) := by decide +kernel
theorem dX3_copy_84 : decode cX3_copy 84 = .ok (.aload_n 0, 1) := by decide +kernel
theorem dX3_copy_85 : decode cX3_copy 85 = .ok (.aload_n 1, 1) := by decide +kernel
theorem dX3_copy_86 : decode cX3_copy 86 = .ok (.getfield 31, 3) := by decide +kernel
theorem dX3_copy_89 : decode cX3_copy 89 = .ok (.putfield 31, 3) := by decide +kernel
theorem dX3_copy_92 : decode cX3_copy 92 = .ok (.aload_n 0, 1) := by decide +kernel
theorem dX3_copy_93 : decode cX3_copy 93 = .ok (.aload_n 1, 1) := by decide +kernel
theorem dX3_copy_94 : decode cX3_copy 94 = .ok (.getfield 34, 3) := by decide +kernel
theorem dX3_copy_97 : decode cX3_copy 97 = .ok (.putfield 34, 3) := by decide +kernel
theorem dX3_copy_100 : decode cX3_copy 100 = .ok (.return_, 1) := by decide +kernel
theorem dX3_hasStool_0 : decode cX3_hasStool 0 = .ok (.iload_n 1, 1) := by decide +kernel
theorem dX3_hasStool_1 : decode cX3_hasStool 1 = .ok (.ifCond .lt 15, 3) := by decide +kernel
theorem dX3_hasStool_4 : decode cX3_hasStool 4 = .ok (.iload_n 1, 1) := by decide +kernel
theorem dX3_hasStool_5 : decode cX3_hasStool 5 = .ok (.aload_n 0, 1) := by decide +kernel
theorem dX3_hasStool_6 : decode cX3_hasStool 6 = .ok (.getfield 18, 3) := by decide +kernel
theorem dX3_hasStool_9 : decode cX3_hasStool 9 = .ok (.if_icmp .ge 7, 3) := by decide +kernel
theorem dX3_hasStool_12 : decode cX3_hasStool 12 = .ok (.iconst 1, 1) := by decide +kernel
theorem dX3_hasStool_13 : decode cX3_hasStool 13 = .ok (.goto 4, 3) := by decide +kernel
theorem dX3_hasStool_16 : decode cX3_hasStool 16 = .ok (.iconst 0, 1) := by decide +kernel
theorem dX3_hasStool_17 : decode cX3_hasStool 17 = .ok (.ireturn, 1) := by decide +kernel
theorem dX3_hasSitter_0 : decode cX3_hasSitter 0 = .ok (.iload_n 1, 1) := by decide +kernel
theorem dX3_hasSitter_1 : decode cX3_hasSitter 1 = .ok (.ifCond .lt 15, 3) := by decide +kernel
theorem dX3_hasSitter_4 : decode cX3_hasSitter 4 = .ok (.iload_n 1, 1) := by decide +kernel
theorem dX3_hasSitter_5 : decode cX3_hasSitter 5 = .ok (.aload_n 0, 1) := by decide +kernel
theorem dX3_hasSitter_6 : decode cX3_hasSitter 6 = .ok (.getfield 22, 3) := by decide +kernel
theorem dX3_hasSitter_9 : decode cX3_hasSitter 9 = .ok (.if_icmp .ge 7, 3) := by decide +kernel
theorem dX3_hasSitter_12 : decode cX3_hasSitter 12 = .ok (.iconst 1, 1) := by decide +kernel
theorem dX3_hasSitter_13 : decode cX3_hasSitter 13 = .ok (.goto 4, 3) := by decide +kernel
theorem dX3_hasSitter_16 : decode cX3_hasSitter 16 = .ok (.iconst 0, 1) := by decide +kernel
theorem dX3_hasSitter_17 : decode cX3_hasSitter 17 = .ok (.ireturn, 1) := by decide +kernel
theorem dX3_ofStool_0 : decode cX3_ofStool 0 = .ok (.iload_n 1, 1) := by decide +kernel
theorem dX3_ofStool_1 : decode cX3_ofStool 1 = .ok (.ifCond .lt 19, 3) := by decide +kernel
theorem dX3_ofStool_4 : decode cX3_ofStool 4 = .ok (.iload_n 1, 1) := by decide +kernel
theorem dX3_ofStool_5 : decode cX3_ofStool 5 = .ok (.bipush 12, 2) := by decide +kernel
theorem dX3_ofStool_7 : decode cX3_ofStool 7 = .ok (.if_icmp .ge 13, 3) := by decide +kernel
theorem dX3_ofStool_10 : decode cX3_ofStool 10 = .ok (.iload_n 2, 1) := by decide +kernel
theorem dX3_ofStool_11 : decode cX3_ofStool 11 = .ok (.ifCond .lt 9, 3) := by decide +kernel
theorem dX3_ofStool_14 : decode cX3_ofStool 14 = .ok (.iload_n 2, 1) := by decide +kernel
theorem dX3_ofStool_15 : decode cX3_ofStool 15 = .ok (.bipush 6, 2) := by decide +kernel
theorem dX3_ofStool_17 : decode cX3_ofStool 17 = .ok (.if_icmp .lt 5, 3) := by decide +kernel
theorem dX3_ofStool_20 : decode cX3_ofStool 20 = .ok (.iconst (-1), 1) := by decide +kernel
theorem dX3_ofStool_21 : decode cX3_ofStool 21 = .ok (.ireturn, 1) := by decide +kernel
theorem dX3_ofStool_22 : decode cX3_ofStool 22 = .ok (.aload_n 0, 1) := by decide +kernel
theorem dX3_ofStool_23 : decode cX3_ofStool 23 = .ok (.getfield 11, 3) := by decide +kernel
theorem dX3_ofStool_26 : decode cX3_ofStool 26 = .ok (.iload_n 1, 1) := by decide +kernel
theorem dX3_ofStool_27 : decode cX3_ofStool 27 = .ok (.bipush 6, 2) := by decide +kernel
theorem dX3_ofStool_29 : decode cX3_ofStool 29 = .ok (.imul, 1) := by decide +kernel
theorem dX3_ofStool_30 : decode cX3_ofStool 30 = .ok (.iload_n 2, 1) := by decide +kernel
theorem dX3_ofStool_31 : decode cX3_ofStool 31 = .ok (.iadd, 1) := by decide +kernel
theorem dX3_ofStool_32 : decode cX3_ofStool 32 = .ok (.iaload, 1) := by decide +kernel
theorem dX3_ofStool_33 : decode cX3_ofStool 33 = .ok (.ireturn, 1) := by decide +kernel
theorem dX3_ofSitter_0 : decode cX3_ofSitter 0 = .ok (.iload_n 1, 1) := by decide +kernel
theorem dX3_ofSitter_1 : decode cX3_ofSitter 1 = .ok (.ifCond .lt 18, 3) := by decide +kernel
theorem dX3_ofSitter_4 : decode cX3_ofSitter 4 = .ok (.iload_n 1, 1) := by decide +kernel
theorem dX3_ofSitter_5 : decode cX3_ofSitter 5 = .ok (.bipush 12, 2) := by decide +kernel
theorem dX3_ofSitter_7 : decode cX3_ofSitter 7 = .ok (.if_icmp .ge 12, 3) := by decide +kernel
theorem dX3_ofSitter_10 : decode cX3_ofSitter 10 = .ok (.iload_n 2, 1) := by decide +kernel
theorem dX3_ofSitter_11 : decode cX3_ofSitter 11 = .ok (.ifCond .lt 8, 3) := by decide +kernel
theorem dX3_ofSitter_14 : decode cX3_ofSitter 14 = .ok (.iload_n 2, 1) := by decide +kernel
theorem dX3_ofSitter_15 : decode cX3_ofSitter 15 = .ok (.iconst 3, 1) := by decide +kernel
theorem dX3_ofSitter_16 : decode cX3_ofSitter 16 = .ok (.if_icmp .lt 5, 3) := by decide +kernel
theorem dX3_ofSitter_19 : decode cX3_ofSitter 19 = .ok (.iconst (-1), 1) := by decide +kernel
theorem dX3_ofSitter_20 : decode cX3_ofSitter 20 = .ok (.ireturn, 1) := by decide +kernel
theorem dX3_ofSitter_21 : decode cX3_ofSitter 21 = .ok (.aload_n 0, 1) := by decide +kernel
theorem dX3_ofSitter_22 : decode cX3_ofSitter 22 = .ok (.getfield 15, 3) := by decide +kernel
theorem dX3_ofSitter_25 : decode cX3_ofSitter 25 = .ok (.iload_n 1, 1) := by decide +kernel
theorem dX3_ofSitter_26 : decode cX3_ofSitter 26 = .ok (.iconst 3, 1) := by decide +kernel
theorem dX3_ofSitter_27 : decode cX3_ofSitter 27 = .ok (.imul, 1) := by decide +kernel
theorem dX3_ofSitter_28 : decode cX3_ofSitter 28 = .ok (.iload_n 2, 1) := by decide +kernel
theorem dX3_ofSitter_29 : decode cX3_ofSitter 29 = .ok (.iadd, 1) := by decide +kernel
theorem dX3_ofSitter_30 : decode cX3_ofSitter 30 = .ok (.iaload, 1) := by decide +kernel
theorem dX3_ofSitter_31 : decode cX3_ofSitter 31 = .ok (.ireturn, 1) := by decide +kernel
theorem dX3_setOfStool_0 : decode cX3_setOfStool 0 = .ok (.iload_n 1, 1) := by decide +kernel
theorem dX3_setOfStool_1 : decode cX3_setOfStool 1 = .ok (.ifCond .lt 31, 3) := by decide +kernel
theorem dX3_setOfStool_4 : decode cX3_setOfStool 4 = .ok (.iload_n 1, 1) := by decide +kernel
theorem dX3_setOfStool_5 : decode cX3_setOfStool 5 = .ok (.bipush 12, 2) := by decide +kernel
theorem dX3_setOfStool_7 : decode cX3_setOfStool 7 = .ok (.if_icmp .ge 25, 3) := by decide +kernel
theorem dX3_setOfStool_10 : decode cX3_setOfStool 10 = .ok (.iload_n 2, 1) := by decide +kernel
theorem dX3_setOfStool_11 : decode cX3_setOfStool 11 = .ok (.ifCond .lt 21, 3) := by decide +kernel
theorem dX3_setOfStool_14 : decode cX3_setOfStool 14 = .ok (.iload_n 2, 1) := by decide +kernel
theorem dX3_setOfStool_15 : decode cX3_setOfStool 15 = .ok (.bipush 6, 2) := by decide +kernel
theorem dX3_setOfStool_17 : decode cX3_setOfStool 17 = .ok (.if_icmp .ge 15, 3) := by decide +kernel
theorem dX3_setOfStool_20 : decode cX3_setOfStool 20 = .ok (.aload_n 0, 1) := by decide +kernel
theorem dX3_setOfStool_21 : decode cX3_setOfStool 21 = .ok (.getfield 11, 3) := by decide +kernel
theorem dX3_setOfStool_24 : decode cX3_setOfStool 24 = .ok (.iload_n 1, 1) := by decide +kernel
theorem dX3_setOfStool_25 : decode cX3_setOfStool 25 = .ok (.bipush 6, 2) := by decide +kernel
theorem dX3_setOfStool_27 : decode cX3_setOfStool 27 = .ok (.imul, 1) := by decide +kernel
theorem dX3_setOfStool_28 : decode cX3_setOfStool 28 = .ok (.iload_n 2, 1) := by decide +kernel
theorem dX3_setOfStool_29 : decode cX3_setOfStool 29 = .ok (.iadd, 1) := by decide +kernel
theorem dX3_setOfStool_30 : decode cX3_setOfStool 30 = .ok (.iload_n 3, 1) := by decide +kernel
theorem dX3_setOfStool_31 : decode cX3_setOfStool 31 = .ok (.iastore, 1) := by decide +kernel
theorem dX3_setOfStool_32 : decode cX3_setOfStool 32 = .ok (.return_, 1) := by decide +kernel
theorem dX3_setOfSitter_0 : decode cX3_setOfSitter 0 = .ok (.iload_n 1, 1) := by decide +kernel
theorem dX3_setOfSitter_1 : decode cX3_setOfSitter 1 = .ok (.ifCond .lt 29, 3) := by decide +kernel
theorem dX3_setOfSitter_4 : decode cX3_setOfSitter 4 = .ok (.iload_n 1, 1) := by decide +kernel
theorem dX3_setOfSitter_5 : decode cX3_setOfSitter 5 = .ok (.bipush 12, 2) := by decide +kernel
theorem dX3_setOfSitter_7 : decode cX3_setOfSitter 7 = .ok (.if_icmp .ge 23, 3) := by decide +kernel
theorem dX3_setOfSitter_10 : decode cX3_setOfSitter 10 = .ok (.iload_n 2, 1) := by decide +kernel
theorem dX3_setOfSitter_11 : decode cX3_setOfSitter 11 = .ok (.ifCond .lt 19, 3) := by decide +kernel
theorem dX3_setOfSitter_14 : decode cX3_setOfSitter 14 = .ok (.iload_n 2, 1) := by decide +kernel
theorem dX3_setOfSitter_15 : decode cX3_setOfSitter 15 = .ok (.iconst 3, 1) := by decide +kernel
theorem dX3_setOfSitter_16 : decode cX3_setOfSitter 16 = .ok (.if_icmp .ge 14, 3) := by decide +kernel
theorem dX3_setOfSitter_19 : decode cX3_setOfSitter 19 = .ok (.aload_n 0, 1) := by decide +kernel
theorem dX3_setOfSitter_20 : decode cX3_setOfSitter 20 = .ok (.getfield 15, 3) := by decide +kernel
theorem dX3_setOfSitter_23 : decode cX3_setOfSitter 23 = .ok (.iload_n 1, 1) := by decide +kernel
theorem dX3_setOfSitter_24 : decode cX3_setOfSitter 24 = .ok (.iconst 3, 1) := by decide +kernel
theorem dX3_setOfSitter_25 : decode cX3_setOfSitter 25 = .ok (.imul, 1) := by decide +kernel
theorem dX3_setOfSitter_26 : decode cX3_setOfSitter 26 = .ok (.iload_n 2, 1) := by decide +kernel
theorem dX3_setOfSitter_27 : decode cX3_setOfSitter 27 = .ok (.iadd, 1) := by decide +kernel
theorem dX3_setOfSitter_28 : decode cX3_setOfSitter 28 = .ok (.iload_n 3, 1) := by decide +kernel
theorem dX3_setOfSitter_29 : decode cX3_setOfSitter 29 = .ok (.iastore, 1) := by decide +kernel
theorem dX3_setOfSitter_30 : decode cX3_setOfSitter 30 = .ok (.return_, 1) := by decide +kernel
set_option maxRecDepth 20000 in
theorem ggX3_addStool_X3_setOfStool : GoodIn wsX3_addStool wsX3_setOfStool := goodIn_ca (goodIn_r _ [6, 7, 8, 9, 10, 11, 12, 13, 14, 15] (by decide +kernel) (by decide +kernel)) (goodIn_sub (fun _ h => List.mem_cons_of_mem _ (List.mem_append_right _ h)) (by decide +kernel))
set_option maxRecDepth 20000 in
theorem gX3_addStool_X3_setOfStool : GoodIn wsX3_addStool (wsV RX3 49 RX3 yX3_setOfStool wsX3_setOfStool) := goodIn_app (goodIn_of _ (by decide +kernel)) ggX3_addStool_X3_setOfStool
theorem dX3_addStool_0 : decode cX3_addStool 0 = .ok (.aload_n 0, 1) := by decide +kernel
theorem dX3_addStool_1 : decode cX3_addStool 1 = .ok (.getfield 18, 3) := by decide +kernel
theorem dX3_addStool_4 : decode cX3_addStool 4 = .ok (.istore 5, 2) := by decide +kernel
theorem dX3_addStool_6 : decode cX3_addStool 6 = .ok (.aload_n 0, 1) := by decide +kernel
theorem dX3_addStool_7 : decode cX3_addStool 7 = .ok (.iload 5, 2) := by decide +kernel
theorem dX3_addStool_9 : decode cX3_addStool 9 = .ok (.iconst 0, 1) := by decide +kernel
theorem dX3_addStool_10 : decode cX3_addStool 10 = .ok (.iload_n 1, 1) := by decide +kernel
theorem dX3_addStool_11 : decode cX3_addStool 11 = .ok (.invokevirtual 49, 3) := by decide +kernel
theorem dX3_addStool_14 : decode cX3_addStool 14 = .ok (.aload_n 0, 1) := by decide +kernel
theorem dX3_addStool_15 : decode cX3_addStool 15 = .ok (.iload 5, 2) := by decide +kernel
theorem dX3_addStool_17 : decode cX3_addStool 17 = .ok (.iconst 1, 1) := by decide +kernel
theorem dX3_addStool_18 : decode cX3_addStool 18 = .ok (.iload_n 2, 1) := by decide +kernel
theorem dX3_addStool_19 : decode cX3_addStool 19 = .ok (.invokevirtual 49, 3) := by decide +kernel
theorem dX3_addStool_22 : decode cX3_addStool 22 = .ok (.aload_n 0, 1) := by decide +kernel
theorem dX3_addStool_23 : decode cX3_addStool 23 = .ok (.iload 5, 2) := by decide +kernel
theorem dX3_addStool_25 : decode cX3_addStool 25 = .ok (.iconst 2, 1) := by decide +kernel
theorem dX3_addStool_26 : decode cX3_addStool 26 = .ok (.iload_n 3, 1) := by decide +kernel
theorem dX3_addStool_27 : decode cX3_addStool 27 = .ok (.invokevirtual 49, 3) := by decide +kernel
theorem dX3_addStool_30 : decode cX3_addStool 30 = .ok (.aload_n 0, 1) := by decide +kernel
theorem dX3_addStool_31 : decode cX3_addStool 31 = .ok (.iload 5, 2) := by decide +kernel
theorem dX3_addStool_33 : decode cX3_addStool 33 = .ok (.iconst 3, 1) := by decide +kernel
theorem dX3_addStool_34 : decode cX3_addStool 34 = .ok (.iload 4, 2) := by decide +kernel
theorem dX3_addStool_36 : decode cX3_addStool 36 = .ok (.ifCond .eq 7, 3) := by decide +kernel
theorem dX3_addStool_39 : decode cX3_addStool 39 = .ok (.iconst 1, 1) := by decide +kernel
theorem dX3_addStool_40 : decode cX3_addStool 40 = .ok (.goto 4, 3) := by decide +kernel
theorem dX3_addStool_43 : decode cX3_addStool 43 = .ok (.iconst 0, 1) := by decide +kernel
theorem dX3_addStool_44 : decode cX3_addStool 44 = .ok (.invokevirtual 49, 3) := by decide +kernel
theorem dX3_addStool_47 : decode cX3_addStool 47 = .ok (.aload_n 0, 1) := by decide +kernel
theorem dX3_addStool_48 : decode cX3_addStool 48 = .ok (.iload 5, 2) := by decide +kernel
theorem dX3_addStool_50 : decode cX3_addStool 50 = .ok (.iconst 4, 1) := by decide +kernel
theorem dX3_addStool_51 : decode cX3_addStool 51 = .ok (.iconst 0, 1) := by decide +kernel
theorem dX3_addStool_52 : decode cX3_addStool 52 = .ok (.invokevirtual 49, 3) := by decide +kernel
theorem dX3_addStool_55 : decode cX3_addStool 55 = .ok (.aload_n 0, 1) := by decide +kernel
theorem dX3_addStool_56 : decode cX3_addStool 56 = .ok (.iload 5, 2) := by decide +kernel
theorem dX3_addStool_58 : decode cX3_addStool 58 = .ok (.iconst 5, 1) := by decide +kernel
theorem dX3_addStool_59 : decode cX3_addStool 59 = .ok (.iconst (-1), 1) := by decide +kernel
theorem dX3_addStool_60 : decode cX3_addStool 60 = .ok (.invokevirtual 49, 3) := by decide +kernel
theorem dX3_addStool_63 : decode cX3_addStool 63 = .ok (.aload_n 0, 1) := by decide +kernel
theorem dX3_addStool_64 : decode cX3_addStool 64 = .ok (.dup, 1) := by decide +kernel
theorem dX3_addStool_65 : decode cX3_addStool 65 = .ok (.getfield 18, 3) := by decide +kernel
theorem dX3_addStool_68 : decode cX3_addStool 68 = .ok (.iconst 1, 1) := by decide +kernel
theorem dX3_addStool_69 : decode cX3_addStool 69 = .ok (.iadd, 1) := by decide +kernel
theorem dX3_addStool_70 : decode cX3_addStool 70 = .ok (.putfield 18, 3) := by decide +kernel
theorem dX3_addStool_73 : decode cX3_addStool 73 = .ok (.iload 5, 2) := by decide +kernel
theorem dX3_addStool_75 : decode cX3_addStool 75 = .ok (.ireturn, 1) := by decide +kernel
set_option maxRecDepth 20000 in
theorem ggX3_addSitter_X3_setOfSitter : GoodIn wsX3_addSitter wsX3_setOfSitter := goodIn_ca (goodIn_r _ [6, 7, 8, 9, 10, 11, 12, 13, 14, 15] (by decide +kernel) (by decide +kernel)) (goodIn_sub (fun _ h => List.mem_cons_of_mem _ (List.mem_append_right _ h)) (by decide +kernel))
set_option maxRecDepth 20000 in
theorem gX3_addSitter_X3_setOfSitter : GoodIn wsX3_addSitter (wsV RX3 53 RX3 yX3_setOfSitter wsX3_setOfSitter) := goodIn_app (goodIn_of _ (by decide +kernel)) ggX3_addSitter_X3_setOfSitter
theorem dX3_addSitter_0 : decode cX3_addSitter 0 = .ok (.aload_n 0, 1) := by decide +kernel
theorem dX3_addSitter_1 : decode cX3_addSitter 1 = .ok (.getfield 22, 3) := by decide +kernel
theorem dX3_addSitter_4 : decode cX3_addSitter 4 = .ok (.istore_n 3, 1) := by decide +kernel
theorem dX3_addSitter_5 : decode cX3_addSitter 5 = .ok (.aload_n 0, 1) := by decide +kernel
theorem dX3_addSitter_6 : decode cX3_addSitter 6 = .ok (.iload_n 3, 1) := by decide +kernel
theorem dX3_addSitter_7 : decode cX3_addSitter 7 = .ok (.iconst 0, 1) := by decide +kernel
theorem dX3_addSitter_8 : decode cX3_addSitter 8 = .ok (.iload_n 1, 1) := by decide +kernel
theorem dX3_addSitter_9 : decode cX3_addSitter 9 = .ok (.invokevirtual 53, 3) := by decide +kernel
theorem dX3_addSitter_12 : decode cX3_addSitter 12 = .ok (.aload_n 0, 1) := by decide +kernel
theorem dX3_addSitter_13 : decode cX3_addSitter 13 = .ok (.iload_n 3, 1) := by decide +kernel
theorem dX3_addSitter_14 : decode cX3_addSitter 14 = .ok (.iconst 1, 1) := by decide +kernel
theorem dX3_addSitter_15 : decode cX3_addSitter 15 = .ok (.iload_n 2, 1) := by decide +kernel
theorem dX3_addSitter_16 : decode cX3_addSitter 16 = .ok (.invokevirtual 53, 3) := by decide +kernel
theorem dX3_addSitter_19 : decode cX3_addSitter 19 = .ok (.aload_n 0, 1) := by decide +kernel
theorem dX3_addSitter_20 : decode cX3_addSitter 20 = .ok (.iload_n 3, 1) := by decide +kernel
theorem dX3_addSitter_21 : decode cX3_addSitter 21 = .ok (.iconst 2, 1) := by decide +kernel
theorem dX3_addSitter_22 : decode cX3_addSitter 22 = .ok (.iconst (-1), 1) := by decide +kernel
theorem dX3_addSitter_23 : decode cX3_addSitter 23 = .ok (.invokevirtual 53, 3) := by decide +kernel
theorem dX3_addSitter_26 : decode cX3_addSitter 26 = .ok (.aload_n 0, 1) := by decide +kernel
theorem dX3_addSitter_27 : decode cX3_addSitter 27 = .ok (.dup, 1) := by decide +kernel
theorem dX3_addSitter_28 : decode cX3_addSitter 28 = .ok (.getfield 22, 3) := by decide +kernel
theorem dX3_addSitter_31 : decode cX3_addSitter 31 = .ok (.iconst 1, 1) := by decide +kernel
theorem dX3_addSitter_32 : decode cX3_addSitter 32 = .ok (.iadd, 1) := by decide +kernel
theorem dX3_addSitter_33 : decode cX3_addSitter 33 = .ok (.putfield 22, 3) := by decide +kernel
theorem dX3_addSitter_36 : decode cX3_addSitter 36 = .ok (.iload_n 3, 1) := by decide +kernel
theorem dX3_addSitter_37 : decode cX3_addSitter 37 = .ok (.ireturn, 1) := by decide +kernel
set_option maxRecDepth 20000 in
theorem ggX3_sits_X3_ofSitter : GoodIn wsX3_sits wsX3_ofSitter := goodIn_ca (goodIn_r _ [5, 6, 7, 8, 9, 10, 11, 12, 13, 14] (by decide +kernel) (by decide +kernel)) (goodIn_sub (fun _ h => List.mem_cons_of_mem _ (List.mem_append_right _ h)) (by decide +kernel))
set_option maxRecDepth 20000 in
theorem gX3_sits_X3_ofSitter : GoodIn wsX3_sits (wsV RX3 56 RX3 yX3_ofSitter wsX3_ofSitter) := goodIn_app (goodIn_of _ (by decide +kernel)) ggX3_sits_X3_ofSitter
theorem dX3_sits_0 : decode cX3_sits 0 = .ok (.aload_n 0, 1) := by decide +kernel
theorem dX3_sits_1 : decode cX3_sits 1 = .ok (.iload_n 1, 1) := by decide +kernel
theorem dX3_sits_2 : decode cX3_sits 2 = .ok (.iconst 2, 1) := by decide +kernel
theorem dX3_sits_3 : decode cX3_sits 3 = .ok (.invokevirtual 56, 3) := by decide +kernel
theorem dX3_sits_6 : decode cX3_sits 6 = .ok (.iconst (-1), 1) := by decide +kernel
theorem dX3_sits_7 : decode cX3_sits 7 = .ok (.if_icmp .eq 7, 3) := by decide +kernel
theorem dX3_sits_10 : decode cX3_sits 10 = .ok (.iconst 1, 1) := by decide +kernel
theorem dX3_sits_11 : decode cX3_sits 11 = .ok (.goto 4, 3) := by decide +kernel
theorem dX3_sits_14 : decode cX3_sits 14 = .ok (.iconst 0, 1) := by decide +kernel
theorem dX3_sits_15 : decode cX3_sits 15 = .ok (.ireturn, 1) := by decide +kernel
set_option maxRecDepth 20000 in
theorem ggX3_maySit_X3_ofSitter : GoodIn wsX3_maySit wsX3_ofSitter := goodIn_ca (goodIn_r _ [5, 6, 12, 13, 14, 15, 16, 17, 18, 19] (by decide +kernel) (by decide +kernel)) (goodIn_sub (fun _ h => List.mem_cons_of_mem _ (List.mem_append_right _ h)) (by decide +kernel))
set_option maxRecDepth 20000 in
theorem gX3_maySit_X3_ofSitter : GoodIn wsX3_maySit (wsV RX3 56 RX3 yX3_ofSitter wsX3_ofSitter) := goodIn_app (goodIn_of _ (by decide +kernel)) ggX3_maySit_X3_ofSitter
set_option maxRecDepth 20000 in
theorem ggX3_maySit_X3_ofStool : GoodIn wsX3_maySit wsX3_ofStool := goodIn_ca (goodIn_r _ [10, 11, 12, 13, 14, 15, 16, 17, 18, 19] (by decide +kernel) (by decide +kernel)) (goodIn_sub (fun _ h => List.mem_cons_of_mem _ (List.mem_append_right _ h)) (by decide +kernel))
set_option maxRecDepth 20000 in
theorem gX3_maySit_X3_ofStool : GoodIn wsX3_maySit (wsV RX3 59 RX3 yX3_ofStool wsX3_ofStool) := goodIn_app (goodIn_of _ (by decide +kernel)) ggX3_maySit_X3_ofStool
theorem dX3_maySit_0 : decode cX3_maySit 0 = .ok (.aload_n 0, 1) := by decide +kernel
theorem dX3_maySit_1 : decode cX3_maySit 1 = .ok (.iload_n 1, 1) := by decide +kernel
theorem dX3_maySit_2 : decode cX3_maySit 2 = .ok (.iconst 0, 1) := by decide +kernel
theorem dX3_maySit_3 : decode cX3_maySit 3 = .ok (.invokevirtual 56, 3) := by decide +kernel
theorem dX3_maySit_6 : decode cX3_maySit 6 = .ok (.ifCond .gt 12, 3) := by decide +kernel
theorem dX3_maySit_9 : decode cX3_maySit 9 = .ok (.aload_n 0, 1) := by decide +kernel
theorem dX3_maySit_10 : decode cX3_maySit 10 = .ok (.iload_n 2, 1) := by decide +kernel
theorem dX3_maySit_11 : decode cX3_maySit 11 = .ok (.iconst 3, 1) := by decide +kernel
theorem dX3_maySit_12 : decode cX3_maySit 12 = .ok (.invokevirtual 59, 3) := by decide +kernel
theorem dX3_maySit_15 : decode cX3_maySit 15 = .ok (.ifCond .ne 7, 3) := by decide +kernel
theorem dX3_maySit_18 : decode cX3_maySit 18 = .ok (.iconst 1, 1) := by decide +kernel
theorem dX3_maySit_19 : decode cX3_maySit 19 = .ok (.goto 4, 3) := by decide +kernel
theorem dX3_maySit_22 : decode cX3_maySit 22 = .ok (.iconst 0, 1) := by decide +kernel
theorem dX3_maySit_23 : decode cX3_maySit 23 = .ok (.ireturn, 1) := by decide +kernel
set_option maxRecDepth 20000 in
theorem ggX3_take_X3_setOfSitter : GoodIn wsX3_take wsX3_setOfSitter := goodIn_ca (goodIn_r _ [5, 6, 12, 13, 14, 15, 16, 17, 18, 19] (by decide +kernel) (by decide +kernel)) (goodIn_sub (fun _ h => List.mem_cons_of_mem _ (List.mem_append_right _ h)) (by decide +kernel))
set_option maxRecDepth 20000 in
theorem gX3_take_X3_setOfSitter : GoodIn wsX3_take (wsV RX3 53 RX3 yX3_setOfSitter wsX3_setOfSitter) := goodIn_app (goodIn_of _ (by decide +kernel)) ggX3_take_X3_setOfSitter
set_option maxRecDepth 20000 in
theorem ggX3_take_X3_setOfStool : GoodIn wsX3_take wsX3_setOfStool := goodIn_ca (goodIn_r _ [10, 11, 12, 13, 14, 15, 16, 17, 18, 19] (by decide +kernel) (by decide +kernel)) (goodIn_sub (fun _ h => List.mem_cons_of_mem _ (List.mem_append_right _ h)) (by decide +kernel))
set_option maxRecDepth 20000 in
theorem gX3_take_X3_setOfStool : GoodIn wsX3_take (wsV RX3 49 RX3 yX3_setOfStool wsX3_setOfStool) := goodIn_app (goodIn_of _ (by decide +kernel)) ggX3_take_X3_setOfStool
theorem dX3_take_0 : decode cX3_take 0 = .ok (.aload_n 0, 1) := by decide +kernel
theorem dX3_take_1 : decode cX3_take 1 = .ok (.iload_n 1, 1) := by decide +kernel
theorem dX3_take_2 : decode cX3_take 2 = .ok (.iconst 2, 1) := by decide +kernel
theorem dX3_take_3 : decode cX3_take 3 = .ok (.iload_n 2, 1) := by decide +kernel
theorem dX3_take_4 : decode cX3_take 4 = .ok (.invokevirtual 53, 3) := by decide +kernel
theorem dX3_take_7 : decode cX3_take 7 = .ok (.aload_n 0, 1) := by decide +kernel
theorem dX3_take_8 : decode cX3_take 8 = .ok (.iload_n 2, 1) := by decide +kernel
theorem dX3_take_9 : decode cX3_take 9 = .ok (.iconst 5, 1) := by decide +kernel
theorem dX3_take_10 : decode cX3_take 10 = .ok (.iload_n 1, 1) := by decide +kernel
theorem dX3_take_11 : decode cX3_take 11 = .ok (.invokevirtual 49, 3) := by decide +kernel
theorem dX3_take_14 : decode cX3_take 14 = .ok (.return_, 1) := by decide +kernel
set_option maxRecDepth 20000 in
theorem ggX3_leave_X3_ofSitter : GoodIn wsX3_leave wsX3_ofSitter := goodIn_ca (goodIn_r _ [5, 6, 16, 17, 18, 19, 20, 21, 22, 23] (by decide +kernel) (by decide +kernel)) (goodIn_sub (fun _ h => List.mem_cons_of_mem _ (List.mem_append_right _ h)) (by decide +kernel))
set_option maxRecDepth 20000 in
theorem gX3_leave_X3_ofSitter : GoodIn wsX3_leave (wsV RX3 56 RX3 yX3_ofSitter wsX3_ofSitter) := goodIn_app (goodIn_of _ (by decide +kernel)) ggX3_leave_X3_ofSitter
set_option maxRecDepth 20000 in
theorem ggX3_leave_X3_setOfStool : GoodIn wsX3_leave wsX3_setOfStool := goodIn_ca (goodIn_r _ [10, 11, 16, 17, 18, 19, 20, 21, 22, 23] (by decide +kernel) (by decide +kernel)) (goodIn_sub (fun _ h => List.mem_cons_of_mem _ (List.mem_append_right _ h)) (by decide +kernel))
set_option maxRecDepth 20000 in
theorem gX3_leave_X3_setOfStool : GoodIn wsX3_leave (wsV RX3 49 RX3 yX3_setOfStool wsX3_setOfStool) := goodIn_app (goodIn_of _ (by decide +kernel)) ggX3_leave_X3_setOfStool
set_option maxRecDepth 20000 in
theorem ggX3_leave_X3_setOfSitter : GoodIn wsX3_leave wsX3_setOfSitter := goodIn_ca (goodIn_r _ [15, 6, 16, 17, 18, 19, 20, 21, 22, 23] (by decide +kernel) (by decide +kernel)) (goodIn_sub (fun _ h => List.mem_cons_of_mem _ (List.mem_append_right _ h)) (by decide +kernel))
set_option maxRecDepth 20000 in
theorem gX3_leave_X3_setOfSitter : GoodIn wsX3_leave (wsV RX3 53 RX3 yX3_setOfSitter wsX3_setOfSitter) := goodIn_app (goodIn_of _ (by decide +kernel)) ggX3_leave_X3_setOfSitter
theorem dX3_leave_0 : decode cX3_leave 0 = .ok (.aload_n 0, 1) := by decide +kernel
theorem dX3_leave_1 : decode cX3_leave 1 = .ok (.iload_n 1, 1) := by decide +kernel
theorem dX3_leave_2 : decode cX3_leave 2 = .ok (.iconst 2, 1) := by decide +kernel
theorem dX3_leave_3 : decode cX3_leave 3 = .ok (.invokevirtual 56, 3) := by decide +kernel
theorem dX3_leave_6 : decode cX3_leave 6 = .ok (.istore_n 2, 1) := by decide +kernel
theorem dX3_leave_7 : decode cX3_leave 7 = .ok (.aload_n 0, 1) := by decide +kernel
theorem dX3_leave_8 : decode cX3_leave 8 = .ok (.iload_n 2, 1) := by decide +kernel
theorem dX3_leave_9 : decode cX3_leave 9 = .ok (.iconst 5, 1) := by decide +kernel
theorem dX3_leave_10 : decode cX3_leave 10 = .ok (.iconst (-1), 1) := by decide +kernel
theorem dX3_leave_11 : decode cX3_leave 11 = .ok (.invokevirtual 49, 3) := by decide +kernel
theorem dX3_leave_14 : decode cX3_leave 14 = .ok (.aload_n 0, 1) := by decide +kernel
theorem dX3_leave_15 : decode cX3_leave 15 = .ok (.iload_n 1, 1) := by decide +kernel
theorem dX3_leave_16 : decode cX3_leave 16 = .ok (.iconst 2, 1) := by decide +kernel
theorem dX3_leave_17 : decode cX3_leave 17 = .ok (.iconst (-1), 1) := by decide +kernel
theorem dX3_leave_18 : decode cX3_leave 18 = .ok (.invokevirtual 53, 3) := by decide +kernel
theorem dX3_leave_21 : decode cX3_leave 21 = .ok (.iload_n 2, 1) := by decide +kernel
theorem dX3_leave_22 : decode cX3_leave 22 = .ok (.ireturn, 1) := by decide +kernel
set_option maxRecDepth 20000 in
theorem ggX3_canExchange_X3_sits : GoodIn wsX3_canExchange wsX3_sits := goodIn_ca (goodIn_r _ [5, 6, 7, 8, 4, 9, 10, 20, 21, 22, 23, 24, 25, 26, 27] (by decide +kernel) (by decide +kernel)) (goodIn_sub (fun _ h => List.mem_cons_of_mem _ (List.mem_append_right _ h)) (by decide +kernel))
set_option maxRecDepth 20000 in
theorem gX3_canExchange_X3_sits : GoodIn wsX3_canExchange (wsV RX3 62 RX3 yX3_sits wsX3_sits) := goodIn_app (goodIn_of _ (by decide +kernel)) ggX3_canExchange_X3_sits
set_option maxRecDepth 20000 in
theorem ggX3_canExchange_X3_ofSitter : GoodIn wsX3_canExchange wsX3_ofSitter := goodIn_ca (goodIn_r _ [9, 10, 20, 21, 22, 23, 24, 25, 26, 27] (by decide +kernel) (by decide +kernel)) (goodIn_sub (fun _ h => List.mem_cons_of_mem _ (List.mem_append_right _ h)) (by decide +kernel))
set_option maxRecDepth 20000 in
theorem gX3_canExchange_X3_ofSitter : GoodIn wsX3_canExchange (wsV RX3 56 RX3 yX3_ofSitter wsX3_ofSitter) := goodIn_app (goodIn_of _ (by decide +kernel)) ggX3_canExchange_X3_ofSitter
set_option maxRecDepth 20000 in
theorem ggX3_canExchange_X3_maySit : GoodIn wsX3_canExchange wsX3_maySit := goodIn_ca (goodIn_r _ [14, 6, 7, 8, 4, 9, 10, 15, 16, 17, 18, 19, 20, 21, 22, 23, 24, 25, 26, 27] (by decide +kernel) (by decide +kernel)) (goodIn_sub (fun _ h => List.mem_cons_of_mem _ (List.mem_append_right _ h)) (by decide +kernel))
set_option maxRecDepth 20000 in
theorem gX3_canExchange_X3_maySit : GoodIn wsX3_canExchange (wsV RX3 66 RX3 yX3_maySit wsX3_maySit) := goodIn_app (goodIn_of _ (by decide +kernel)) ggX3_canExchange_X3_maySit
theorem dX3_canExchange_0 : decode cX3_canExchange 0 = .ok (.aload_n 0, 1) := by decide +kernel
theorem dX3_canExchange_1 : decode cX3_canExchange 1 = .ok (.iload_n 1, 1) := by decide +kernel
theorem dX3_canExchange_2 : decode cX3_canExchange 2 = .ok (.invokevirtual 62, 3) := by decide +kernel
theorem dX3_canExchange_5 : decode cX3_canExchange 5 = .ok (.ifCond .eq 43, 3) := by decide +kernel
theorem dX3_canExchange_8 : decode cX3_canExchange 8 = .ok (.aload_n 0, 1) := by decide +kernel
theorem dX3_canExchange_9 : decode cX3_canExchange 9 = .ok (.iload_n 2, 1) := by decide +kernel
theorem dX3_canExchange_10 : decode cX3_canExchange 10 = .ok (.invokevirtual 62, 3) := by decide +kernel
theorem dX3_canExchange_13 : decode cX3_canExchange 13 = .ok (.ifCond .eq 35, 3) := by decide +kernel
theorem dX3_canExchange_16 : decode cX3_canExchange 16 = .ok (.aload_n 0, 1) := by decide +kernel
theorem dX3_canExchange_17 : decode cX3_canExchange 17 = .ok (.iload_n 1, 1) := by decide +kernel
theorem dX3_canExchange_18 : decode cX3_canExchange 18 = .ok (.aload_n 0, 1) := by decide +kernel
theorem dX3_canExchange_19 : decode cX3_canExchange 19 = .ok (.iload_n 2, 1) := by decide +kernel
theorem dX3_canExchange_20 : decode cX3_canExchange 20 = .ok (.iconst 2, 1) := by decide +kernel
theorem dX3_canExchange_21 : decode cX3_canExchange 21 = .ok (.invokevirtual 56, 3) := by decide +kernel
theorem dX3_canExchange_24 : decode cX3_canExchange 24 = .ok (.invokevirtual 66, 3) := by decide +kernel
theorem dX3_canExchange_27 : decode cX3_canExchange 27 = .ok (.ifCond .eq 21, 3) := by decide +kernel
theorem dX3_canExchange_30 : decode cX3_canExchange 30 = .ok (.aload_n 0, 1) := by decide +kernel
theorem dX3_canExchange_31 : decode cX3_canExchange 31 = .ok (.iload_n 2, 1) := by decide +kernel
theorem dX3_canExchange_32 : decode cX3_canExchange 32 = .ok (.aload_n 0, 1) := by decide +kernel
theorem dX3_canExchange_33 : decode cX3_canExchange 33 = .ok (.iload_n 1, 1) := by decide +kernel
theorem dX3_canExchange_34 : decode cX3_canExchange 34 = .ok (.iconst 2, 1) := by decide +kernel
theorem dX3_canExchange_35 : decode cX3_canExchange 35 = .ok (.invokevirtual 56, 3) := by decide +kernel
theorem dX3_canExchange_38 : decode cX3_canExchange 38 = .ok (.invokevirtual 66, 3) := by decide +kernel
theorem dX3_canExchange_41 : decode cX3_canExchange 41 = .ok (.ifCond .eq 7, 3) := by decide +kernel
theorem dX3_canExchange_44 : decode cX3_canExchange 44 = .ok (.iconst 1, 1) := by decide +kernel
theorem dX3_canExchange_45 : decode cX3_canExchange 45 = .ok (.goto 4, 3) := by decide +kernel
theorem dX3_canExchange_48 : decode cX3_canExchange 48 = .ok (.iconst 0, 1) := by decide +kernel
theorem dX3_canExchange_49 : decode cX3_canExchange 49 = .ok (.ireturn, 1) := by decide +kernel
set_option maxRecDepth 20000 in
theorem ggX3_exchange_X3_ofSitter : GoodIn wsX3_exchange wsX3_ofSitter := goodIn_ca (goodIn_r _ [5, 6, 20, 21, 22, 23, 24, 25, 26, 27] (by decide +kernel) (by decide +kernel)) (goodIn_sub (fun _ h => List.mem_cons_of_mem _ (List.mem_append_right _ h)) (by decide +kernel))
set_option maxRecDepth 20000 in
theorem gX3_exchange_X3_ofSitter : GoodIn wsX3_exchange (wsV RX3 56 RX3 yX3_ofSitter wsX3_ofSitter) := goodIn_app (goodIn_of _ (by decide +kernel)) ggX3_exchange_X3_ofSitter
set_option maxRecDepth 20000 in
theorem ggX3_exchange_X3_take : GoodIn wsX3_exchange wsX3_take := goodIn_ca (goodIn_r _ [10, 11, 12, 13, 4, 14, 6, 15, 16, 17, 18, 19, 20, 21, 22, 23, 24, 25, 26, 27] (by decide +kernel) (by decide +kernel)) (goodIn_sub (fun _ h => List.mem_cons_of_mem _ (List.mem_append_right _ h)) (by decide +kernel))
set_option maxRecDepth 20000 in
theorem gX3_exchange_X3_take : GoodIn wsX3_exchange (wsV RX3 70 RX3 yX3_take wsX3_take) := goodIn_app (goodIn_of _ (by decide +kernel)) ggX3_exchange_X3_take
theorem dX3_exchange_0 : decode cX3_exchange 0 = .ok (.aload_n 0, 1) := by decide +kernel
theorem dX3_exchange_1 : decode cX3_exchange 1 = .ok (.iload_n 1, 1) := by decide +kernel
theorem dX3_exchange_2 : decode cX3_exchange 2 = .ok (.iconst 2, 1) := by decide +kernel
theorem dX3_exchange_3 : decode cX3_exchange 3 = .ok (.invokevirtual 56, 3) := by decide +kernel
theorem dX3_exchange_6 : decode cX3_exchange 6 = .ok (.istore_n 3, 1) := by decide +kernel
theorem dX3_exchange_7 : decode cX3_exchange 7 = .ok (.aload_n 0, 1) := by decide +kernel
theorem dX3_exchange_8 : decode cX3_exchange 8 = .ok (.iload_n 1, 1) := by decide +kernel
theorem dX3_exchange_9 : decode cX3_exchange 9 = .ok (.aload_n 0, 1) := by decide +kernel
theorem dX3_exchange_10 : decode cX3_exchange 10 = .ok (.iload_n 2, 1) := by decide +kernel
theorem dX3_exchange_11 : decode cX3_exchange 11 = .ok (.iconst 2, 1) := by decide +kernel
theorem dX3_exchange_12 : decode cX3_exchange 12 = .ok (.invokevirtual 56, 3) := by decide +kernel
theorem dX3_exchange_15 : decode cX3_exchange 15 = .ok (.invokevirtual 70, 3) := by decide +kernel
theorem dX3_exchange_18 : decode cX3_exchange 18 = .ok (.aload_n 0, 1) := by decide +kernel
theorem dX3_exchange_19 : decode cX3_exchange 19 = .ok (.iload_n 2, 1) := by decide +kernel
theorem dX3_exchange_20 : decode cX3_exchange 20 = .ok (.iload_n 3, 1) := by decide +kernel
theorem dX3_exchange_21 : decode cX3_exchange 21 = .ok (.invokevirtual 70, 3) := by decide +kernel
theorem dX3_exchange_24 : decode cX3_exchange 24 = .ok (.return_, 1) := by decide +kernel
set_option maxRecDepth 20000 in
theorem ggX3_areClashing_X3_sits : GoodIn wsX3_areClashing wsX3_sits := goodIn_ca (goodIn_r _ [5, 6, 7, 8, 4, 9, 10, 16, 17, 18, 19, 20, 21, 22, 23] (by decide +kernel) (by decide +kernel)) (goodIn_sub (fun _ h => List.mem_cons_of_mem _ (List.mem_append_right _ h)) (by decide +kernel))
set_option maxRecDepth 20000 in
theorem gX3_areClashing_X3_sits : GoodIn wsX3_areClashing (wsV RX3 62 RX3 yX3_sits wsX3_sits) := goodIn_app (goodIn_of _ (by decide +kernel)) ggX3_areClashing_X3_sits
set_option maxRecDepth 20000 in
theorem ggX3_areClashing_X3_ofSitter : GoodIn wsX3_areClashing wsX3_ofSitter := goodIn_ca (goodIn_r _ [9, 10, 16, 17, 18, 19, 20, 21, 22, 23] (by decide +kernel) (by decide +kernel)) (goodIn_sub (fun _ h => List.mem_cons_of_mem _ (List.mem_append_right _ h)) (by decide +kernel))
set_option maxRecDepth 20000 in
theorem gX3_areClashing_X3_ofSitter : GoodIn wsX3_areClashing (wsV RX3 56 RX3 yX3_ofSitter wsX3_ofSitter) := goodIn_app (goodIn_of _ (by decide +kernel)) ggX3_areClashing_X3_ofSitter
set_option maxRecDepth 20000 in
theorem ggX3_areClashing_X3_ofStool : GoodIn wsX3_areClashing wsX3_ofStool := goodIn_ca (goodIn_r _ [14, 15, 16, 17, 18, 19, 20, 21, 22, 23] (by decide +kernel) (by decide +kernel)) (goodIn_sub (fun _ h => List.mem_cons_of_mem _ (List.mem_append_right _ h)) (by decide +kernel))
set_option maxRecDepth 20000 in
theorem gX3_areClashing_X3_ofStool : GoodIn wsX3_areClashing (wsV RX3 59 RX3 yX3_ofStool wsX3_ofStool) := goodIn_app (goodIn_of _ (by decide +kernel)) ggX3_areClashing_X3_ofStool
theorem dX3_areClashing_0 : decode cX3_areClashing 0 = .ok (.aload_n 0, 1) := by decide +kernel
theorem dX3_areClashing_1 : decode cX3_areClashing 1 = .ok (.iload_n 1, 1) := by decide +kernel
theorem dX3_areClashing_2 : decode cX3_areClashing 2 = .ok (.invokevirtual 62, 3) := by decide +kernel
theorem dX3_areClashing_5 : decode cX3_areClashing 5 = .ok (.ifCond .eq 11, 3) := by decide +kernel
theorem dX3_areClashing_8 : decode cX3_areClashing 8 = .ok (.aload_n 0, 1) := by decide +kernel
theorem dX3_areClashing_9 : decode cX3_areClashing 9 = .ok (.iload_n 2, 1) := by decide +kernel
theorem dX3_areClashing_10 : decode cX3_areClashing 10 = .ok (.invokevirtual 62, 3) := by decide +kernel
theorem dX3_areClashing_13 : decode cX3_areClashing 13 = .ok (.ifCond .ne 5, 3) := by decide +kernel
theorem dX3_areClashing_16 : decode cX3_areClashing 16 = .ok (.iconst 0, 1) := by decide +kernel
theorem dX3_areClashing_17 : decode cX3_areClashing 17 = .ok (.ireturn, 1) := by decide +kernel
theorem dX3_areClashing_18 : decode cX3_areClashing 18 = .ok (.aload_n 0, 1) := by decide +kernel
theorem dX3_areClashing_19 : decode cX3_areClashing 19 = .ok (.iload_n 1, 1) := by decide +kernel
theorem dX3_areClashing_20 : decode cX3_areClashing 20 = .ok (.iconst 0, 1) := by decide +kernel
theorem dX3_areClashing_21 : decode cX3_areClashing 21 = .ok (.invokevirtual 56, 3) := by decide +kernel
theorem dX3_areClashing_24 : decode cX3_areClashing 24 = .ok (.aload_n 0, 1) := by decide +kernel
theorem dX3_areClashing_25 : decode cX3_areClashing 25 = .ok (.iload_n 2, 1) := by decide +kernel
theorem dX3_areClashing_26 : decode cX3_areClashing 26 = .ok (.iconst 0, 1) := by decide +kernel
theorem dX3_areClashing_27 : decode cX3_areClashing 27 = .ok (.invokevirtual 56, 3) := by decide +kernel
theorem dX3_areClashing_30 : decode cX3_areClashing 30 = .ok (.isub, 1) := by decide +kernel
theorem dX3_areClashing_31 : decode cX3_areClashing 31 = .ok (.istore_n 3, 1) := by decide +kernel
theorem dX3_areClashing_32 : decode cX3_areClashing 32 = .ok (.aload_n 0, 1) := by decide +kernel
theorem dX3_areClashing_33 : decode cX3_areClashing 33 = .ok (.aload_n 0, 1) := by decide +kernel
theorem dX3_areClashing_34 : decode cX3_areClashing 34 = .ok (.iload_n 1, 1) := by decide +kernel
theorem dX3_areClashing_35 : decode cX3_areClashing 35 = .ok (.iconst 2, 1) := by decide +kernel
theorem dX3_areClashing_36 : decode cX3_areClashing 36 = .ok (.invokevirtual 56, 3) := by decide +kernel
theorem dX3_areClashing_39 : decode cX3_areClashing 39 = .ok (.iconst 0, 1) := by decide +kernel
theorem dX3_areClashing_40 : decode cX3_areClashing 40 = .ok (.invokevirtual 59, 3) := by decide +kernel
theorem dX3_areClashing_43 : decode cX3_areClashing 43 = .ok (.aload_n 0, 1) := by decide +kernel
theorem dX3_areClashing_44 : decode cX3_areClashing 44 = .ok (.aload_n 0, 1) := by decide +kernel
theorem dX3_areClashing_45 : decode cX3_areClashing 45 = .ok (.iload_n 2, 1) := by decide +kernel
theorem dX3_areClashing_46 : decode cX3_areClashing 46 = .ok (.iconst 2, 1) := by decide +kernel
theorem dX3_areClashing_47 : decode cX3_areClashing 47 = .ok (.invokevirtual 56, 3) := by decide +kernel
theorem dX3_areClashing_50 : decode cX3_areClashing 50 = .ok (.iconst 0, 1) := by decide +kernel
theorem dX3_areClashing_51 : decode cX3_areClashing 51 = .ok (.invokevirtual 59, 3) := by decide +kernel
theorem dX3_areClashing_54 : decode cX3_areClashing 54 = .ok (.isub, 1) := by decide +kernel
theorem dX3_areClashing_55 : decode cX3_areClashing 55 = .ok (.istore 4, 2) := by decide +kernel
theorem dX3_areClashing_57 : decode cX3_areClashing 57 = .ok (.iload_n 3, 1) := by decide +kernel
theorem dX3_areClashing_58 : decode cX3_areClashing 58 = .ok (.ifCond .le 8, 3) := by decide +kernel
theorem dX3_areClashing_61 : decode cX3_areClashing 61 = .ok (.iload 4, 2) := by decide +kernel
theorem dX3_areClashing_63 : decode cX3_areClashing 63 = .ok (.ifCond .lt 12, 3) := by decide +kernel
theorem dX3_areClashing_66 : decode cX3_areClashing 66 = .ok (.iload_n 3, 1) := by decide +kernel
theorem dX3_areClashing_67 : decode cX3_areClashing 67 = .ok (.ifCond .ge 12, 3) := by decide +kernel
theorem dX3_areClashing_70 : decode cX3_areClashing 70 = .ok (.iload 4, 2) := by decide +kernel
theorem dX3_areClashing_72 : decode cX3_areClashing 72 = .ok (.ifCond .le 7, 3) := by decide +kernel
theorem dX3_areClashing_75 : decode cX3_areClashing 75 = .ok (.iconst 1, 1) := by decide +kernel
theorem dX3_areClashing_76 : decode cX3_areClashing 76 = .ok (.goto 4, 3) := by decide +kernel
theorem dX3_areClashing_79 : decode cX3_areClashing 79 = .ok (.iconst 0, 1) := by decide +kernel
theorem dX3_areClashing_80 : decode cX3_areClashing 80 = .ok (.ireturn, 1) := by decide +kernel
set_option maxRecDepth 20000 in
theorem ggX3_clashesWith_X3_areClashing : GoodIn wsX3_clashesWith wsX3_areClashing := goodIn_ca (goodIn_r _ [6, 7, 8, 9, 5, 10, 11, 12, 13, 14, 15, 16, 17, 18, 19, 20, 21, 22, 23, 24, 25, 26, 27, 28] (by decide +kernel) (by decide +kernel)) (goodIn_sub (fun _ h => List.mem_cons_of_mem _ (List.mem_append_right _ h)) (by decide +kernel))
set_option maxRecDepth 20000 in
theorem gX3_clashesWith_X3_areClashing : GoodIn wsX3_clashesWith (wsV RX3 74 RX3 yX3_areClashing wsX3_areClashing) := goodIn_app (goodIn_of _ (by decide +kernel)) ggX3_clashesWith_X3_areClashing
theorem dX3_clashesWith_0 : decode cX3_clashesWith 0 = .ok (.iconst 0, 1) := by decide +kernel
theorem dX3_clashesWith_1 : decode cX3_clashesWith 1 = .ok (.istore_n 2, 1) := by decide +kernel
theorem dX3_clashesWith_2 : decode cX3_clashesWith 2 = .ok (.iconst 0, 1) := by decide +kernel
theorem dX3_clashesWith_3 : decode cX3_clashesWith 3 = .ok (.istore_n 3, 1) := by decide +kernel
theorem dX3_clashesWith_4 : decode cX3_clashesWith 4 = .ok (.iload_n 3, 1) := by decide +kernel
theorem dX3_clashesWith_5 : decode cX3_clashesWith 5 = .ok (.aload_n 0, 1) := by decide +kernel
theorem dX3_clashesWith_6 : decode cX3_clashesWith 6 = .ok (.getfield 22, 3) := by decide +kernel
theorem dX3_clashesWith_9 : decode cX3_clashesWith 9 = .ok (.if_icmp .ge 21, 3) := by decide +kernel
theorem dX3_clashesWith_12 : decode cX3_clashesWith 12 = .ok (.aload_n 0, 1) := by decide +kernel
theorem dX3_clashesWith_13 : decode cX3_clashesWith 13 = .ok (.iload_n 1, 1) := by decide +kernel
theorem dX3_clashesWith_14 : decode cX3_clashesWith 14 = .ok (.iload_n 3, 1) := by decide +kernel
theorem dX3_clashesWith_15 : decode cX3_clashesWith 15 = .ok (.invokevirtual 74, 3) := by decide +kernel
theorem dX3_clashesWith_18 : decode cX3_clashesWith 18 = .ok (.ifCond .eq 6, 3) := by decide +kernel
theorem dX3_clashesWith_21 : decode cX3_clashesWith 21 = .ok (.iinc 2 1, 3) := by decide +kernel
theorem dX3_clashesWith_24 : decode cX3_clashesWith 24 = .ok (.iinc 3 1, 3) := by decide +kernel
theorem dX3_clashesWith_27 : decode cX3_clashesWith 27 = .ok (.goto (-23), 3) := by decide +kernel
theorem dX3_clashesWith_30 : decode cX3_clashesWith 30 = .ok (.iload_n 2, 1) := by decide +kernel
theorem dX3_clashesWith_31 : decode cX3_clashesWith 31 = .ok (.ireturn, 1) := by decide +kernel
set_option maxRecDepth 20000 in
theorem ggX3_clashesByPairs_X3_areClashing : GoodIn wsX3_clashesByPairs wsX3_areClashing := goodIn_ca (goodIn_r _ [6, 7, 8, 9, 5, 10, 11, 12, 13, 14, 15, 16, 17, 18, 19, 20, 21, 22, 23, 24, 25, 26, 27, 28] (by decide +kernel) (by decide +kernel)) (goodIn_sub (fun _ h => List.mem_cons_of_mem _ (List.mem_append_right _ h)) (by decide +kernel))
set_option maxRecDepth 20000 in
theorem gX3_clashesByPairs_X3_areClashing : GoodIn wsX3_clashesByPairs (wsV RX3 74 RX3 yX3_areClashing wsX3_areClashing) := goodIn_app (goodIn_of _ (by decide +kernel)) ggX3_clashesByPairs_X3_areClashing
theorem dX3_clashesByPairs_0 : decode cX3_clashesByPairs 0 = .ok (.iconst 0, 1) := by decide +kernel
theorem dX3_clashesByPairs_1 : decode cX3_clashesByPairs 1 = .ok (.istore_n 1, 1) := by decide +kernel
theorem dX3_clashesByPairs_2 : decode cX3_clashesByPairs 2 = .ok (.iconst 0, 1) := by decide +kernel
theorem dX3_clashesByPairs_3 : decode cX3_clashesByPairs 3 = .ok (.istore_n 2, 1) := by decide +kernel
theorem dX3_clashesByPairs_4 : decode cX3_clashesByPairs 4 = .ok (.iload_n 2, 1) := by decide +kernel
theorem dX3_clashesByPairs_5 : decode cX3_clashesByPairs 5 = .ok (.aload_n 0, 1) := by decide +kernel
theorem dX3_clashesByPairs_6 : decode cX3_clashesByPairs 6 = .ok (.getfield 22, 3) := by decide +kernel
theorem dX3_clashesByPairs_9 : decode cX3_clashesByPairs 9 = .ok (.if_icmp .ge 39, 3) := by decide +kernel
theorem dX3_clashesByPairs_12 : decode cX3_clashesByPairs 12 = .ok (.iload_n 2, 1) := by decide +kernel
theorem dX3_clashesByPairs_13 : decode cX3_clashesByPairs 13 = .ok (.iconst 1, 1) := by decide +kernel
theorem dX3_clashesByPairs_14 : decode cX3_clashesByPairs 14 = .ok (.iadd, 1) := by decide +kernel
theorem dX3_clashesByPairs_15 : decode cX3_clashesByPairs 15 = .ok (.istore_n 3, 1) := by decide +kernel
theorem dX3_clashesByPairs_16 : decode cX3_clashesByPairs 16 = .ok (.iload_n 3, 1) := by decide +kernel
theorem dX3_clashesByPairs_17 : decode cX3_clashesByPairs 17 = .ok (.aload_n 0, 1) := by decide +kernel
theorem dX3_clashesByPairs_18 : decode cX3_clashesByPairs 18 = .ok (.getfield 22, 3) := by decide +kernel
theorem dX3_clashesByPairs_21 : decode cX3_clashesByPairs 21 = .ok (.if_icmp .ge 21, 3) := by decide +kernel
theorem dX3_clashesByPairs_24 : decode cX3_clashesByPairs 24 = .ok (.aload_n 0, 1) := by decide +kernel
theorem dX3_clashesByPairs_25 : decode cX3_clashesByPairs 25 = .ok (.iload_n 2, 1) := by decide +kernel
theorem dX3_clashesByPairs_26 : decode cX3_clashesByPairs 26 = .ok (.iload_n 3, 1) := by decide +kernel
theorem dX3_clashesByPairs_27 : decode cX3_clashesByPairs 27 = .ok (.invokevirtual 74, 3) := by decide +kernel
theorem dX3_clashesByPairs_30 : decode cX3_clashesByPairs 30 = .ok (.ifCond .eq 6, 3) := by decide +kernel
theorem dX3_clashesByPairs_33 : decode cX3_clashesByPairs 33 = .ok (.iinc 1 1, 3) := by decide +kernel
theorem dX3_clashesByPairs_36 : decode cX3_clashesByPairs 36 = .ok (.iinc 3 1, 3) := by decide +kernel
theorem dX3_clashesByPairs_39 : decode cX3_clashesByPairs 39 = .ok (.goto (-23), 3) := by decide +kernel
theorem dX3_clashesByPairs_42 : decode cX3_clashesByPairs 42 = .ok (.iinc 2 1, 3) := by decide +kernel
theorem dX3_clashesByPairs_45 : decode cX3_clashesByPairs 45 = .ok (.goto (-41), 3) := by decide +kernel
theorem dX3_clashesByPairs_48 : decode cX3_clashesByPairs 48 = .ok (.iload_n 1, 1) := by decide +kernel
theorem dX3_clashesByPairs_49 : decode cX3_clashesByPairs 49 = .ok (.ireturn, 1) := by decide +kernel
set_option maxRecDepth 20000 in
theorem ggX3_clashesByStools_X3_ofStool : GoodIn wsX3_clashesByStools wsX3_ofStool := goodIn_ca (goodIn_r _ [6, 7, 17, 18, 19, 20, 21, 22, 23, 24] (by decide +kernel) (by decide +kernel)) (goodIn_sub (fun _ h => List.mem_cons_of_mem _ (List.mem_append_right _ h)) (by decide +kernel))
set_option maxRecDepth 20000 in
theorem gX3_clashesByStools_X3_ofStool : GoodIn wsX3_clashesByStools (wsV RX3 59 RX3 yX3_ofStool wsX3_ofStool) := goodIn_app (goodIn_of _ (by decide +kernel)) ggX3_clashesByStools_X3_ofStool
set_option maxRecDepth 20000 in
theorem ggX3_clashesByStools_X3_ofSitter : GoodIn wsX3_clashesByStools wsX3_ofSitter := goodIn_ca (goodIn_r _ [11, 12, 17, 18, 19, 20, 21, 22, 23, 24] (by decide +kernel) (by decide +kernel)) (goodIn_sub (fun _ h => List.mem_cons_of_mem _ (List.mem_append_right _ h)) (by decide +kernel))
set_option maxRecDepth 20000 in
theorem gX3_clashesByStools_X3_ofSitter : GoodIn wsX3_clashesByStools (wsV RX3 56 RX3 yX3_ofSitter wsX3_ofSitter) := goodIn_app (goodIn_of _ (by decide +kernel)) ggX3_clashesByStools_X3_ofSitter
set_option maxRecDepth 20000 in
theorem ggX3_clashesByStools_X3_sittersAbove : GoodIn wsX3_clashesByStools wsX3_sittersAbove := goodIn_ca (goodIn_r _ [16, 1, 2, 3, 4, 5, 6, 7, 8, 9, 10, 11, 12, 17, 18, 19, 20, 21, 22, 23, 24] (by decide +kernel) (by decide +kernel)) (goodIn_sub (fun _ h => List.mem_cons_of_mem _ (List.mem_append_right _ h)) (by decide +kernel))
set_option maxRecDepth 20000 in
theorem gX3_clashesByStools_X3_sittersAbove : GoodIn wsX3_clashesByStools (wsV RX3 77 RX3 yX3_sittersAbove wsX3_sittersAbove) := goodIn_app (goodIn_of _ (by decide +kernel)) ggX3_clashesByStools_X3_sittersAbove
theorem dX3_clashesByStools_0 : decode cX3_clashesByStools 0 = .ok (.iconst 0, 1) := by decide +kernel
theorem dX3_clashesByStools_1 : decode cX3_clashesByStools 1 = .ok (.istore_n 1, 1) := by decide +kernel
theorem dX3_clashesByStools_2 : decode cX3_clashesByStools 2 = .ok (.iconst 0, 1) := by decide +kernel
theorem dX3_clashesByStools_3 : decode cX3_clashesByStools 3 = .ok (.istore_n 2, 1) := by decide +kernel
theorem dX3_clashesByStools_4 : decode cX3_clashesByStools 4 = .ok (.iload_n 2, 1) := by decide +kernel
theorem dX3_clashesByStools_5 : decode cX3_clashesByStools 5 = .ok (.aload_n 0, 1) := by decide +kernel
theorem dX3_clashesByStools_6 : decode cX3_clashesByStools 6 = .ok (.getfield 18, 3) := by decide +kernel
theorem dX3_clashesByStools_9 : decode cX3_clashesByStools 9 = .ok (.if_icmp .ge 51, 3) := by decide +kernel
theorem dX3_clashesByStools_12 : decode cX3_clashesByStools 12 = .ok (.aload_n 0, 1) := by decide +kernel
theorem dX3_clashesByStools_13 : decode cX3_clashesByStools 13 = .ok (.aload_n 0, 1) := by decide +kernel
theorem dX3_clashesByStools_14 : decode cX3_clashesByStools 14 = .ok (.iload_n 2, 1) := by decide +kernel
theorem dX3_clashesByStools_15 : decode cX3_clashesByStools 15 = .ok (.iconst 5, 1) := by decide +kernel
theorem dX3_clashesByStools_16 : decode cX3_clashesByStools 16 = .ok (.invokevirtual 59, 3) := by decide +kernel
theorem dX3_clashesByStools_19 : decode cX3_clashesByStools 19 = .ok (.iconst 0, 1) := by decide +kernel
theorem dX3_clashesByStools_20 : decode cX3_clashesByStools 20 = .ok (.invokevirtual 56, 3) := by decide +kernel
theorem dX3_clashesByStools_23 : decode cX3_clashesByStools 23 = .ok (.istore_n 3, 1) := by decide +kernel
theorem dX3_clashesByStools_24 : decode cX3_clashesByStools 24 = .ok (.iconst 0, 1) := by decide +kernel
theorem dX3_clashesByStools_25 : decode cX3_clashesByStools 25 = .ok (.istore 4, 2) := by decide +kernel
theorem dX3_clashesByStools_27 : decode cX3_clashesByStools 27 = .ok (.iload 4, 2) := by decide +kernel
theorem dX3_clashesByStools_29 : decode cX3_clashesByStools 29 = .ok (.iload_n 3, 1) := by decide +kernel
theorem dX3_clashesByStools_30 : decode cX3_clashesByStools 30 = .ok (.if_icmp .ge 24, 3) := by decide +kernel
theorem dX3_clashesByStools_33 : decode cX3_clashesByStools 33 = .ok (.iload_n 1, 1) := by decide +kernel
theorem dX3_clashesByStools_34 : decode cX3_clashesByStools 34 = .ok (.aload_n 0, 1) := by decide +kernel
theorem dX3_clashesByStools_35 : decode cX3_clashesByStools 35 = .ok (.aload_n 0, 1) := by decide +kernel
theorem dX3_clashesByStools_36 : decode cX3_clashesByStools 36 = .ok (.iload_n 2, 1) := by decide +kernel
theorem dX3_clashesByStools_37 : decode cX3_clashesByStools 37 = .ok (.iconst 0, 1) := by decide +kernel
theorem dX3_clashesByStools_38 : decode cX3_clashesByStools 38 = .ok (.invokevirtual 59, 3) := by decide +kernel
theorem dX3_clashesByStools_41 : decode cX3_clashesByStools 41 = .ok (.iload 4, 2) := by decide +kernel
theorem dX3_clashesByStools_43 : decode cX3_clashesByStools 43 = .ok (.invokevirtual 77, 3) := by decide +kernel
theorem dX3_clashesByStools_46 : decode cX3_clashesByStools 46 = .ok (.iadd, 1) := by decide +kernel
theorem dX3_clashesByStools_47 : decode cX3_clashesByStools 47 = .ok (.istore_n 1, 1) := by decide +kernel
theorem dX3_clashesByStools_48 : decode cX3_clashesByStools 48 = .ok (.iinc 4 1, 3) := by decide +kernel
theorem dX3_clashesByStools_51 : decode cX3_clashesByStools 51 = .ok (.goto (-24), 3) := by decide +kernel
theorem dX3_clashesByStools_54 : decode cX3_clashesByStools 54 = .ok (.iinc 2 1, 3) := by decide +kernel
theorem dX3_clashesByStools_57 : decode cX3_clashesByStools 57 = .ok (.goto (-53), 3) := by decide +kernel
theorem dX3_clashesByStools_60 : decode cX3_clashesByStools 60 = .ok (.iload_n 1, 1) := by decide +kernel
theorem dX3_clashesByStools_61 : decode cX3_clashesByStools 61 = .ok (.ireturn, 1) := by decide +kernel
set_option maxRecDepth 20000 in
theorem ggX3_sittersAbove_X3_ofStool : GoodIn wsX3_sittersAbove wsX3_ofStool := goodIn_ca (goodIn_r _ [6, 7, 13, 14, 15, 16, 17, 18, 19, 20] (by decide +kernel) (by decide +kernel)) (goodIn_sub (fun _ h => List.mem_cons_of_mem _ (List.mem_append_right _ h)) (by decide +kernel))
set_option maxRecDepth 20000 in
theorem gX3_sittersAbove_X3_ofStool : GoodIn wsX3_sittersAbove (wsV RX3 59 RX3 yX3_ofStool wsX3_ofStool) := goodIn_app (goodIn_of _ (by decide +kernel)) ggX3_sittersAbove_X3_ofStool
set_option maxRecDepth 20000 in
theorem ggX3_sittersAbove_X3_ofSitter : GoodIn wsX3_sittersAbove wsX3_ofSitter := goodIn_ca (goodIn_r _ [11, 12, 13, 14, 15, 16, 17, 18, 19, 20] (by decide +kernel) (by decide +kernel)) (goodIn_sub (fun _ h => List.mem_cons_of_mem _ (List.mem_append_right _ h)) (by decide +kernel))
set_option maxRecDepth 20000 in
theorem gX3_sittersAbove_X3_ofSitter : GoodIn wsX3_sittersAbove (wsV RX3 56 RX3 yX3_ofSitter wsX3_ofSitter) := goodIn_app (goodIn_of _ (by decide +kernel)) ggX3_sittersAbove_X3_ofSitter
theorem dX3_sittersAbove_0 : decode cX3_sittersAbove 0 = .ok (.iconst 0, 1) := by decide +kernel
theorem dX3_sittersAbove_1 : decode cX3_sittersAbove 1 = .ok (.istore_n 3, 1) := by decide +kernel
theorem dX3_sittersAbove_2 : decode cX3_sittersAbove 2 = .ok (.iconst 0, 1) := by decide +kernel
theorem dX3_sittersAbove_3 : decode cX3_sittersAbove 3 = .ok (.istore 4, 2) := by decide +kernel
theorem dX3_sittersAbove_5 : decode cX3_sittersAbove 5 = .ok (.iload 4, 2) := by decide +kernel
theorem dX3_sittersAbove_7 : decode cX3_sittersAbove 7 = .ok (.aload_n 0, 1) := by decide +kernel
theorem dX3_sittersAbove_8 : decode cX3_sittersAbove 8 = .ok (.getfield 18, 3) := by decide +kernel
theorem dX3_sittersAbove_11 : decode cX3_sittersAbove 11 = .ok (.if_icmp .ge 49, 3) := by decide +kernel
theorem dX3_sittersAbove_14 : decode cX3_sittersAbove 14 = .ok (.aload_n 0, 1) := by decide +kernel
theorem dX3_sittersAbove_15 : decode cX3_sittersAbove 15 = .ok (.iload 4, 2) := by decide +kernel
theorem dX3_sittersAbove_17 : decode cX3_sittersAbove 17 = .ok (.iconst 5, 1) := by decide +kernel
theorem dX3_sittersAbove_18 : decode cX3_sittersAbove 18 = .ok (.invokevirtual 59, 3) := by decide +kernel
theorem dX3_sittersAbove_21 : decode cX3_sittersAbove 21 = .ok (.istore 5, 2) := by decide +kernel
theorem dX3_sittersAbove_23 : decode cX3_sittersAbove 23 = .ok (.iload 5, 2) := by decide +kernel
theorem dX3_sittersAbove_25 : decode cX3_sittersAbove 25 = .ok (.iconst (-1), 1) := by decide +kernel
theorem dX3_sittersAbove_26 : decode cX3_sittersAbove 26 = .ok (.if_icmp .eq 28, 3) := by decide +kernel
theorem dX3_sittersAbove_29 : decode cX3_sittersAbove 29 = .ok (.aload_n 0, 1) := by decide +kernel
theorem dX3_sittersAbove_30 : decode cX3_sittersAbove 30 = .ok (.iload 5, 2) := by decide +kernel
theorem dX3_sittersAbove_32 : decode cX3_sittersAbove 32 = .ok (.iconst 0, 1) := by decide +kernel
theorem dX3_sittersAbove_33 : decode cX3_sittersAbove 33 = .ok (.invokevirtual 56, 3) := by decide +kernel
theorem dX3_sittersAbove_36 : decode cX3_sittersAbove 36 = .ok (.iload_n 2, 1) := by decide +kernel
theorem dX3_sittersAbove_37 : decode cX3_sittersAbove 37 = .ok (.if_icmp .ne 17, 3) := by decide +kernel
theorem dX3_sittersAbove_40 : decode cX3_sittersAbove 40 = .ok (.aload_n 0, 1) := by decide +kernel
theorem dX3_sittersAbove_41 : decode cX3_sittersAbove 41 = .ok (.iload 4, 2) := by decide +kernel
theorem dX3_sittersAbove_43 : decode cX3_sittersAbove 43 = .ok (.iconst 0, 1) := by decide +kernel
theorem dX3_sittersAbove_44 : decode cX3_sittersAbove 44 = .ok (.invokevirtual 59, 3) := by decide +kernel
theorem dX3_sittersAbove_47 : decode cX3_sittersAbove 47 = .ok (.iload_n 1, 1) := by decide +kernel
theorem dX3_sittersAbove_48 : decode cX3_sittersAbove 48 = .ok (.if_icmp .le 6, 3) := by decide +kernel
theorem dX3_sittersAbove_51 : decode cX3_sittersAbove 51 = .ok (.iinc 3 1, 3) := by decide +kernel
theorem dX3_sittersAbove_54 : decode cX3_sittersAbove 54 = .ok (.iinc 4 1, 3) := by decide +kernel
theorem dX3_sittersAbove_57 : decode cX3_sittersAbove 57 = .ok (.goto (-52), 3) := by decide +kernel
theorem dX3_sittersAbove_60 : decode cX3_sittersAbove 60 = .ok (.iload_n 3, 1) := by decide +kernel
theorem dX3_sittersAbove_61 : decode cX3_sittersAbove 61 = .ok (.ireturn, 1) := by decide +kernel
set_option maxRecDepth 20000 in
theorem ggX3_seatAnew_X3_setOfStool : GoodIn wsX3_seatAnew wsX3_setOfStool := goodIn_ca (goodIn_r _ [7, 8, 42, 43, 44, 45, 46, 47, 48, 49] (by decide +kernel) (by decide +kernel)) (goodIn_sub (fun _ h => List.mem_cons_of_mem _ (List.mem_append_right _ h)) (by decide +kernel))
set_option maxRecDepth 20000 in
theorem gX3_seatAnew_X3_setOfStool : GoodIn wsX3_seatAnew (wsV RX3 49 RX3 yX3_setOfStool wsX3_setOfStool) := goodIn_app (goodIn_of _ (by decide +kernel)) ggX3_seatAnew_X3_setOfStool
set_option maxRecDepth 20000 in
theorem ggX3_seatAnew_X3_rankedAt : GoodIn wsX3_seatAnew wsX3_rankedAt := goodIn_ca (goodIn_r _ [12, 2, 13, 14, 15, 6, 16, 17, 18, 19, 20, 21, 42, 43, 44, 45, 46, 47, 48, 49] (by decide +kernel) (by decide +kernel)) (goodIn_sub (fun _ h => List.mem_cons_of_mem _ (List.mem_append_right _ h)) (by decide +kernel))
set_option maxRecDepth 20000 in
theorem gX3_seatAnew_X3_rankedAt : GoodIn wsX3_seatAnew (wsV RX3 80 RX3 yX3_rankedAt wsX3_rankedAt) := goodIn_app (goodIn_of _ (by decide +kernel)) ggX3_seatAnew_X3_rankedAt
set_option maxRecDepth 20000 in
theorem ggX3_seatAnew_X3_ofSitter : GoodIn wsX3_seatAnew wsX3_ofSitter := goodIn_ca (goodIn_r _ [20, 21, 42, 43, 44, 45, 46, 47, 48, 49] (by decide +kernel) (by decide +kernel)) (goodIn_sub (fun _ h => List.mem_cons_of_mem _ (List.mem_append_right _ h)) (by decide +kernel))
set_option maxRecDepth 20000 in
theorem gX3_seatAnew_X3_ofSitter : GoodIn wsX3_seatAnew (wsV RX3 56 RX3 yX3_ofSitter wsX3_ofSitter) := goodIn_app (goodIn_of _ (by decide +kernel)) ggX3_seatAnew_X3_ofSitter
set_option maxRecDepth 20000 in
theorem ggX3_seatAnew_X3_highestFree : GoodIn wsX3_seatAnew wsX3_highestFree := goodIn_ca (goodIn_r _ [25, 1, 26, 27, 28, 6, 29, 8, 30, 31, 32, 33, 17, 18, 19, 20, 21, 42, 43, 44, 45, 46, 47, 48, 49] (by decide +kernel) (by decide +kernel)) (goodIn_sub (fun _ h => List.mem_cons_of_mem _ (List.mem_append_right _ h)) (by decide +kernel))
set_option maxRecDepth 20000 in
theorem gX3_seatAnew_X3_highestFree : GoodIn wsX3_seatAnew (wsV RX3 84 RX3 yX3_highestFree wsX3_highestFree) := goodIn_app (goodIn_of _ (by decide +kernel)) ggX3_seatAnew_X3_highestFree
set_option maxRecDepth 20000 in
theorem ggX3_seatAnew_X3_take : GoodIn wsX3_seatAnew wsX3_take := goodIn_ca (goodIn_r _ [37, 38, 39, 40, 6, 41, 21, 3, 4, 5, 7, 8, 42, 43, 44, 45, 46, 47, 48, 49] (by decide +kernel) (by decide +kernel)) (goodIn_sub (fun _ h => List.mem_cons_of_mem _ (List.mem_append_right _ h)) (by decide +kernel))
set_option maxRecDepth 20000 in
theorem gX3_seatAnew_X3_take : GoodIn wsX3_seatAnew (wsV RX3 70 RX3 yX3_take wsX3_take) := goodIn_app (goodIn_of _ (by decide +kernel)) ggX3_seatAnew_X3_take
theorem dX3_seatAnew_0 : decode cX3_seatAnew 0 = .ok (.iload_n 1, 1) := by decide +kernel
theorem dX3_seatAnew_1 : decode cX3_seatAnew 1 = .ok (.istore_n 3, 1) := by decide +kernel
theorem dX3_seatAnew_2 : decode cX3_seatAnew 2 = .ok (.iload_n 3, 1) := by decide +kernel
theorem dX3_seatAnew_3 : decode cX3_seatAnew 3 = .ok (.iload_n 2, 1) := by decide +kernel
theorem dX3_seatAnew_4 : decode cX3_seatAnew 4 = .ok (.if_icmp .gt 24, 3) := by decide +kernel
theorem dX3_seatAnew_7 : decode cX3_seatAnew 7 = .ok (.iload_n 3, 1) := by decide +kernel
theorem dX3_seatAnew_8 : decode cX3_seatAnew 8 = .ok (.aload_n 0, 1) := by decide +kernel
theorem dX3_seatAnew_9 : decode cX3_seatAnew 9 = .ok (.getfield 18, 3) := by decide +kernel
theorem dX3_seatAnew_12 : decode cX3_seatAnew 12 = .ok (.if_icmp .ge 16, 3) := by decide +kernel
theorem dX3_seatAnew_15 : decode cX3_seatAnew 15 = .ok (.aload_n 0, 1) := by decide +kernel
theorem dX3_seatAnew_16 : decode cX3_seatAnew 16 = .ok (.iload_n 3, 1) := by decide +kernel
theorem dX3_seatAnew_17 : decode cX3_seatAnew 17 = .ok (.iconst 5, 1) := by decide +kernel
theorem dX3_seatAnew_18 : decode cX3_seatAnew 18 = .ok (.iconst (-1), 1) := by decide +kernel
theorem dX3_seatAnew_19 : decode cX3_seatAnew 19 = .ok (.invokevirtual 49, 3) := by decide +kernel
theorem dX3_seatAnew_22 : decode cX3_seatAnew 22 = .ok (.iinc 3 1, 3) := by decide +kernel
theorem dX3_seatAnew_25 : decode cX3_seatAnew 25 = .ok (.goto (-23), 3) := by decide +kernel
theorem dX3_seatAnew_28 : decode cX3_seatAnew 28 = .ok (.iconst 0, 1) := by decide +kernel
theorem dX3_seatAnew_29 : decode cX3_seatAnew 29 = .ok (.istore_n 3, 1) := by decide +kernel
theorem dX3_seatAnew_30 : decode cX3_seatAnew 30 = .ok (.iconst 0, 1) := by decide +kernel
theorem dX3_seatAnew_31 : decode cX3_seatAnew 31 = .ok (.istore 4, 2) := by decide +kernel
theorem dX3_seatAnew_33 : decode cX3_seatAnew 33 = .ok (.iload 4, 2) := by decide +kernel
theorem dX3_seatAnew_35 : decode cX3_seatAnew 35 = .ok (.aload_n 0, 1) := by decide +kernel
theorem dX3_seatAnew_36 : decode cX3_seatAnew 36 = .ok (.getfield 22, 3) := by decide +kernel
theorem dX3_seatAnew_39 : decode cX3_seatAnew 39 = .ok (.if_icmp .ge 71, 3) := by decide +kernel
theorem dX3_seatAnew_42 : decode cX3_seatAnew 42 = .ok (.aload_n 0, 1) := by decide +kernel
theorem dX3_seatAnew_43 : decode cX3_seatAnew 43 = .ok (.iload 4, 2) := by decide +kernel
theorem dX3_seatAnew_45 : decode cX3_seatAnew 45 = .ok (.invokevirtual 80, 3) := by decide +kernel
theorem dX3_seatAnew_48 : decode cX3_seatAnew 48 = .ok (.istore 5, 2) := by decide +kernel
theorem dX3_seatAnew_50 : decode cX3_seatAnew 50 = .ok (.aload_n 0, 1) := by decide +kernel
theorem dX3_seatAnew_51 : decode cX3_seatAnew 51 = .ok (.iload 5, 2) := by decide +kernel
theorem dX3_seatAnew_53 : decode cX3_seatAnew 53 = .ok (.iconst 2, 1) := by decide +kernel
theorem dX3_seatAnew_54 : decode cX3_seatAnew 54 = .ok (.invokevirtual 56, 3) := by decide +kernel
theorem dX3_seatAnew_57 : decode cX3_seatAnew 57 = .ok (.istore 6, 2) := by decide +kernel
theorem dX3_seatAnew_59 : decode cX3_seatAnew 59 = .ok (.iload 6, 2) := by decide +kernel
theorem dX3_seatAnew_61 : decode cX3_seatAnew 61 = .ok (.iload_n 1, 1) := by decide +kernel
theorem dX3_seatAnew_62 : decode cX3_seatAnew 62 = .ok (.if_icmp .lt 42, 3) := by decide +kernel
theorem dX3_seatAnew_65 : decode cX3_seatAnew 65 = .ok (.iload 6, 2) := by decide +kernel
theorem dX3_seatAnew_67 : decode cX3_seatAnew 67 = .ok (.iload_n 2, 1) := by decide +kernel
theorem dX3_seatAnew_68 : decode cX3_seatAnew 68 = .ok (.if_icmp .gt 36, 3) := by decide +kernel
theorem dX3_seatAnew_71 : decode cX3_seatAnew 71 = .ok (.aload_n 0, 1) := by decide +kernel
theorem dX3_seatAnew_72 : decode cX3_seatAnew 72 = .ok (.iload 5, 2) := by decide +kernel
theorem dX3_seatAnew_74 : decode cX3_seatAnew 74 = .ok (.iload_n 1, 1) := by decide +kernel
theorem dX3_seatAnew_75 : decode cX3_seatAnew 75 = .ok (.iload_n 2, 1) := by decide +kernel
theorem dX3_seatAnew_76 : decode cX3_seatAnew 76 = .ok (.invokevirtual 84, 3) := by decide +kernel
theorem dX3_seatAnew_79 : decode cX3_seatAnew 79 = .ok (.istore 7, 2) := by decide +kernel
theorem dX3_seatAnew_81 : decode cX3_seatAnew 81 = .ok (.aload_n 0, 1) := by decide +kernel
theorem dX3_seatAnew_82 : decode cX3_seatAnew 82 = .ok (.iload 5, 2) := by decide +kernel
theorem dX3_seatAnew_84 : decode cX3_seatAnew 84 = .ok (.iload 7, 2) := by decide +kernel
theorem dX3_seatAnew_86 : decode cX3_seatAnew 86 = .ok (.invokevirtual 70, 3) := by decide +kernel
theorem dX3_seatAnew_89 : decode cX3_seatAnew 89 = .ok (.iload_n 3, 1) := by decide +kernel
theorem dX3_seatAnew_90 : decode cX3_seatAnew 90 = .ok (.iload 7, 2) := by decide +kernel
theorem dX3_seatAnew_92 : decode cX3_seatAnew 92 = .ok (.iload 6, 2) := by decide +kernel
theorem dX3_seatAnew_94 : decode cX3_seatAnew 94 = .ok (.if_icmp .ne 7, 3) := by decide +kernel
theorem dX3_seatAnew_97 : decode cX3_seatAnew 97 = .ok (.iconst 0, 1) := by decide +kernel
theorem dX3_seatAnew_98 : decode cX3_seatAnew 98 = .ok (.goto 4, 3) := by decide +kernel
theorem dX3_seatAnew_101 : decode cX3_seatAnew 101 = .ok (.iconst 1, 1) := by decide +kernel
theorem dX3_seatAnew_102 : decode cX3_seatAnew 102 = .ok (.iadd, 1) := by decide +kernel
theorem dX3_seatAnew_103 : decode cX3_seatAnew 103 = .ok (.istore_n 3, 1) := by decide +kernel
theorem dX3_seatAnew_104 : decode cX3_seatAnew 104 = .ok (.iinc 4 1, 3) := by decide +kernel
theorem dX3_seatAnew_107 : decode cX3_seatAnew 107 = .ok (.goto (-74), 3) := by decide +kernel
theorem dX3_seatAnew_110 : decode cX3_seatAnew 110 = .ok (.iload_n 3, 1) := by decide +kernel
theorem dX3_seatAnew_111 : decode cX3_seatAnew 111 = .ok (.ireturn, 1) := by decide +kernel
set_option maxRecDepth 20000 in
theorem ggX3_highestFree_X3_ofStool : GoodIn wsX3_highestFree wsX3_ofStool := goodIn_ca (goodIn_r _ [6, 7, 17, 18, 19, 20, 21, 22, 23, 24] (by decide +kernel) (by decide +kernel)) (goodIn_sub (fun _ h => List.mem_cons_of_mem _ (List.mem_append_right _ h)) (by decide +kernel))
set_option maxRecDepth 20000 in
theorem gX3_highestFree_X3_ofStool : GoodIn wsX3_highestFree (wsV RX3 59 RX3 yX3_ofStool wsX3_ofStool) := goodIn_app (goodIn_of _ (by decide +kernel)) ggX3_highestFree_X3_ofStool
set_option maxRecDepth 20000 in
theorem ggX3_highestFree_X3_maySit : GoodIn wsX3_highestFree wsX3_maySit := goodIn_ca (goodIn_r _ [11, 12, 13, 14, 5, 15, 16, 2, 3, 4, 6, 7, 17, 18, 19, 20, 21, 22, 23, 24] (by decide +kernel) (by decide +kernel)) (goodIn_sub (fun _ h => List.mem_cons_of_mem _ (List.mem_append_right _ h)) (by decide +kernel))
set_option maxRecDepth 20000 in
theorem gX3_highestFree_X3_maySit : GoodIn wsX3_highestFree (wsV RX3 66 RX3 yX3_maySit wsX3_maySit) := goodIn_app (goodIn_of _ (by decide +kernel)) ggX3_highestFree_X3_maySit
theorem dX3_highestFree_0 : decode cX3_highestFree 0 = .ok (.iconst (-1), 1) := by decide +kernel
theorem dX3_highestFree_1 : decode cX3_highestFree 1 = .ok (.istore 4, 2) := by decide +kernel
theorem dX3_highestFree_3 : decode cX3_highestFree 3 = .ok (.iload_n 2, 1) := by decide +kernel
theorem dX3_highestFree_4 : decode cX3_highestFree 4 = .ok (.istore 5, 2) := by decide +kernel
theorem dX3_highestFree_6 : decode cX3_highestFree 6 = .ok (.iload 5, 2) := by decide +kernel
theorem dX3_highestFree_8 : decode cX3_highestFree 8 = .ok (.iload_n 3, 1) := by decide +kernel
theorem dX3_highestFree_9 : decode cX3_highestFree 9 = .ok (.if_icmp .gt 60, 3) := by decide +kernel
theorem dX3_highestFree_12 : decode cX3_highestFree 12 = .ok (.iload 5, 2) := by decide +kernel
theorem dX3_highestFree_14 : decode cX3_highestFree 14 = .ok (.aload_n 0, 1) := by decide +kernel
theorem dX3_highestFree_15 : decode cX3_highestFree 15 = .ok (.getfield 18, 3) := by decide +kernel
theorem dX3_highestFree_18 : decode cX3_highestFree 18 = .ok (.if_icmp .ge 51, 3) := by decide +kernel
theorem dX3_highestFree_21 : decode cX3_highestFree 21 = .ok (.aload_n 0, 1) := by decide +kernel
theorem dX3_highestFree_22 : decode cX3_highestFree 22 = .ok (.iload 5, 2) := by decide +kernel
theorem dX3_highestFree_24 : decode cX3_highestFree 24 = .ok (.iconst 5, 1) := by decide +kernel
theorem dX3_highestFree_25 : decode cX3_highestFree 25 = .ok (.invokevirtual 59, 3) := by decide +kernel
theorem dX3_highestFree_28 : decode cX3_highestFree 28 = .ok (.iconst (-1), 1) := by decide +kernel
theorem dX3_highestFree_29 : decode cX3_highestFree 29 = .ok (.if_icmp .ne 34, 3) := by decide +kernel
theorem dX3_highestFree_32 : decode cX3_highestFree 32 = .ok (.aload_n 0, 1) := by decide +kernel
theorem dX3_highestFree_33 : decode cX3_highestFree 33 = .ok (.iload_n 1, 1) := by decide +kernel
theorem dX3_highestFree_34 : decode cX3_highestFree 34 = .ok (.iload 5, 2) := by decide +kernel
theorem dX3_highestFree_36 : decode cX3_highestFree 36 = .ok (.invokevirtual 66, 3) := by decide +kernel
theorem dX3_highestFree_39 : decode cX3_highestFree 39 = .ok (.ifCond .eq 24, 3) := by decide +kernel
theorem dX3_highestFree_42 : decode cX3_highestFree 42 = .ok (.aload_n 0, 1) := by decide +kernel
theorem dX3_highestFree_43 : decode cX3_highestFree 43 = .ok (.iload 5, 2) := by decide +kernel
theorem dX3_highestFree_45 : decode cX3_highestFree 45 = .ok (.iconst 0, 1) := by decide +kernel
theorem dX3_highestFree_46 : decode cX3_highestFree 46 = .ok (.invokevirtual 59, 3) := by decide +kernel
theorem dX3_highestFree_49 : decode cX3_highestFree 49 = .ok (.aload_n 0, 1) := by decide +kernel
theorem dX3_highestFree_50 : decode cX3_highestFree 50 = .ok (.iload 4, 2) := by decide +kernel
theorem dX3_highestFree_52 : decode cX3_highestFree 52 = .ok (.iconst 0, 1) := by decide +kernel
theorem dX3_highestFree_53 : decode cX3_highestFree 53 = .ok (.invokevirtual 59, 3) := by decide +kernel
theorem dX3_highestFree_56 : decode cX3_highestFree 56 = .ok (.if_icmp .le 7, 3) := by decide +kernel
theorem dX3_highestFree_59 : decode cX3_highestFree 59 = .ok (.iload 5, 2) := by decide +kernel
theorem dX3_highestFree_61 : decode cX3_highestFree 61 = .ok (.istore 4, 2) := by decide +kernel
theorem dX3_highestFree_63 : decode cX3_highestFree 63 = .ok (.iinc 5 1, 3) := by decide +kernel
theorem dX3_highestFree_66 : decode cX3_highestFree 66 = .ok (.goto (-60), 3) := by decide +kernel
theorem dX3_highestFree_69 : decode cX3_highestFree 69 = .ok (.iload 4, 2) := by decide +kernel
theorem dX3_highestFree_71 : decode cX3_highestFree 71 = .ok (.ireturn, 1) := by decide +kernel
set_option maxRecDepth 20000 in
theorem ggX3_addCoin_X3_ofStool : GoodIn wsX3_addCoin wsX3_ofStool := goodIn_ca (goodIn_r _ [6, 7, 12, 13, 14, 15, 16, 17, 18, 19] (by decide +kernel) (by decide +kernel)) (goodIn_sub (fun _ h => List.mem_cons_of_mem _ (List.mem_append_right _ h)) (by decide +kernel))
set_option maxRecDepth 20000 in
theorem gX3_addCoin_X3_ofStool : GoodIn wsX3_addCoin (wsV RX3 59 RX3 yX3_ofStool wsX3_ofStool) := goodIn_app (goodIn_of _ (by decide +kernel)) ggX3_addCoin_X3_ofStool
set_option maxRecDepth 20000 in
theorem ggX3_addCoin_X3_setOfStool : GoodIn wsX3_addCoin wsX3_setOfStool := goodIn_ca (goodIn_r _ [11, 7, 12, 13, 14, 15, 16, 17, 18, 19] (by decide +kernel) (by decide +kernel)) (goodIn_sub (fun _ h => List.mem_cons_of_mem _ (List.mem_append_right _ h)) (by decide +kernel))
set_option maxRecDepth 20000 in
theorem gX3_addCoin_X3_setOfStool : GoodIn wsX3_addCoin (wsV RX3 49 RX3 yX3_setOfStool wsX3_setOfStool) := goodIn_app (goodIn_of _ (by decide +kernel)) ggX3_addCoin_X3_setOfStool
theorem dX3_addCoin_0 : decode cX3_addCoin 0 = .ok (.aload_n 0, 1) := by decide +kernel
theorem dX3_addCoin_1 : decode cX3_addCoin 1 = .ok (.iload_n 1, 1) := by decide +kernel
theorem dX3_addCoin_2 : decode cX3_addCoin 2 = .ok (.iconst 2, 1) := by decide +kernel
theorem dX3_addCoin_3 : decode cX3_addCoin 3 = .ok (.invokevirtual 59, 3) := by decide +kernel
theorem dX3_addCoin_6 : decode cX3_addCoin 6 = .ok (.iconst 1, 1) := by decide +kernel
theorem dX3_addCoin_7 : decode cX3_addCoin 7 = .ok (.isub, 1) := by decide +kernel
theorem dX3_addCoin_8 : decode cX3_addCoin 8 = .ok (.istore_n 2, 1) := by decide +kernel
theorem dX3_addCoin_9 : decode cX3_addCoin 9 = .ok (.aload_n 0, 1) := by decide +kernel
theorem dX3_addCoin_10 : decode cX3_addCoin 10 = .ok (.dup, 1) := by decide +kernel
theorem dX3_addCoin_11 : decode cX3_addCoin 11 = .ok (.getfield 25, 3) := by decide +kernel
theorem dX3_addCoin_14 : decode cX3_addCoin 14 = .ok (.iconst 1, 1) := by decide +kernel
theorem dX3_addCoin_15 : decode cX3_addCoin 15 = .ok (.isub, 1) := by decide +kernel
theorem dX3_addCoin_16 : decode cX3_addCoin 16 = .ok (.putfield 25, 3) := by decide +kernel
theorem dX3_addCoin_19 : decode cX3_addCoin 19 = .ok (.aload_n 0, 1) := by decide +kernel
theorem dX3_addCoin_20 : decode cX3_addCoin 20 = .ok (.iload_n 1, 1) := by decide +kernel
theorem dX3_addCoin_21 : decode cX3_addCoin 21 = .ok (.iconst 4, 1) := by decide +kernel
theorem dX3_addCoin_22 : decode cX3_addCoin 22 = .ok (.aload_n 0, 1) := by decide +kernel
theorem dX3_addCoin_23 : decode cX3_addCoin 23 = .ok (.iload_n 1, 1) := by decide +kernel
theorem dX3_addCoin_24 : decode cX3_addCoin 24 = .ok (.iconst 4, 1) := by decide +kernel
theorem dX3_addCoin_25 : decode cX3_addCoin 25 = .ok (.invokevirtual 59, 3) := by decide +kernel
theorem dX3_addCoin_28 : decode cX3_addCoin 28 = .ok (.iconst 1, 1) := by decide +kernel
theorem dX3_addCoin_29 : decode cX3_addCoin 29 = .ok (.iadd, 1) := by decide +kernel
theorem dX3_addCoin_30 : decode cX3_addCoin 30 = .ok (.invokevirtual 49, 3) := by decide +kernel
theorem dX3_addCoin_33 : decode cX3_addCoin 33 = .ok (.aload_n 0, 1) := by decide +kernel
theorem dX3_addCoin_34 : decode cX3_addCoin 34 = .ok (.iload_n 1, 1) := by decide +kernel
theorem dX3_addCoin_35 : decode cX3_addCoin 35 = .ok (.iconst 2, 1) := by decide +kernel
theorem dX3_addCoin_36 : decode cX3_addCoin 36 = .ok (.iload_n 2, 1) := by decide +kernel
theorem dX3_addCoin_37 : decode cX3_addCoin 37 = .ok (.invokevirtual 49, 3) := by decide +kernel
theorem dX3_addCoin_40 : decode cX3_addCoin 40 = .ok (.iload_n 2, 1) := by decide +kernel
theorem dX3_addCoin_41 : decode cX3_addCoin 41 = .ok (.ireturn, 1) := by decide +kernel
set_option maxRecDepth 20000 in
theorem ggX3_removeCoin_X3_ofStool : GoodIn wsX3_removeCoin wsX3_ofStool := goodIn_ca (goodIn_r _ [10, 11, 16, 17, 18, 19, 20, 21, 22, 23] (by decide +kernel) (by decide +kernel)) (goodIn_sub (fun _ h => List.mem_cons_of_mem _ (List.mem_append_right _ h)) (by decide +kernel))
set_option maxRecDepth 20000 in
theorem gX3_removeCoin_X3_ofStool : GoodIn wsX3_removeCoin (wsV RX3 59 RX3 yX3_ofStool wsX3_ofStool) := goodIn_app (goodIn_of _ (by decide +kernel)) ggX3_removeCoin_X3_ofStool
set_option maxRecDepth 20000 in
theorem ggX3_removeCoin_X3_setOfStool : GoodIn wsX3_removeCoin wsX3_setOfStool := goodIn_ca (goodIn_r _ [15, 11, 16, 17, 18, 19, 20, 21, 22, 23] (by decide +kernel) (by decide +kernel)) (goodIn_sub (fun _ h => List.mem_cons_of_mem _ (List.mem_append_right _ h)) (by decide +kernel))
set_option maxRecDepth 20000 in
theorem gX3_removeCoin_X3_setOfStool : GoodIn wsX3_removeCoin (wsV RX3 49 RX3 yX3_setOfStool wsX3_setOfStool) := goodIn_app (goodIn_of _ (by decide +kernel)) ggX3_removeCoin_X3_setOfStool
theorem dX3_removeCoin_0 : decode cX3_removeCoin 0 = .ok (.bipush 9, 2) := by decide +kernel
theorem dX3_removeCoin_2 : decode cX3_removeCoin 2 = .ok (.aload_n 0, 1) := by decide +kernel
theorem dX3_removeCoin_3 : decode cX3_removeCoin 3 = .ok (.iload_n 1, 1) := by decide +kernel
theorem dX3_removeCoin_4 : decode cX3_removeCoin 4 = .ok (.iconst 2, 1) := by decide +kernel
theorem dX3_removeCoin_5 : decode cX3_removeCoin 5 = .ok (.invokevirtual 59, 3) := by decide +kernel
theorem dX3_removeCoin_8 : decode cX3_removeCoin 8 = .ok (.iconst 1, 1) := by decide +kernel
theorem dX3_removeCoin_9 : decode cX3_removeCoin 9 = .ok (.iadd, 1) := by decide +kernel
theorem dX3_removeCoin_10 : decode cX3_removeCoin 10 = .ok (.invokestatic 37, 3) := by decide +kernel
theorem dX3_removeCoin_13 : decode cX3_removeCoin 13 = .ok (.istore_n 2, 1) := by decide +kernel
theorem dX3_removeCoin_14 : decode cX3_removeCoin 14 = .ok (.aload_n 0, 1) := by decide +kernel
theorem dX3_removeCoin_15 : decode cX3_removeCoin 15 = .ok (.dup, 1) := by decide +kernel
theorem dX3_removeCoin_16 : decode cX3_removeCoin 16 = .ok (.getfield 25, 3) := by decide +kernel
theorem dX3_removeCoin_19 : decode cX3_removeCoin 19 = .ok (.iconst 1, 1) := by decide +kernel
theorem dX3_removeCoin_20 : decode cX3_removeCoin 20 = .ok (.iadd, 1) := by decide +kernel
theorem dX3_removeCoin_21 : decode cX3_removeCoin 21 = .ok (.putfield 25, 3) := by decide +kernel
theorem dX3_removeCoin_24 : decode cX3_removeCoin 24 = .ok (.aload_n 0, 1) := by decide +kernel
theorem dX3_removeCoin_25 : decode cX3_removeCoin 25 = .ok (.iload_n 1, 1) := by decide +kernel
theorem dX3_removeCoin_26 : decode cX3_removeCoin 26 = .ok (.iconst 4, 1) := by decide +kernel
theorem dX3_removeCoin_27 : decode cX3_removeCoin 27 = .ok (.aload_n 0, 1) := by decide +kernel
theorem dX3_removeCoin_28 : decode cX3_removeCoin 28 = .ok (.iload_n 1, 1) := by decide +kernel
theorem dX3_removeCoin_29 : decode cX3_removeCoin 29 = .ok (.iconst 4, 1) := by decide +kernel
theorem dX3_removeCoin_30 : decode cX3_removeCoin 30 = .ok (.invokevirtual 59, 3) := by decide +kernel
theorem dX3_removeCoin_33 : decode cX3_removeCoin 33 = .ok (.iconst 1, 1) := by decide +kernel
theorem dX3_removeCoin_34 : decode cX3_removeCoin 34 = .ok (.isub, 1) := by decide +kernel
theorem dX3_removeCoin_35 : decode cX3_removeCoin 35 = .ok (.invokevirtual 49, 3) := by decide +kernel
theorem dX3_removeCoin_38 : decode cX3_removeCoin 38 = .ok (.aload_n 0, 1) := by decide +kernel
theorem dX3_removeCoin_39 : decode cX3_removeCoin 39 = .ok (.iload_n 1, 1) := by decide +kernel
theorem dX3_removeCoin_40 : decode cX3_removeCoin 40 = .ok (.iconst 2, 1) := by decide +kernel
theorem dX3_removeCoin_41 : decode cX3_removeCoin 41 = .ok (.iload_n 2, 1) := by decide +kernel
theorem dX3_removeCoin_42 : decode cX3_removeCoin 42 = .ok (.invokevirtual 49, 3) := by decide +kernel
theorem dX3_removeCoin_45 : decode cX3_removeCoin 45 = .ok (.iload_n 2, 1) := by decide +kernel
theorem dX3_removeCoin_46 : decode cX3_removeCoin 46 = .ok (.ireturn, 1) := by decide +kernel
set_option maxRecDepth 20000 in
theorem ggX3_tiltAt_X3_ofStool : GoodIn wsX3_tiltAt wsX3_ofStool := goodIn_ca (goodIn_r _ [5, 6, 7, 8, 9, 10, 11, 12, 13, 14] (by decide +kernel) (by decide +kernel)) (goodIn_sub (fun _ h => List.mem_cons_of_mem _ (List.mem_append_right _ h)) (by decide +kernel))
set_option maxRecDepth 20000 in
theorem gX3_tiltAt_X3_ofStool : GoodIn wsX3_tiltAt (wsV RX3 59 RX3 yX3_ofStool wsX3_ofStool) := goodIn_app (goodIn_of _ (by decide +kernel)) ggX3_tiltAt_X3_ofStool
theorem dX3_tiltAt_0 : decode cX3_tiltAt 0 = .ok (.aload_n 0, 1) := by decide +kernel
theorem dX3_tiltAt_1 : decode cX3_tiltAt 1 = .ok (.iload_n 1, 1) := by decide +kernel
theorem dX3_tiltAt_2 : decode cX3_tiltAt 2 = .ok (.iconst 0, 1) := by decide +kernel
theorem dX3_tiltAt_3 : decode cX3_tiltAt 3 = .ok (.invokevirtual 59, 3) := by decide +kernel
theorem dX3_tiltAt_6 : decode cX3_tiltAt 6 = .ok (.istore_n 2, 1) := by decide +kernel
theorem dX3_tiltAt_7 : decode cX3_tiltAt 7 = .ok (.iload_n 2, 1) := by decide +kernel
theorem dX3_tiltAt_8 : decode cX3_tiltAt 8 = .ok (.iconst 1, 1) := by decide +kernel
theorem dX3_tiltAt_9 : decode cX3_tiltAt 9 = .ok (.if_icmp .ge 7, 3) := by decide +kernel
theorem dX3_tiltAt_12 : decode cX3_tiltAt 12 = .ok (.fconst 0, 1) := by decide +kernel
theorem dX3_tiltAt_13 : decode cX3_tiltAt 13 = .ok (.goto 13, 3) := by decide +kernel
theorem dX3_tiltAt_16 : decode cX3_tiltAt 16 = .ok (.aload_n 0, 1) := by decide +kernel
theorem dX3_tiltAt_17 : decode cX3_tiltAt 17 = .ok (.iload_n 1, 1) := by decide +kernel
theorem dX3_tiltAt_18 : decode cX3_tiltAt 18 = .ok (.iconst 2, 1) := by decide +kernel
theorem dX3_tiltAt_19 : decode cX3_tiltAt 19 = .ok (.invokevirtual 59, 3) := by decide +kernel
theorem dX3_tiltAt_22 : decode cX3_tiltAt 22 = .ok (.i2f, 1) := by decide +kernel
theorem dX3_tiltAt_23 : decode cX3_tiltAt 23 = .ok (.iload_n 2, 1) := by decide +kernel
theorem dX3_tiltAt_24 : decode cX3_tiltAt 24 = .ok (.i2f, 1) := by decide +kernel
theorem dX3_tiltAt_25 : decode cX3_tiltAt 25 = .ok (.fdiv, 1) := by decide +kernel
theorem dX3_tiltAt_26 : decode cX3_tiltAt 26 = .ok (.freturn, 1) := by decide +kernel
set_option maxRecDepth 20000 in
theorem ggX3_noiseAt_X3_ofStool : GoodIn wsX3_noiseAt wsX3_ofStool := goodIn_ca (goodIn_r _ [5, 6, 16, 17, 18, 19, 20, 21, 22, 23] (by decide +kernel) (by decide +kernel)) (goodIn_sub (fun _ h => List.mem_cons_of_mem _ (List.mem_append_right _ h)) (by decide +kernel))
set_option maxRecDepth 20000 in
theorem gX3_noiseAt_X3_ofStool : GoodIn wsX3_noiseAt (wsV RX3 59 RX3 yX3_ofStool wsX3_ofStool) := goodIn_app (goodIn_of _ (by decide +kernel)) ggX3_noiseAt_X3_ofStool
set_option maxRecDepth 20000 in
theorem ggX3_noiseAt_X3_tiltAt : GoodIn wsX3_noiseAt wsX3_tiltAt := goodIn_ca (goodIn_r _ [10, 1, 2, 3, 4, 5, 6, 16, 17, 18, 19, 20, 21, 22, 23] (by decide +kernel) (by decide +kernel)) (goodIn_sub (fun _ h => List.mem_cons_of_mem _ (List.mem_append_right _ h)) (by decide +kernel))
set_option maxRecDepth 20000 in
theorem gX3_noiseAt_X3_tiltAt : GoodIn wsX3_noiseAt (wsV RX3 88 RX3 yX3_tiltAt wsX3_tiltAt) := goodIn_app (goodIn_of _ (by decide +kernel)) ggX3_noiseAt_X3_tiltAt
set_option maxRecDepth 20000 in
theorem ggX3_noiseAt_X3_ofSitter : GoodIn wsX3_noiseAt wsX3_ofSitter := goodIn_ca (goodIn_r _ [14, 15, 16, 17, 18, 19, 20, 21, 22, 23] (by decide +kernel) (by decide +kernel)) (goodIn_sub (fun _ h => List.mem_cons_of_mem _ (List.mem_append_right _ h)) (by decide +kernel))
set_option maxRecDepth 20000 in
theorem gX3_noiseAt_X3_ofSitter : GoodIn wsX3_noiseAt (wsV RX3 56 RX3 yX3_ofSitter wsX3_ofSitter) := goodIn_app (goodIn_of _ (by decide +kernel)) ggX3_noiseAt_X3_ofSitter
theorem dX3_noiseAt_0 : decode cX3_noiseAt 0 = .ok (.aload_n 0, 1) := by decide +kernel
theorem dX3_noiseAt_1 : decode cX3_noiseAt 1 = .ok (.iload_n 1, 1) := by decide +kernel
theorem dX3_noiseAt_2 : decode cX3_noiseAt 2 = .ok (.iconst 5, 1) := by decide +kernel
theorem dX3_noiseAt_3 : decode cX3_noiseAt 3 = .ok (.invokevirtual 59, 3) := by decide +kernel
theorem dX3_noiseAt_6 : decode cX3_noiseAt 6 = .ok (.istore_n 2, 1) := by decide +kernel
theorem dX3_noiseAt_7 : decode cX3_noiseAt 7 = .ok (.iload_n 2, 1) := by decide +kernel
theorem dX3_noiseAt_8 : decode cX3_noiseAt 8 = .ok (.iconst (-1), 1) := by decide +kernel
theorem dX3_noiseAt_9 : decode cX3_noiseAt 9 = .ok (.if_icmp .ne 5, 3) := by decide +kernel
theorem dX3_noiseAt_12 : decode cX3_noiseAt 12 = .ok (.fconst 0, 1) := by decide +kernel
theorem dX3_noiseAt_13 : decode cX3_noiseAt 13 = .ok (.freturn, 1) := by decide +kernel
theorem dX3_noiseAt_14 : decode cX3_noiseAt 14 = .ok (.aload_n 0, 1) := by decide +kernel
theorem dX3_noiseAt_15 : decode cX3_noiseAt 15 = .ok (.iload_n 1, 1) := by decide +kernel
theorem dX3_noiseAt_16 : decode cX3_noiseAt 16 = .ok (.iconst 1, 1) := by decide +kernel
theorem dX3_noiseAt_17 : decode cX3_noiseAt 17 = .ok (.invokevirtual 59, 3) := by decide +kernel
theorem dX3_noiseAt_20 : decode cX3_noiseAt 20 = .ok (.i2f, 1) := by decide +kernel
theorem dX3_noiseAt_21 : decode cX3_noiseAt 21 = .ok (.fconst 1, 1) := by decide +kernel
theorem dX3_noiseAt_22 : decode cX3_noiseAt 22 = .ok (.aload_n 0, 1) := by decide +kernel
theorem dX3_noiseAt_23 : decode cX3_noiseAt 23 = .ok (.iload_n 1, 1) := by decide +kernel
theorem dX3_noiseAt_24 : decode cX3_noiseAt 24 = .ok (.invokevirtual 88, 3) := by decide +kernel
theorem dX3_noiseAt_27 : decode cX3_noiseAt 27 = .ok (.fadd, 1) := by decide +kernel
theorem dX3_noiseAt_28 : decode cX3_noiseAt 28 = .ok (.fmul, 1) := by decide +kernel
theorem dX3_noiseAt_29 : decode cX3_noiseAt 29 = .ok (.fstore_n 3, 1) := by decide +kernel
theorem dX3_noiseAt_30 : decode cX3_noiseAt 30 = .ok (.fload_n 3, 1) := by decide +kernel
theorem dX3_noiseAt_31 : decode cX3_noiseAt 31 = .ok (.aload_n 0, 1) := by decide +kernel
theorem dX3_noiseAt_32 : decode cX3_noiseAt 32 = .ok (.iload_n 2, 1) := by decide +kernel
theorem dX3_noiseAt_33 : decode cX3_noiseAt 33 = .ok (.iconst 1, 1) := by decide +kernel
theorem dX3_noiseAt_34 : decode cX3_noiseAt 34 = .ok (.invokevirtual 56, 3) := by decide +kernel
theorem dX3_noiseAt_37 : decode cX3_noiseAt 37 = .ok (.i2f, 1) := by decide +kernel
theorem dX3_noiseAt_38 : decode cX3_noiseAt 38 = .ok (.fmul, 1) := by decide +kernel
theorem dX3_noiseAt_39 : decode cX3_noiseAt 39 = .ok (.freturn, 1) := by decide +kernel
set_option maxRecDepth 20000 in
theorem ggX3_noiseOfAll_X3_noiseAt : GoodIn wsX3_noiseOfAll wsX3_noiseAt := goodIn_ca (goodIn_r _ [6, 7, 8, 9, 5, 10, 11, 12, 13, 14, 15, 16, 17, 18, 19, 20, 21, 22, 23, 24, 25, 26, 27, 28] (by decide +kernel) (by decide +kernel)) (goodIn_sub (fun _ h => List.mem_cons_of_mem _ (List.mem_append_right _ h)) (by decide +kernel))
set_option maxRecDepth 20000 in
theorem gX3_noiseOfAll_X3_noiseAt : GoodIn wsX3_noiseOfAll (wsV RX3 92 RX3 yX3_noiseAt wsX3_noiseAt) := goodIn_app (goodIn_of _ (by decide +kernel)) ggX3_noiseOfAll_X3_noiseAt
theorem dX3_noiseOfAll_0 : decode cX3_noiseOfAll 0 = .ok (.fconst 0, 1) := by decide +kernel
theorem dX3_noiseOfAll_1 : decode cX3_noiseOfAll 1 = .ok (.fstore_n 1, 1) := by decide +kernel
theorem dX3_noiseOfAll_2 : decode cX3_noiseOfAll 2 = .ok (.iconst 0, 1) := by decide +kernel
theorem dX3_noiseOfAll_3 : decode cX3_noiseOfAll 3 = .ok (.istore_n 2, 1) := by decide +kernel
theorem dX3_noiseOfAll_4 : decode cX3_noiseOfAll 4 = .ok (.iload_n 2, 1) := by decide +kernel
theorem dX3_noiseOfAll_5 : decode cX3_noiseOfAll 5 = .ok (.aload_n 0, 1) := by decide +kernel
theorem dX3_noiseOfAll_6 : decode cX3_noiseOfAll 6 = .ok (.getfield 18, 3) := by decide +kernel
theorem dX3_noiseOfAll_9 : decode cX3_noiseOfAll 9 = .ok (.if_icmp .ge 17, 3) := by decide +kernel
theorem dX3_noiseOfAll_12 : decode cX3_noiseOfAll 12 = .ok (.fload_n 1, 1) := by decide +kernel
theorem dX3_noiseOfAll_13 : decode cX3_noiseOfAll 13 = .ok (.aload_n 0, 1) := by decide +kernel
theorem dX3_noiseOfAll_14 : decode cX3_noiseOfAll 14 = .ok (.iload_n 2, 1) := by decide +kernel
theorem dX3_noiseOfAll_15 : decode cX3_noiseOfAll 15 = .ok (.invokevirtual 92, 3) := by decide +kernel
theorem dX3_noiseOfAll_18 : decode cX3_noiseOfAll 18 = .ok (.fadd, 1) := by decide +kernel
theorem dX3_noiseOfAll_19 : decode cX3_noiseOfAll 19 = .ok (.fstore_n 1, 1) := by decide +kernel
theorem dX3_noiseOfAll_20 : decode cX3_noiseOfAll 20 = .ok (.iinc 2 1, 3) := by decide +kernel
theorem dX3_noiseOfAll_23 : decode cX3_noiseOfAll 23 = .ok (.goto (-19), 3) := by decide +kernel
theorem dX3_noiseOfAll_26 : decode cX3_noiseOfAll 26 = .ok (.fload_n 1, 1) := by decide +kernel
theorem dX3_noiseOfAll_27 : decode cX3_noiseOfAll 27 = .ok (.freturn, 1) := by decide +kernel
set_option maxRecDepth 20000 in
theorem ggX3_passNight_X3_ofStool : GoodIn wsX3_passNight wsX3_ofStool := goodIn_ca (goodIn_r _ [9, 10, 28, 29, 30, 31, 32, 33, 34, 35] (by decide +kernel) (by decide +kernel)) (goodIn_sub (fun _ h => List.mem_cons_of_mem _ (List.mem_append_right _ h)) (by decide +kernel))
set_option maxRecDepth 20000 in
theorem gX3_passNight_X3_ofStool : GoodIn wsX3_passNight (wsV RX3 59 RX3 yX3_ofStool wsX3_ofStool) := goodIn_app (goodIn_of _ (by decide +kernel)) ggX3_passNight_X3_ofStool
set_option maxRecDepth 20000 in
theorem ggX3_passNight_X3_wearStool : GoodIn wsX3_passNight wsX3_wearStool := goodIn_ca (goodIn_r _ [14, 15, 16, 17, 18, 5, 6, 7, 8, 9, 10, 19, 20, 21, 22, 23, 24, 25, 26, 27, 28, 29, 30, 31, 32, 33, 34, 35] (by decide +kernel) (by decide +kernel)) (goodIn_sub (fun _ h => List.mem_cons_of_mem _ (List.mem_append_right _ h)) (by decide +kernel))
set_option maxRecDepth 20000 in
theorem gX3_passNight_X3_wearStool : GoodIn wsX3_passNight (wsV RX3 95 RX3 yX3_wearStool wsX3_wearStool) := goodIn_app (goodIn_of _ (by decide +kernel)) ggX3_passNight_X3_wearStool
theorem dX3_passNight_0 : decode cX3_passNight 0 = .ok (.iconst 0, 1) := by decide +kernel
theorem dX3_passNight_1 : decode cX3_passNight 1 = .ok (.istore_n 1, 1) := by decide +kernel
theorem dX3_passNight_2 : decode cX3_passNight 2 = .ok (.iconst 0, 1) := by decide +kernel
theorem dX3_passNight_3 : decode cX3_passNight 3 = .ok (.istore_n 2, 1) := by decide +kernel
theorem dX3_passNight_4 : decode cX3_passNight 4 = .ok (.iload_n 2, 1) := by decide +kernel
theorem dX3_passNight_5 : decode cX3_passNight 5 = .ok (.aload_n 0, 1) := by decide +kernel
theorem dX3_passNight_6 : decode cX3_passNight 6 = .ok (.getfield 18, 3) := by decide +kernel
theorem dX3_passNight_9 : decode cX3_passNight 9 = .ok (.if_icmp .ge 30, 3) := by decide +kernel
theorem dX3_passNight_12 : decode cX3_passNight 12 = .ok (.aload_n 0, 1) := by decide +kernel
theorem dX3_passNight_13 : decode cX3_passNight 13 = .ok (.iload_n 2, 1) := by decide +kernel
theorem dX3_passNight_14 : decode cX3_passNight 14 = .ok (.iconst 5, 1) := by decide +kernel
theorem dX3_passNight_15 : decode cX3_passNight 15 = .ok (.invokevirtual 59, 3) := by decide +kernel
theorem dX3_passNight_18 : decode cX3_passNight 18 = .ok (.istore_n 3, 1) := by decide +kernel
theorem dX3_passNight_19 : decode cX3_passNight 19 = .ok (.iload_n 3, 1) := by decide +kernel
theorem dX3_passNight_20 : decode cX3_passNight 20 = .ok (.iconst (-1), 1) := by decide +kernel
theorem dX3_passNight_21 : decode cX3_passNight 21 = .ok (.if_icmp .eq 12, 3) := by decide +kernel
theorem dX3_passNight_24 : decode cX3_passNight 24 = .ok (.iload_n 1, 1) := by decide +kernel
theorem dX3_passNight_25 : decode cX3_passNight 25 = .ok (.aload_n 0, 1) := by decide +kernel
theorem dX3_passNight_26 : decode cX3_passNight 26 = .ok (.iload_n 2, 1) := by decide +kernel
theorem dX3_passNight_27 : decode cX3_passNight 27 = .ok (.iload_n 3, 1) := by decide +kernel
theorem dX3_passNight_28 : decode cX3_passNight 28 = .ok (.invokevirtual 95, 3) := by decide +kernel
theorem dX3_passNight_31 : decode cX3_passNight 31 = .ok (.iadd, 1) := by decide +kernel
theorem dX3_passNight_32 : decode cX3_passNight 32 = .ok (.istore_n 1, 1) := by decide +kernel
theorem dX3_passNight_33 : decode cX3_passNight 33 = .ok (.iinc 2 1, 3) := by decide +kernel
theorem dX3_passNight_36 : decode cX3_passNight 36 = .ok (.goto (-32), 3) := by decide +kernel
theorem dX3_passNight_39 : decode cX3_passNight 39 = .ok (.aload_n 0, 1) := by decide +kernel
theorem dX3_passNight_40 : decode cX3_passNight 40 = .ok (.dup, 1) := by decide +kernel
theorem dX3_passNight_41 : decode cX3_passNight 41 = .ok (.getfield 28, 3) := by decide +kernel
theorem dX3_passNight_44 : decode cX3_passNight 44 = .ok (.iconst 1, 1) := by decide +kernel
theorem dX3_passNight_45 : decode cX3_passNight 45 = .ok (.iadd, 1) := by decide +kernel
theorem dX3_passNight_46 : decode cX3_passNight 46 = .ok (.putfield 28, 3) := by decide +kernel
theorem dX3_passNight_49 : decode cX3_passNight 49 = .ok (.aload_n 0, 1) := by decide +kernel
theorem dX3_passNight_50 : decode cX3_passNight 50 = .ok (.dup, 1) := by decide +kernel
theorem dX3_passNight_51 : decode cX3_passNight 51 = .ok (.getfield 25, 3) := by decide +kernel
theorem dX3_passNight_54 : decode cX3_passNight 54 = .ok (.iload_n 1, 1) := by decide +kernel
theorem dX3_passNight_55 : decode cX3_passNight 55 = .ok (.iadd, 1) := by decide +kernel
theorem dX3_passNight_56 : decode cX3_passNight 56 = .ok (.putfield 25, 3) := by decide +kernel
theorem dX3_passNight_59 : decode cX3_passNight 59 = .ok (.aload_n 0, 1) := by decide +kernel
theorem dX3_passNight_60 : decode cX3_passNight 60 = .ok (.dup, 1) := by decide +kernel
theorem dX3_passNight_61 : decode cX3_passNight 61 = .ok (.getfield 34, 3) := by decide +kernel
theorem dX3_passNight_64 : decode cX3_passNight 64 = .ok (.iload_n 1, 1) := by decide +kernel
theorem dX3_passNight_65 : decode cX3_passNight 65 = .ok (.iadd, 1) := by decide +kernel
theorem dX3_passNight_66 : decode cX3_passNight 66 = .ok (.putfield 34, 3) := by decide +kernel
theorem dX3_passNight_69 : decode cX3_passNight 69 = .ok (.iload_n 1, 1) := by decide +kernel
theorem dX3_passNight_70 : decode cX3_passNight 70 = .ok (.ireturn, 1) := by decide +kernel
set_option maxRecDepth 20000 in
theorem ggX3_wearStool_X3_ofStool : GoodIn wsX3_wearStool wsX3_ofStool := goodIn_ca (goodIn_r _ [9, 10, 20, 21, 22, 23, 24, 25, 26, 27] (by decide +kernel) (by decide +kernel)) (goodIn_sub (fun _ h => List.mem_cons_of_mem _ (List.mem_append_right _ h)) (by decide +kernel))
set_option maxRecDepth 20000 in
theorem gX3_wearStool_X3_ofStool : GoodIn wsX3_wearStool (wsV RX3 59 RX3 yX3_ofStool wsX3_ofStool) := goodIn_app (goodIn_of _ (by decide +kernel)) ggX3_wearStool_X3_ofStool
set_option maxRecDepth 20000 in
theorem ggX3_wearStool_X3_ofSitter : GoodIn wsX3_wearStool wsX3_ofSitter := goodIn_ca (goodIn_r _ [14, 15, 20, 21, 22, 23, 24, 25, 26, 27] (by decide +kernel) (by decide +kernel)) (goodIn_sub (fun _ h => List.mem_cons_of_mem _ (List.mem_append_right _ h)) (by decide +kernel))
set_option maxRecDepth 20000 in
theorem gX3_wearStool_X3_ofSitter : GoodIn wsX3_wearStool (wsV RX3 56 RX3 yX3_ofSitter wsX3_ofSitter) := goodIn_app (goodIn_of _ (by decide +kernel)) ggX3_wearStool_X3_ofSitter
set_option maxRecDepth 20000 in
theorem ggX3_wearStool_X3_setOfStool : GoodIn wsX3_wearStool wsX3_setOfStool := goodIn_ca (goodIn_r _ [19, 10, 20, 21, 22, 23, 24, 25, 26, 27] (by decide +kernel) (by decide +kernel)) (goodIn_sub (fun _ h => List.mem_cons_of_mem _ (List.mem_append_right _ h)) (by decide +kernel))
set_option maxRecDepth 20000 in
theorem gX3_wearStool_X3_setOfStool : GoodIn wsX3_wearStool (wsV RX3 49 RX3 yX3_setOfStool wsX3_setOfStool) := goodIn_app (goodIn_of _ (by decide +kernel)) ggX3_wearStool_X3_setOfStool
theorem dX3_wearStool_0 : decode cX3_wearStool 0 = .ok (.aload_n 0, 1) := by decide +kernel
theorem dX3_wearStool_1 : decode cX3_wearStool 1 = .ok (.iload_n 1, 1) := by decide +kernel
theorem dX3_wearStool_2 : decode cX3_wearStool 2 = .ok (.iconst 2, 1) := by decide +kernel
theorem dX3_wearStool_3 : decode cX3_wearStool 3 = .ok (.invokevirtual 59, 3) := by decide +kernel
theorem dX3_wearStool_6 : decode cX3_wearStool 6 = .ok (.istore_n 3, 1) := by decide +kernel
theorem dX3_wearStool_7 : decode cX3_wearStool 7 = .ok (.iload_n 3, 1) := by decide +kernel
theorem dX3_wearStool_8 : decode cX3_wearStool 8 = .ok (.ifCond .ne 16, 3) := by decide +kernel
theorem dX3_wearStool_11 : decode cX3_wearStool 11 = .ok (.aload_n 0, 1) := by decide +kernel
theorem dX3_wearStool_12 : decode cX3_wearStool 12 = .ok (.iload_n 2, 1) := by decide +kernel
theorem dX3_wearStool_13 : decode cX3_wearStool 13 = .ok (.iconst 0, 1) := by decide +kernel
theorem dX3_wearStool_14 : decode cX3_wearStool 14 = .ok (.invokevirtual 56, 3) := by decide +kernel
theorem dX3_wearStool_17 : decode cX3_wearStool 17 = .ok (.ifCond .le 7, 3) := by decide +kernel
theorem dX3_wearStool_20 : decode cX3_wearStool 20 = .ok (.iconst 1, 1) := by decide +kernel
theorem dX3_wearStool_21 : decode cX3_wearStool 21 = .ok (.goto 4, 3) := by decide +kernel
theorem dX3_wearStool_24 : decode cX3_wearStool 24 = .ok (.iconst 0, 1) := by decide +kernel
theorem dX3_wearStool_25 : decode cX3_wearStool 25 = .ok (.istore 4, 2) := by decide +kernel
theorem dX3_wearStool_27 : decode cX3_wearStool 27 = .ok (.aload_n 0, 1) := by decide +kernel
theorem dX3_wearStool_28 : decode cX3_wearStool 28 = .ok (.iload_n 2, 1) := by decide +kernel
theorem dX3_wearStool_29 : decode cX3_wearStool 29 = .ok (.iconst 1, 1) := by decide +kernel
theorem dX3_wearStool_30 : decode cX3_wearStool 30 = .ok (.invokevirtual 56, 3) := by decide +kernel
theorem dX3_wearStool_33 : decode cX3_wearStool 33 = .ok (.bipush 100, 2) := by decide +kernel
theorem dX3_wearStool_35 : decode cX3_wearStool 35 = .ok (.if_icmp .le 19, 3) := by decide +kernel
theorem dX3_wearStool_38 : decode cX3_wearStool 38 = .ok (.bipush 9, 2) := by decide +kernel
theorem dX3_wearStool_40 : decode cX3_wearStool 40 = .ok (.iload_n 3, 1) := by decide +kernel
theorem dX3_wearStool_41 : decode cX3_wearStool 41 = .ok (.iconst 1, 1) := by decide +kernel
theorem dX3_wearStool_42 : decode cX3_wearStool 42 = .ok (.iadd, 1) := by decide +kernel
theorem dX3_wearStool_43 : decode cX3_wearStool 43 = .ok (.invokestatic 37, 3) := by decide +kernel
theorem dX3_wearStool_46 : decode cX3_wearStool 46 = .ok (.istore_n 3, 1) := by decide +kernel
theorem dX3_wearStool_47 : decode cX3_wearStool 47 = .ok (.aload_n 0, 1) := by decide +kernel
theorem dX3_wearStool_48 : decode cX3_wearStool 48 = .ok (.iload_n 1, 1) := by decide +kernel
theorem dX3_wearStool_49 : decode cX3_wearStool 49 = .ok (.iconst 2, 1) := by decide +kernel
theorem dX3_wearStool_50 : decode cX3_wearStool 50 = .ok (.iload_n 3, 1) := by decide +kernel
theorem dX3_wearStool_51 : decode cX3_wearStool 51 = .ok (.invokevirtual 49, 3) := by decide +kernel
theorem dX3_wearStool_54 : decode cX3_wearStool 54 = .ok (.iload_n 3, 1) := by decide +kernel
theorem dX3_wearStool_55 : decode cX3_wearStool 55 = .ok (.ifCond .le 22, 3) := by decide +kernel
theorem dX3_wearStool_58 : decode cX3_wearStool 58 = .ok (.aload_n 0, 1) := by decide +kernel
theorem dX3_wearStool_59 : decode cX3_wearStool 59 = .ok (.iload_n 1, 1) := by decide +kernel
theorem dX3_wearStool_60 : decode cX3_wearStool 60 = .ok (.iconst 1, 1) := by decide +kernel
theorem dX3_wearStool_61 : decode cX3_wearStool 61 = .ok (.bipush 9, 2) := by decide +kernel
theorem dX3_wearStool_63 : decode cX3_wearStool 63 = .ok (.aload_n 0, 1) := by decide +kernel
theorem dX3_wearStool_64 : decode cX3_wearStool 64 = .ok (.iload_n 1, 1) := by decide +kernel
theorem dX3_wearStool_65 : decode cX3_wearStool 65 = .ok (.iconst 1, 1) := by decide +kernel
theorem dX3_wearStool_66 : decode cX3_wearStool 66 = .ok (.invokevirtual 59, 3) := by decide +kernel
theorem dX3_wearStool_69 : decode cX3_wearStool 69 = .ok (.iconst 1, 1) := by decide +kernel
theorem dX3_wearStool_70 : decode cX3_wearStool 70 = .ok (.iadd, 1) := by decide +kernel
theorem dX3_wearStool_71 : decode cX3_wearStool 71 = .ok (.invokestatic 37, 3) := by decide +kernel
theorem dX3_wearStool_74 : decode cX3_wearStool 74 = .ok (.invokevirtual 49, 3) := by decide +kernel
theorem dX3_wearStool_77 : decode cX3_wearStool 77 = .ok (.iload 4, 2) := by decide +kernel
theorem dX3_wearStool_79 : decode cX3_wearStool 79 = .ok (.ireturn, 1) := by decide +kernel
set_option maxRecDepth 20000 in
theorem ggX3_tiltedAt_X3_isMoreTilted : GoodIn wsX3_tiltedAt wsX3_isMoreTilted := goodIn_ca (goodIn_r _ [6, 7, 8, 9, 5, 10, 11, 12, 13, 14, 15, 16, 17, 18, 19, 20, 21, 22, 23] (by decide +kernel) (by decide +kernel)) (goodIn_sub (fun _ h => List.mem_cons_of_mem _ (List.mem_append_right _ h)) (by decide +kernel))
set_option maxRecDepth 20000 in
theorem gX3_tiltedAt_X3_isMoreTilted : GoodIn wsX3_tiltedAt (wsV RX3 98 RX3 yX3_isMoreTilted wsX3_isMoreTilted) := goodIn_app (goodIn_of _ (by decide +kernel)) ggX3_tiltedAt_X3_isMoreTilted
theorem dX3_tiltedAt_0 : decode cX3_tiltedAt 0 = .ok (.iconst 0, 1) := by decide +kernel
theorem dX3_tiltedAt_1 : decode cX3_tiltedAt 1 = .ok (.istore_n 2, 1) := by decide +kernel
theorem dX3_tiltedAt_2 : decode cX3_tiltedAt 2 = .ok (.iload_n 2, 1) := by decide +kernel
theorem dX3_tiltedAt_3 : decode cX3_tiltedAt 3 = .ok (.aload_n 0, 1) := by decide +kernel
theorem dX3_tiltedAt_4 : decode cX3_tiltedAt 4 = .ok (.getfield 18, 3) := by decide +kernel
theorem dX3_tiltedAt_7 : decode cX3_tiltedAt 7 = .ok (.if_icmp .ge 54, 3) := by decide +kernel
theorem dX3_tiltedAt_10 : decode cX3_tiltedAt 10 = .ok (.iconst 0, 1) := by decide +kernel
theorem dX3_tiltedAt_11 : decode cX3_tiltedAt 11 = .ok (.istore_n 3, 1) := by decide +kernel
theorem dX3_tiltedAt_12 : decode cX3_tiltedAt 12 = .ok (.iconst 0, 1) := by decide +kernel
theorem dX3_tiltedAt_13 : decode cX3_tiltedAt 13 = .ok (.istore 4, 2) := by decide +kernel
theorem dX3_tiltedAt_15 : decode cX3_tiltedAt 15 = .ok (.iload 4, 2) := by decide +kernel
theorem dX3_tiltedAt_17 : decode cX3_tiltedAt 17 = .ok (.aload_n 0, 1) := by decide +kernel
theorem dX3_tiltedAt_18 : decode cX3_tiltedAt 18 = .ok (.getfield 18, 3) := by decide +kernel
theorem dX3_tiltedAt_21 : decode cX3_tiltedAt 21 = .ok (.if_icmp .ge 27, 3) := by decide +kernel
theorem dX3_tiltedAt_24 : decode cX3_tiltedAt 24 = .ok (.iload_n 3, 1) := by decide +kernel
theorem dX3_tiltedAt_25 : decode cX3_tiltedAt 25 = .ok (.aload_n 0, 1) := by decide +kernel
theorem dX3_tiltedAt_26 : decode cX3_tiltedAt 26 = .ok (.iload 4, 2) := by decide +kernel
theorem dX3_tiltedAt_28 : decode cX3_tiltedAt 28 = .ok (.iload_n 2, 1) := by decide +kernel
theorem dX3_tiltedAt_29 : decode cX3_tiltedAt 29 = .ok (.invokevirtual 98, 3) := by decide +kernel
theorem dX3_tiltedAt_32 : decode cX3_tiltedAt 32 = .ok (.ifCond .eq 7, 3) := by decide +kernel
theorem dX3_tiltedAt_35 : decode cX3_tiltedAt 35 = .ok (.iconst 1, 1) := by decide +kernel
theorem dX3_tiltedAt_36 : decode cX3_tiltedAt 36 = .ok (.goto 4, 3) := by decide +kernel
theorem dX3_tiltedAt_39 : decode cX3_tiltedAt 39 = .ok (.iconst 0, 1) := by decide +kernel
theorem dX3_tiltedAt_40 : decode cX3_tiltedAt 40 = .ok (.iadd, 1) := by decide +kernel
theorem dX3_tiltedAt_41 : decode cX3_tiltedAt 41 = .ok (.istore_n 3, 1) := by decide +kernel
theorem dX3_tiltedAt_42 : decode cX3_tiltedAt 42 = .ok (.iinc 4 1, 3) := by decide +kernel
theorem dX3_tiltedAt_45 : decode cX3_tiltedAt 45 = .ok (.goto (-30), 3) := by decide +kernel
theorem dX3_tiltedAt_48 : decode cX3_tiltedAt 48 = .ok (.iload_n 3, 1) := by decide +kernel
theorem dX3_tiltedAt_49 : decode cX3_tiltedAt 49 = .ok (.iload_n 1, 1) := by decide +kernel
theorem dX3_tiltedAt_50 : decode cX3_tiltedAt 50 = .ok (.if_icmp .ne 5, 3) := by decide +kernel
theorem dX3_tiltedAt_53 : decode cX3_tiltedAt 53 = .ok (.iload_n 2, 1) := by decide +kernel
theorem dX3_tiltedAt_54 : decode cX3_tiltedAt 54 = .ok (.ireturn, 1) := by decide +kernel
theorem dX3_tiltedAt_55 : decode cX3_tiltedAt 55 = .ok (.iinc 2 1, 3) := by decide +kernel
theorem dX3_tiltedAt_58 : decode cX3_tiltedAt 58 = .ok (.goto (-56), 3) := by decide +kernel
theorem dX3_tiltedAt_61 : decode cX3_tiltedAt 61 = .ok (.iconst (-1), 1) := by decide +kernel
theorem dX3_tiltedAt_62 : decode cX3_tiltedAt 62 = .ok (.ireturn, 1) := by decide +kernel
set_option maxRecDepth 20000 in
theorem ggX3_isMoreTilted_X3_tiltAt : GoodIn wsX3_isMoreTilted wsX3_tiltAt := goodIn_ca (goodIn_r _ [5, 6, 7, 8, 4, 9, 10, 11, 12, 13, 14, 15, 16, 17, 18] (by decide +kernel) (by decide +kernel)) (goodIn_sub (fun _ h => List.mem_cons_of_mem _ (List.mem_append_right _ h)) (by decide +kernel))
set_option maxRecDepth 20000 in
theorem gX3_isMoreTilted_X3_tiltAt : GoodIn wsX3_isMoreTilted (wsV RX3 88 RX3 yX3_tiltAt wsX3_tiltAt) := goodIn_app (goodIn_of _ (by decide +kernel)) ggX3_isMoreTilted_X3_tiltAt
theorem dX3_isMoreTilted_0 : decode cX3_isMoreTilted 0 = .ok (.aload_n 0, 1) := by decide +kernel
theorem dX3_isMoreTilted_1 : decode cX3_isMoreTilted 1 = .ok (.iload_n 1, 1) := by decide +kernel
theorem dX3_isMoreTilted_2 : decode cX3_isMoreTilted 2 = .ok (.invokevirtual 88, 3) := by decide +kernel
theorem dX3_isMoreTilted_5 : decode cX3_isMoreTilted 5 = .ok (.fstore_n 3, 1) := by decide +kernel
theorem dX3_isMoreTilted_6 : decode cX3_isMoreTilted 6 = .ok (.aload_n 0, 1) := by decide +kernel
theorem dX3_isMoreTilted_7 : decode cX3_isMoreTilted 7 = .ok (.iload_n 2, 1) := by decide +kernel
theorem dX3_isMoreTilted_8 : decode cX3_isMoreTilted 8 = .ok (.invokevirtual 88, 3) := by decide +kernel
theorem dX3_isMoreTilted_11 : decode cX3_isMoreTilted 11 = .ok (.fstore 4, 2) := by decide +kernel
theorem dX3_isMoreTilted_13 : decode cX3_isMoreTilted 13 = .ok (.fload_n 3, 1) := by decide +kernel
theorem dX3_isMoreTilted_14 : decode cX3_isMoreTilted 14 = .ok (.fload 4, 2) := by decide +kernel
theorem dX3_isMoreTilted_16 : decode cX3_isMoreTilted 16 = .ok (.fcmp .l, 1) := by decide +kernel
theorem dX3_isMoreTilted_17 : decode cX3_isMoreTilted 17 = .ok (.ifCond .gt 15, 3) := by decide +kernel
theorem dX3_isMoreTilted_20 : decode cX3_isMoreTilted 20 = .ok (.fload_n 3, 1) := by decide +kernel
theorem dX3_isMoreTilted_21 : decode cX3_isMoreTilted 21 = .ok (.fload 4, 2) := by decide +kernel
theorem dX3_isMoreTilted_23 : decode cX3_isMoreTilted 23 = .ok (.fcmp .l, 1) := by decide +kernel
theorem dX3_isMoreTilted_24 : decode cX3_isMoreTilted 24 = .ok (.ifCond .ne 12, 3) := by decide +kernel
theorem dX3_isMoreTilted_27 : decode cX3_isMoreTilted 27 = .ok (.iload_n 1, 1) := by decide +kernel
theorem dX3_isMoreTilted_28 : decode cX3_isMoreTilted 28 = .ok (.iload_n 2, 1) := by decide +kernel
theorem dX3_isMoreTilted_29 : decode cX3_isMoreTilted 29 = .ok (.if_icmp .ge 7, 3) := by decide +kernel
theorem dX3_isMoreTilted_32 : decode cX3_isMoreTilted 32 = .ok (.iconst 1, 1) := by decide +kernel
theorem dX3_isMoreTilted_33 : decode cX3_isMoreTilted 33 = .ok (.goto 4, 3) := by decide +kernel
theorem dX3_isMoreTilted_36 : decode cX3_isMoreTilted 36 = .ok (.iconst 0, 1) := by decide +kernel
theorem dX3_isMoreTilted_37 : decode cX3_isMoreTilted 37 = .ok (.ireturn, 1) := by decide +kernel
set_option maxRecDepth 20000 in
theorem ggX3_rankedAt_X3_isAhead : GoodIn wsX3_rankedAt wsX3_isAhead := goodIn_ca (goodIn_r _ [6, 7, 8, 9, 5, 10, 11, 12, 13, 14, 15, 16, 17, 18, 19] (by decide +kernel) (by decide +kernel)) (goodIn_sub (fun _ h => List.mem_cons_of_mem _ (List.mem_append_right _ h)) (by decide +kernel))
set_option maxRecDepth 20000 in
theorem gX3_rankedAt_X3_isAhead : GoodIn wsX3_rankedAt (wsV RX3 101 RX3 yX3_isAhead wsX3_isAhead) := goodIn_app (goodIn_of _ (by decide +kernel)) ggX3_rankedAt_X3_isAhead
theorem dX3_rankedAt_0 : decode cX3_rankedAt 0 = .ok (.iconst 0, 1) := by decide +kernel
theorem dX3_rankedAt_1 : decode cX3_rankedAt 1 = .ok (.istore_n 2, 1) := by decide +kernel
theorem dX3_rankedAt_2 : decode cX3_rankedAt 2 = .ok (.iload_n 2, 1) := by decide +kernel
theorem dX3_rankedAt_3 : decode cX3_rankedAt 3 = .ok (.aload_n 0, 1) := by decide +kernel
theorem dX3_rankedAt_4 : decode cX3_rankedAt 4 = .ok (.getfield 22, 3) := by decide +kernel
theorem dX3_rankedAt_7 : decode cX3_rankedAt 7 = .ok (.if_icmp .ge 54, 3) := by decide +kernel
theorem dX3_rankedAt_10 : decode cX3_rankedAt 10 = .ok (.iconst 0, 1) := by decide +kernel
theorem dX3_rankedAt_11 : decode cX3_rankedAt 11 = .ok (.istore_n 3, 1) := by decide +kernel
theorem dX3_rankedAt_12 : decode cX3_rankedAt 12 = .ok (.iconst 0, 1) := by decide +kernel
theorem dX3_rankedAt_13 : decode cX3_rankedAt 13 = .ok (.istore 4, 2) := by decide +kernel
theorem dX3_rankedAt_15 : decode cX3_rankedAt 15 = .ok (.iload 4, 2) := by decide +kernel
theorem dX3_rankedAt_17 : decode cX3_rankedAt 17 = .ok (.aload_n 0, 1) := by decide +kernel
theorem dX3_rankedAt_18 : decode cX3_rankedAt 18 = .ok (.getfield 22, 3) := by decide +kernel
theorem dX3_rankedAt_21 : decode cX3_rankedAt 21 = .ok (.if_icmp .ge 27, 3) := by decide +kernel
theorem dX3_rankedAt_24 : decode cX3_rankedAt 24 = .ok (.iload_n 3, 1) := by decide +kernel
theorem dX3_rankedAt_25 : decode cX3_rankedAt 25 = .ok (.aload_n 0, 1) := by decide +kernel
theorem dX3_rankedAt_26 : decode cX3_rankedAt 26 = .ok (.iload 4, 2) := by decide +kernel
theorem dX3_rankedAt_28 : decode cX3_rankedAt 28 = .ok (.iload_n 2, 1) := by decide +kernel
theorem dX3_rankedAt_29 : decode cX3_rankedAt 29 = .ok (.invokevirtual 101, 3) := by decide +kernel
theorem dX3_rankedAt_32 : decode cX3_rankedAt 32 = .ok (.ifCond .eq 7, 3) := by decide +kernel
theorem dX3_rankedAt_35 : decode cX3_rankedAt 35 = .ok (.iconst 1, 1) := by decide +kernel
theorem dX3_rankedAt_36 : decode cX3_rankedAt 36 = .ok (.goto 4, 3) := by decide +kernel
theorem dX3_rankedAt_39 : decode cX3_rankedAt 39 = .ok (.iconst 0, 1) := by decide +kernel
theorem dX3_rankedAt_40 : decode cX3_rankedAt 40 = .ok (.iadd, 1) := by decide +kernel
theorem dX3_rankedAt_41 : decode cX3_rankedAt 41 = .ok (.istore_n 3, 1) := by decide +kernel
theorem dX3_rankedAt_42 : decode cX3_rankedAt 42 = .ok (.iinc 4 1, 3) := by decide +kernel
theorem dX3_rankedAt_45 : decode cX3_rankedAt 45 = .ok (.goto (-30), 3) := by decide +kernel
theorem dX3_rankedAt_48 : decode cX3_rankedAt 48 = .ok (.iload_n 3, 1) := by decide +kernel
theorem dX3_rankedAt_49 : decode cX3_rankedAt 49 = .ok (.iload_n 1, 1) := by decide +kernel
theorem dX3_rankedAt_50 : decode cX3_rankedAt 50 = .ok (.if_icmp .ne 5, 3) := by decide +kernel
theorem dX3_rankedAt_53 : decode cX3_rankedAt 53 = .ok (.iload_n 2, 1) := by decide +kernel
theorem dX3_rankedAt_54 : decode cX3_rankedAt 54 = .ok (.ireturn, 1) := by decide +kernel
theorem dX3_rankedAt_55 : decode cX3_rankedAt 55 = .ok (.iinc 2 1, 3) := by decide +kernel
theorem dX3_rankedAt_58 : decode cX3_rankedAt 58 = .ok (.goto (-56), 3) := by decide +kernel
theorem dX3_rankedAt_61 : decode cX3_rankedAt 61 = .ok (.iconst (-1), 1) := by decide +kernel
theorem dX3_rankedAt_62 : decode cX3_rankedAt 62 = .ok (.ireturn, 1) := by decide +kernel
set_option maxRecDepth 20000 in
theorem ggX3_isAhead_X3_ofSitter : GoodIn wsX3_isAhead wsX3_ofSitter := goodIn_ca (goodIn_r _ [5, 6, 7, 8, 9, 10, 11, 12, 13, 14] (by decide +kernel) (by decide +kernel)) (goodIn_sub (fun _ h => List.mem_cons_of_mem _ (List.mem_append_right _ h)) (by decide +kernel))
set_option maxRecDepth 20000 in
theorem gX3_isAhead_X3_ofSitter : GoodIn wsX3_isAhead (wsV RX3 56 RX3 yX3_ofSitter wsX3_ofSitter) := goodIn_app (goodIn_of _ (by decide +kernel)) ggX3_isAhead_X3_ofSitter
theorem dX3_isAhead_0 : decode cX3_isAhead 0 = .ok (.aload_n 0, 1) := by decide +kernel
theorem dX3_isAhead_1 : decode cX3_isAhead 1 = .ok (.iload_n 1, 1) := by decide +kernel
theorem dX3_isAhead_2 : decode cX3_isAhead 2 = .ok (.iconst 0, 1) := by decide +kernel
theorem dX3_isAhead_3 : decode cX3_isAhead 3 = .ok (.invokevirtual 56, 3) := by decide +kernel
theorem dX3_isAhead_6 : decode cX3_isAhead 6 = .ok (.aload_n 0, 1) := by decide +kernel
theorem dX3_isAhead_7 : decode cX3_isAhead 7 = .ok (.iload_n 2, 1) := by decide +kernel
theorem dX3_isAhead_8 : decode cX3_isAhead 8 = .ok (.iconst 0, 1) := by decide +kernel
theorem dX3_isAhead_9 : decode cX3_isAhead 9 = .ok (.invokevirtual 56, 3) := by decide +kernel
theorem dX3_isAhead_12 : decode cX3_isAhead 12 = .ok (.isub, 1) := by decide +kernel
theorem dX3_isAhead_13 : decode cX3_isAhead 13 = .ok (.istore_n 3, 1) := by decide +kernel
theorem dX3_isAhead_14 : decode cX3_isAhead 14 = .ok (.aload_n 0, 1) := by decide +kernel
theorem dX3_isAhead_15 : decode cX3_isAhead 15 = .ok (.iload_n 1, 1) := by decide +kernel
theorem dX3_isAhead_16 : decode cX3_isAhead 16 = .ok (.iconst 1, 1) := by decide +kernel
theorem dX3_isAhead_17 : decode cX3_isAhead 17 = .ok (.invokevirtual 56, 3) := by decide +kernel
theorem dX3_isAhead_20 : decode cX3_isAhead 20 = .ok (.aload_n 0, 1) := by decide +kernel
theorem dX3_isAhead_21 : decode cX3_isAhead 21 = .ok (.iload_n 2, 1) := by decide +kernel
theorem dX3_isAhead_22 : decode cX3_isAhead 22 = .ok (.iconst 1, 1) := by decide +kernel
theorem dX3_isAhead_23 : decode cX3_isAhead 23 = .ok (.invokevirtual 56, 3) := by decide +kernel
theorem dX3_isAhead_26 : decode cX3_isAhead 26 = .ok (.isub, 1) := by decide +kernel
theorem dX3_isAhead_27 : decode cX3_isAhead 27 = .ok (.istore 4, 2) := by decide +kernel
theorem dX3_isAhead_29 : decode cX3_isAhead 29 = .ok (.iload_n 3, 1) := by decide +kernel
theorem dX3_isAhead_30 : decode cX3_isAhead 30 = .ok (.ifCond .eq 13, 3) := by decide +kernel
theorem dX3_isAhead_33 : decode cX3_isAhead 33 = .ok (.iload_n 3, 1) := by decide +kernel
theorem dX3_isAhead_34 : decode cX3_isAhead 34 = .ok (.ifCond .le 7, 3) := by decide +kernel
theorem dX3_isAhead_37 : decode cX3_isAhead 37 = .ok (.iconst 1, 1) := by decide +kernel
theorem dX3_isAhead_38 : decode cX3_isAhead 38 = .ok (.goto 4, 3) := by decide +kernel
theorem dX3_isAhead_41 : decode cX3_isAhead 41 = .ok (.iconst 0, 1) := by decide +kernel
theorem dX3_isAhead_42 : decode cX3_isAhead 42 = .ok (.ireturn, 1) := by decide +kernel
theorem dX3_isAhead_43 : decode cX3_isAhead 43 = .ok (.iload 4, 2) := by decide +kernel
theorem dX3_isAhead_45 : decode cX3_isAhead 45 = .ok (.ifCond .eq 16, 3) := by decide +kernel
theorem dX3_isAhead_48 : decode cX3_isAhead 48 = .ok (.iload 4, 2) := by decide +kernel
theorem dX3_isAhead_50 : decode cX3_isAhead 50 = .ok (.ifCond .le 7, 3) := by decide +kernel
theorem dX3_isAhead_53 : decode cX3_isAhead 53 = .ok (.iconst 1, 1) := by decide +kernel
theorem dX3_isAhead_54 : decode cX3_isAhead 54 = .ok (.goto 17, 3) := by decide +kernel
theorem dX3_isAhead_57 : decode cX3_isAhead 57 = .ok (.iconst 0, 1) := by decide +kernel
theorem dX3_isAhead_58 : decode cX3_isAhead 58 = .ok (.goto 13, 3) := by decide +kernel
theorem dX3_isAhead_61 : decode cX3_isAhead 61 = .ok (.iload_n 1, 1) := by decide +kernel
theorem dX3_isAhead_62 : decode cX3_isAhead 62 = .ok (.iload_n 2, 1) := by decide +kernel
theorem dX3_isAhead_63 : decode cX3_isAhead 63 = .ok (.if_icmp .ge 7, 3) := by decide +kernel
theorem dX3_isAhead_66 : decode cX3_isAhead 66 = .ok (.iconst 1, 1) := by decide +kernel
theorem dX3_isAhead_67 : decode cX3_isAhead 67 = .ok (.goto 4, 3) := by decide +kernel
theorem dX3_isAhead_70 : decode cX3_isAhead 70 = .ok (.iconst 0, 1) := by decide +kernel
theorem dX3_isAhead_71 : decode cX3_isAhead 71 = .ok (.ireturn, 1) := by decide +kernel
set_option maxRecDepth 20000 in
theorem ggX3_takenStools_X3_ofStool : GoodIn wsX3_takenStools wsX3_ofStool := goodIn_ca (goodIn_r _ [6, 7, 8, 9, 10, 11, 12, 13, 14, 15] (by decide +kernel) (by decide +kernel)) (goodIn_sub (fun _ h => List.mem_cons_of_mem _ (List.mem_append_right _ h)) (by decide +kernel))
set_option maxRecDepth 20000 in
theorem gX3_takenStools_X3_ofStool : GoodIn wsX3_takenStools (wsV RX3 59 RX3 yX3_ofStool wsX3_ofStool) := goodIn_app (goodIn_of _ (by decide +kernel)) ggX3_takenStools_X3_ofStool
theorem dX3_takenStools_0 : decode cX3_takenStools 0 = .ok (.iconst 0, 1) := by decide +kernel
theorem dX3_takenStools_1 : decode cX3_takenStools 1 = .ok (.istore_n 3, 1) := by decide +kernel
theorem dX3_takenStools_2 : decode cX3_takenStools 2 = .ok (.iload_n 1, 1) := by decide +kernel
theorem dX3_takenStools_3 : decode cX3_takenStools 3 = .ok (.istore 4, 2) := by decide +kernel
theorem dX3_takenStools_5 : decode cX3_takenStools 5 = .ok (.iload 4, 2) := by decide +kernel
theorem dX3_takenStools_7 : decode cX3_takenStools 7 = .ok (.iload_n 2, 1) := by decide +kernel
theorem dX3_takenStools_8 : decode cX3_takenStools 8 = .ok (.if_icmp .gt 37, 3) := by decide +kernel
theorem dX3_takenStools_11 : decode cX3_takenStools 11 = .ok (.iload 4, 2) := by decide +kernel
theorem dX3_takenStools_13 : decode cX3_takenStools 13 = .ok (.aload_n 0, 1) := by decide +kernel
theorem dX3_takenStools_14 : decode cX3_takenStools 14 = .ok (.getfield 18, 3) := by decide +kernel
theorem dX3_takenStools_17 : decode cX3_takenStools 17 = .ok (.if_icmp .ge 28, 3) := by decide +kernel
theorem dX3_takenStools_20 : decode cX3_takenStools 20 = .ok (.iload_n 3, 1) := by decide +kernel
theorem dX3_takenStools_21 : decode cX3_takenStools 21 = .ok (.aload_n 0, 1) := by decide +kernel
theorem dX3_takenStools_22 : decode cX3_takenStools 22 = .ok (.iload 4, 2) := by decide +kernel
theorem dX3_takenStools_24 : decode cX3_takenStools 24 = .ok (.iconst 5, 1) := by decide +kernel
theorem dX3_takenStools_25 : decode cX3_takenStools 25 = .ok (.invokevirtual 59, 3) := by decide +kernel
theorem dX3_takenStools_28 : decode cX3_takenStools 28 = .ok (.iconst (-1), 1) := by decide +kernel
theorem dX3_takenStools_29 : decode cX3_takenStools 29 = .ok (.if_icmp .ne 7, 3) := by decide +kernel
theorem dX3_takenStools_32 : decode cX3_takenStools 32 = .ok (.iconst 0, 1) := by decide +kernel
theorem dX3_takenStools_33 : decode cX3_takenStools 33 = .ok (.goto 4, 3) := by decide +kernel
theorem dX3_takenStools_36 : decode cX3_takenStools 36 = .ok (.iconst 1, 1) := by decide +kernel
theorem dX3_takenStools_37 : decode cX3_takenStools 37 = .ok (.iadd, 1) := by decide +kernel
theorem dX3_takenStools_38 : decode cX3_takenStools 38 = .ok (.istore_n 3, 1) := by decide +kernel
theorem dX3_takenStools_39 : decode cX3_takenStools 39 = .ok (.iinc 4 1, 3) := by decide +kernel
theorem dX3_takenStools_42 : decode cX3_takenStools 42 = .ok (.goto (-37), 3) := by decide +kernel
theorem dX3_takenStools_45 : decode cX3_takenStools 45 = .ok (.iload_n 3, 1) := by decide +kernel
theorem dX3_takenStools_46 : decode cX3_takenStools 46 = .ok (.ireturn, 1) := by decide +kernel
set_option maxRecDepth 20000 in
theorem ggX3_sumOfTakenHeights_X3_ofStool : GoodIn wsX3_sumOfTakenHeights wsX3_ofStool := goodIn_ca (goodIn_r _ [6, 7, 8, 9, 10, 11, 12, 13, 14, 15] (by decide +kernel) (by decide +kernel)) (goodIn_sub (fun _ h => List.mem_cons_of_mem _ (List.mem_append_right _ h)) (by decide +kernel))
set_option maxRecDepth 20000 in
theorem gX3_sumOfTakenHeights_X3_ofStool : GoodIn wsX3_sumOfTakenHeights (wsV RX3 59 RX3 yX3_ofStool wsX3_ofStool) := goodIn_app (goodIn_of _ (by decide +kernel)) ggX3_sumOfTakenHeights_X3_ofStool
theorem dX3_sumOfTakenHeights_0 : decode cX3_sumOfTakenHeights 0 = .ok (.iconst 0, 1) := by decide +kernel
theorem dX3_sumOfTakenHeights_1 : decode cX3_sumOfTakenHeights 1 = .ok (.istore_n 1, 1) := by decide +kernel
theorem dX3_sumOfTakenHeights_2 : decode cX3_sumOfTakenHeights 2 = .ok (.iconst 0, 1) := by decide +kernel
theorem dX3_sumOfTakenHeights_3 : decode cX3_sumOfTakenHeights 3 = .ok (.istore_n 2, 1) := by decide +kernel
theorem dX3_sumOfTakenHeights_4 : decode cX3_sumOfTakenHeights 4 = .ok (.iload_n 2, 1) := by decide +kernel
theorem dX3_sumOfTakenHeights_5 : decode cX3_sumOfTakenHeights 5 = .ok (.aload_n 0, 1) := by decide +kernel
theorem dX3_sumOfTakenHeights_6 : decode cX3_sumOfTakenHeights 6 = .ok (.getfield 18, 3) := by decide +kernel
theorem dX3_sumOfTakenHeights_9 : decode cX3_sumOfTakenHeights 9 = .ok (.if_icmp .ge 32, 3) := by decide +kernel
theorem dX3_sumOfTakenHeights_12 : decode cX3_sumOfTakenHeights 12 = .ok (.iload_n 1, 1) := by decide +kernel
theorem dX3_sumOfTakenHeights_13 : decode cX3_sumOfTakenHeights 13 = .ok (.aload_n 0, 1) := by decide +kernel
theorem dX3_sumOfTakenHeights_14 : decode cX3_sumOfTakenHeights 14 = .ok (.iload_n 2, 1) := by decide +kernel
theorem dX3_sumOfTakenHeights_15 : decode cX3_sumOfTakenHeights 15 = .ok (.iconst 5, 1) := by decide +kernel
theorem dX3_sumOfTakenHeights_16 : decode cX3_sumOfTakenHeights 16 = .ok (.invokevirtual 59, 3) := by decide +kernel
theorem dX3_sumOfTakenHeights_19 : decode cX3_sumOfTakenHeights 19 = .ok (.iconst (-1), 1) := by decide +kernel
theorem dX3_sumOfTakenHeights_20 : decode cX3_sumOfTakenHeights 20 = .ok (.if_icmp .ne 7, 3) := by decide +kernel
theorem dX3_sumOfTakenHeights_23 : decode cX3_sumOfTakenHeights 23 = .ok (.iconst 0, 1) := by decide +kernel
theorem dX3_sumOfTakenHeights_24 : decode cX3_sumOfTakenHeights 24 = .ok (.goto 9, 3) := by decide +kernel
theorem dX3_sumOfTakenHeights_27 : decode cX3_sumOfTakenHeights 27 = .ok (.aload_n 0, 1) := by decide +kernel
theorem dX3_sumOfTakenHeights_28 : decode cX3_sumOfTakenHeights 28 = .ok (.iload_n 2, 1) := by decide +kernel
theorem dX3_sumOfTakenHeights_29 : decode cX3_sumOfTakenHeights 29 = .ok (.iconst 0, 1) := by decide +kernel
theorem dX3_sumOfTakenHeights_30 : decode cX3_sumOfTakenHeights 30 = .ok (.invokevirtual 59, 3) := by decide +kernel
theorem dX3_sumOfTakenHeights_33 : decode cX3_sumOfTakenHeights 33 = .ok (.iadd, 1) := by decide +kernel
theorem dX3_sumOfTakenHeights_34 : decode cX3_sumOfTakenHeights 34 = .ok (.istore_n 1, 1) := by decide +kernel
theorem dX3_sumOfTakenHeights_35 : decode cX3_sumOfTakenHeights 35 = .ok (.iinc 2 1, 3) := by decide +kernel
theorem dX3_sumOfTakenHeights_38 : decode cX3_sumOfTakenHeights 38 = .ok (.goto (-34), 3) := by decide +kernel
theorem dX3_sumOfTakenHeights_41 : decode cX3_sumOfTakenHeights 41 = .ok (.iload_n 1, 1) := by decide +kernel
theorem dX3_sumOfTakenHeights_42 : decode cX3_sumOfTakenHeights 42 = .ok (.ireturn, 1) := by decide +kernel
set_option maxRecDepth 20000 in
theorem ggX3_sumOfStools_X3_ofStool : GoodIn wsX3_sumOfStools wsX3_ofStool := goodIn_ca (goodIn_r _ [6, 7, 8, 9, 10, 11, 12, 13, 14, 15] (by decide +kernel) (by decide +kernel)) (goodIn_sub (fun _ h => List.mem_cons_of_mem _ (List.mem_append_right _ h)) (by decide +kernel))
set_option maxRecDepth 20000 in
theorem gX3_sumOfStools_X3_ofStool : GoodIn wsX3_sumOfStools (wsV RX3 59 RX3 yX3_ofStool wsX3_ofStool) := goodIn_app (goodIn_of _ (by decide +kernel)) ggX3_sumOfStools_X3_ofStool
theorem dX3_sumOfStools_0 : decode cX3_sumOfStools 0 = .ok (.iconst 0, 1) := by decide +kernel
theorem dX3_sumOfStools_1 : decode cX3_sumOfStools 1 = .ok (.istore_n 2, 1) := by decide +kernel
theorem dX3_sumOfStools_2 : decode cX3_sumOfStools 2 = .ok (.iconst 0, 1) := by decide +kernel
theorem dX3_sumOfStools_3 : decode cX3_sumOfStools 3 = .ok (.istore_n 3, 1) := by decide +kernel
theorem dX3_sumOfStools_4 : decode cX3_sumOfStools 4 = .ok (.iload_n 3, 1) := by decide +kernel
theorem dX3_sumOfStools_5 : decode cX3_sumOfStools 5 = .ok (.aload_n 0, 1) := by decide +kernel
theorem dX3_sumOfStools_6 : decode cX3_sumOfStools 6 = .ok (.getfield 18, 3) := by decide +kernel
theorem dX3_sumOfStools_9 : decode cX3_sumOfStools 9 = .ok (.if_icmp .ge 18, 3) := by decide +kernel
theorem dX3_sumOfStools_12 : decode cX3_sumOfStools 12 = .ok (.iload_n 2, 1) := by decide +kernel
theorem dX3_sumOfStools_13 : decode cX3_sumOfStools 13 = .ok (.aload_n 0, 1) := by decide +kernel
theorem dX3_sumOfStools_14 : decode cX3_sumOfStools 14 = .ok (.iload_n 3, 1) := by decide +kernel
theorem dX3_sumOfStools_15 : decode cX3_sumOfStools 15 = .ok (.iload_n 1, 1) := by decide +kernel
theorem dX3_sumOfStools_16 : decode cX3_sumOfStools 16 = .ok (.invokevirtual 59, 3) := by decide +kernel
theorem dX3_sumOfStools_19 : decode cX3_sumOfStools 19 = .ok (.iadd, 1) := by decide +kernel
theorem dX3_sumOfStools_20 : decode cX3_sumOfStools 20 = .ok (.istore_n 2, 1) := by decide +kernel
theorem dX3_sumOfStools_21 : decode cX3_sumOfStools 21 = .ok (.iinc 3 1, 3) := by decide +kernel
theorem dX3_sumOfStools_24 : decode cX3_sumOfStools 24 = .ok (.goto (-20), 3) := by decide +kernel
theorem dX3_sumOfStools_27 : decode cX3_sumOfStools 27 = .ok (.iload_n 2, 1) := by decide +kernel
theorem dX3_sumOfStools_28 : decode cX3_sumOfStools 28 = .ok (.ireturn, 1) := by decide +kernel
set_option maxRecDepth 20000 in
theorem ggX3_cats_X3_ofSitter : GoodIn wsX3_cats wsX3_ofSitter := goodIn_ca (goodIn_r _ [6, 7, 8, 9, 10, 11, 12, 13, 14, 15] (by decide +kernel) (by decide +kernel)) (goodIn_sub (fun _ h => List.mem_cons_of_mem _ (List.mem_append_right _ h)) (by decide +kernel))
set_option maxRecDepth 20000 in
theorem gX3_cats_X3_ofSitter : GoodIn wsX3_cats (wsV RX3 56 RX3 yX3_ofSitter wsX3_ofSitter) := goodIn_app (goodIn_of _ (by decide +kernel)) ggX3_cats_X3_ofSitter
theorem dX3_cats_0 : decode cX3_cats 0 = .ok (.iconst 0, 1) := by decide +kernel
theorem dX3_cats_1 : decode cX3_cats 1 = .ok (.istore_n 1, 1) := by decide +kernel
theorem dX3_cats_2 : decode cX3_cats 2 = .ok (.iconst 0, 1) := by decide +kernel
theorem dX3_cats_3 : decode cX3_cats 3 = .ok (.istore_n 2, 1) := by decide +kernel
theorem dX3_cats_4 : decode cX3_cats 4 = .ok (.iload_n 2, 1) := by decide +kernel
theorem dX3_cats_5 : decode cX3_cats 5 = .ok (.aload_n 0, 1) := by decide +kernel
theorem dX3_cats_6 : decode cX3_cats 6 = .ok (.getfield 22, 3) := by decide +kernel
theorem dX3_cats_9 : decode cX3_cats 9 = .ok (.if_icmp .ge 26, 3) := by decide +kernel
theorem dX3_cats_12 : decode cX3_cats 12 = .ok (.iload_n 1, 1) := by decide +kernel
theorem dX3_cats_13 : decode cX3_cats 13 = .ok (.aload_n 0, 1) := by decide +kernel
theorem dX3_cats_14 : decode cX3_cats 14 = .ok (.iload_n 2, 1) := by decide +kernel
theorem dX3_cats_15 : decode cX3_cats 15 = .ok (.iconst 0, 1) := by decide +kernel
theorem dX3_cats_16 : decode cX3_cats 16 = .ok (.invokevirtual 56, 3) := by decide +kernel
theorem dX3_cats_19 : decode cX3_cats 19 = .ok (.ifCond .ne 7, 3) := by decide +kernel
theorem dX3_cats_22 : decode cX3_cats 22 = .ok (.iconst 1, 1) := by decide +kernel
theorem dX3_cats_23 : decode cX3_cats 23 = .ok (.goto 4, 3) := by decide +kernel
theorem dX3_cats_26 : decode cX3_cats 26 = .ok (.iconst 0, 1) := by decide +kernel
theorem dX3_cats_27 : decode cX3_cats 27 = .ok (.iadd, 1) := by decide +kernel
theorem dX3_cats_28 : decode cX3_cats 28 = .ok (.istore_n 1, 1) := by decide +kernel
theorem dX3_cats_29 : decode cX3_cats 29 = .ok (.iinc 2 1, 3) := by decide +kernel
theorem dX3_cats_32 : decode cX3_cats 32 = .ok (.goto (-28), 3) := by decide +kernel
theorem dX3_cats_35 : decode cX3_cats 35 = .ok (.iload_n 1, 1) := by decide +kernel
theorem dX3_cats_36 : decode cX3_cats 36 = .ok (.ireturn, 1) := by decide +kernel
set_option maxRecDepth 20000 in
theorem ggX3_stoolsAreWell_X3_ofStool : GoodIn wsX3_stoolsAreWell wsX3_ofStool := goodIn_ca (goodIn_r _ [6, 7, 17, 18, 19, 20, 21, 22, 23, 24] (by decide +kernel) (by decide +kernel)) (goodIn_sub (fun _ h => List.mem_cons_of_mem _ (List.mem_append_right _ h)) (by decide +kernel))
set_option maxRecDepth 20000 in
theorem gX3_stoolsAreWell_X3_ofStool : GoodIn wsX3_stoolsAreWell (wsV RX3 59 RX3 yX3_ofStool wsX3_ofStool) := goodIn_app (goodIn_of _ (by decide +kernel)) ggX3_stoolsAreWell_X3_ofStool
set_option maxRecDepth 20000 in
theorem ggX3_stoolsAreWell_X3_ofSitter : GoodIn wsX3_stoolsAreWell wsX3_ofSitter := goodIn_ca (goodIn_r _ [11, 12, 17, 18, 19, 20, 21, 22, 23, 24] (by decide +kernel) (by decide +kernel)) (goodIn_sub (fun _ h => List.mem_cons_of_mem _ (List.mem_append_right _ h)) (by decide +kernel))
set_option maxRecDepth 20000 in
theorem gX3_stoolsAreWell_X3_ofSitter : GoodIn wsX3_stoolsAreWell (wsV RX3 56 RX3 yX3_ofSitter wsX3_ofSitter) := goodIn_app (goodIn_of _ (by decide +kernel)) ggX3_stoolsAreWell_X3_ofSitter
set_option maxRecDepth 20000 in
theorem ggX3_stoolsAreWell_X3_maySit : GoodIn wsX3_stoolsAreWell wsX3_maySit := goodIn_ca (goodIn_r _ [16, 8, 9, 10, 5, 11, 12, 2, 3, 4, 6, 7, 17, 18, 19, 20, 21, 22, 23, 24] (by decide +kernel) (by decide +kernel)) (goodIn_sub (fun _ h => List.mem_cons_of_mem _ (List.mem_append_right _ h)) (by decide +kernel))
set_option maxRecDepth 20000 in
theorem gX3_stoolsAreWell_X3_maySit : GoodIn wsX3_stoolsAreWell (wsV RX3 66 RX3 yX3_maySit wsX3_maySit) := goodIn_app (goodIn_of _ (by decide +kernel)) ggX3_stoolsAreWell_X3_maySit
theorem dX3_stoolsAreWell_0 : decode cX3_stoolsAreWell 0 = .ok (.iconst 0, 1) := by decide +kernel
theorem dX3_stoolsAreWell_1 : decode cX3_stoolsAreWell 1 = .ok (.istore_n 1, 1) := by decide +kernel
theorem dX3_stoolsAreWell_2 : decode cX3_stoolsAreWell 2 = .ok (.iload_n 1, 1) := by decide +kernel
theorem dX3_stoolsAreWell_3 : decode cX3_stoolsAreWell 3 = .ok (.aload_n 0, 1) := by decide +kernel
theorem dX3_stoolsAreWell_4 : decode cX3_stoolsAreWell 4 = .ok (.getfield 18, 3) := by decide +kernel
theorem dX3_stoolsAreWell_7 : decode cX3_stoolsAreWell 7 = .ok (.if_icmp .ge 42, 3) := by decide +kernel
theorem dX3_stoolsAreWell_10 : decode cX3_stoolsAreWell 10 = .ok (.aload_n 0, 1) := by decide +kernel
theorem dX3_stoolsAreWell_11 : decode cX3_stoolsAreWell 11 = .ok (.iload_n 1, 1) := by decide +kernel
theorem dX3_stoolsAreWell_12 : decode cX3_stoolsAreWell 12 = .ok (.iconst 5, 1) := by decide +kernel
theorem dX3_stoolsAreWell_13 : decode cX3_stoolsAreWell 13 = .ok (.invokevirtual 59, 3) := by decide +kernel
theorem dX3_stoolsAreWell_16 : decode cX3_stoolsAreWell 16 = .ok (.istore_n 2, 1) := by decide +kernel
theorem dX3_stoolsAreWell_17 : decode cX3_stoolsAreWell 17 = .ok (.iload_n 2, 1) := by decide +kernel
theorem dX3_stoolsAreWell_18 : decode cX3_stoolsAreWell 18 = .ok (.iconst (-1), 1) := by decide +kernel
theorem dX3_stoolsAreWell_19 : decode cX3_stoolsAreWell 19 = .ok (.if_icmp .eq 24, 3) := by decide +kernel
theorem dX3_stoolsAreWell_22 : decode cX3_stoolsAreWell 22 = .ok (.aload_n 0, 1) := by decide +kernel
theorem dX3_stoolsAreWell_23 : decode cX3_stoolsAreWell 23 = .ok (.iload_n 2, 1) := by decide +kernel
theorem dX3_stoolsAreWell_24 : decode cX3_stoolsAreWell 24 = .ok (.iconst 2, 1) := by decide +kernel
theorem dX3_stoolsAreWell_25 : decode cX3_stoolsAreWell 25 = .ok (.invokevirtual 56, 3) := by decide +kernel
theorem dX3_stoolsAreWell_28 : decode cX3_stoolsAreWell 28 = .ok (.iload_n 1, 1) := by decide +kernel
theorem dX3_stoolsAreWell_29 : decode cX3_stoolsAreWell 29 = .ok (.if_icmp .ne 12, 3) := by decide +kernel
theorem dX3_stoolsAreWell_32 : decode cX3_stoolsAreWell 32 = .ok (.aload_n 0, 1) := by decide +kernel
theorem dX3_stoolsAreWell_33 : decode cX3_stoolsAreWell 33 = .ok (.iload_n 2, 1) := by decide +kernel
theorem dX3_stoolsAreWell_34 : decode cX3_stoolsAreWell 34 = .ok (.iload_n 1, 1) := by decide +kernel
theorem dX3_stoolsAreWell_35 : decode cX3_stoolsAreWell 35 = .ok (.invokevirtual 66, 3) := by decide +kernel
theorem dX3_stoolsAreWell_38 : decode cX3_stoolsAreWell 38 = .ok (.ifCond .ne 5, 3) := by decide +kernel
theorem dX3_stoolsAreWell_41 : decode cX3_stoolsAreWell 41 = .ok (.iconst 0, 1) := by decide +kernel
theorem dX3_stoolsAreWell_42 : decode cX3_stoolsAreWell 42 = .ok (.ireturn, 1) := by decide +kernel
theorem dX3_stoolsAreWell_43 : decode cX3_stoolsAreWell 43 = .ok (.iinc 1 1, 3) := by decide +kernel
theorem dX3_stoolsAreWell_46 : decode cX3_stoolsAreWell 46 = .ok (.goto (-44), 3) := by decide +kernel
theorem dX3_stoolsAreWell_49 : decode cX3_stoolsAreWell 49 = .ok (.iconst 1, 1) := by decide +kernel
theorem dX3_stoolsAreWell_50 : decode cX3_stoolsAreWell 50 = .ok (.ireturn, 1) := by decide +kernel
set_option maxRecDepth 20000 in
theorem ggX3_sittersAreWell_X3_ofSitter : GoodIn wsX3_sittersAreWell wsX3_ofSitter := goodIn_ca (goodIn_r _ [6, 7, 13, 14, 15, 16, 17, 18, 19, 20] (by decide +kernel) (by decide +kernel)) (goodIn_sub (fun _ h => List.mem_cons_of_mem _ (List.mem_append_right _ h)) (by decide +kernel))
set_option maxRecDepth 20000 in
theorem gX3_sittersAreWell_X3_ofSitter : GoodIn wsX3_sittersAreWell (wsV RX3 56 RX3 yX3_ofSitter wsX3_ofSitter) := goodIn_app (goodIn_of _ (by decide +kernel)) ggX3_sittersAreWell_X3_ofSitter
set_option maxRecDepth 20000 in
theorem ggX3_sittersAreWell_X3_ofStool : GoodIn wsX3_sittersAreWell wsX3_ofStool := goodIn_ca (goodIn_r _ [11, 12, 13, 14, 15, 16, 17, 18, 19, 20] (by decide +kernel) (by decide +kernel)) (goodIn_sub (fun _ h => List.mem_cons_of_mem _ (List.mem_append_right _ h)) (by decide +kernel))
set_option maxRecDepth 20000 in
theorem gX3_sittersAreWell_X3_ofStool : GoodIn wsX3_sittersAreWell (wsV RX3 59 RX3 yX3_ofStool wsX3_ofStool) := goodIn_app (goodIn_of _ (by decide +kernel)) ggX3_sittersAreWell_X3_ofStool
theorem dX3_sittersAreWell_0 : decode cX3_sittersAreWell 0 = .ok (.iconst 0, 1) := by decide +kernel
theorem dX3_sittersAreWell_1 : decode cX3_sittersAreWell 1 = .ok (.istore_n 1, 1) := by decide +kernel
theorem dX3_sittersAreWell_2 : decode cX3_sittersAreWell 2 = .ok (.iload_n 1, 1) := by decide +kernel
theorem dX3_sittersAreWell_3 : decode cX3_sittersAreWell 3 = .ok (.aload_n 0, 1) := by decide +kernel
theorem dX3_sittersAreWell_4 : decode cX3_sittersAreWell 4 = .ok (.getfield 22, 3) := by decide +kernel
theorem dX3_sittersAreWell_7 : decode cX3_sittersAreWell 7 = .ok (.if_icmp .ge 33, 3) := by decide +kernel
theorem dX3_sittersAreWell_10 : decode cX3_sittersAreWell 10 = .ok (.aload_n 0, 1) := by decide +kernel
theorem dX3_sittersAreWell_11 : decode cX3_sittersAreWell 11 = .ok (.iload_n 1, 1) := by decide +kernel
theorem dX3_sittersAreWell_12 : decode cX3_sittersAreWell 12 = .ok (.iconst 2, 1) := by decide +kernel
theorem dX3_sittersAreWell_13 : decode cX3_sittersAreWell 13 = .ok (.invokevirtual 56, 3) := by decide +kernel
theorem dX3_sittersAreWell_16 : decode cX3_sittersAreWell 16 = .ok (.istore_n 2, 1) := by decide +kernel
theorem dX3_sittersAreWell_17 : decode cX3_sittersAreWell 17 = .ok (.iload_n 2, 1) := by decide +kernel
theorem dX3_sittersAreWell_18 : decode cX3_sittersAreWell 18 = .ok (.iconst (-1), 1) := by decide +kernel
theorem dX3_sittersAreWell_19 : decode cX3_sittersAreWell 19 = .ok (.if_icmp .eq 15, 3) := by decide +kernel
theorem dX3_sittersAreWell_22 : decode cX3_sittersAreWell 22 = .ok (.aload_n 0, 1) := by decide +kernel
theorem dX3_sittersAreWell_23 : decode cX3_sittersAreWell 23 = .ok (.iload_n 2, 1) := by decide +kernel
theorem dX3_sittersAreWell_24 : decode cX3_sittersAreWell 24 = .ok (.iconst 5, 1) := by decide +kernel
theorem dX3_sittersAreWell_25 : decode cX3_sittersAreWell 25 = .ok (.invokevirtual 59, 3) := by decide +kernel
theorem dX3_sittersAreWell_28 : decode cX3_sittersAreWell 28 = .ok (.iload_n 1, 1) := by decide +kernel
theorem dX3_sittersAreWell_29 : decode cX3_sittersAreWell 29 = .ok (.if_icmp .eq 5, 3) := by decide +kernel
theorem dX3_sittersAreWell_32 : decode cX3_sittersAreWell 32 = .ok (.iconst 0, 1) := by decide +kernel
theorem dX3_sittersAreWell_33 : decode cX3_sittersAreWell 33 = .ok (.ireturn, 1) := by decide +kernel
theorem dX3_sittersAreWell_34 : decode cX3_sittersAreWell 34 = .ok (.iinc 1 1, 3) := by decide +kernel
theorem dX3_sittersAreWell_37 : decode cX3_sittersAreWell 37 = .ok (.goto (-35), 3) := by decide +kernel
theorem dX3_sittersAreWell_40 : decode cX3_sittersAreWell 40 = .ok (.iconst 1, 1) := by decide +kernel
theorem dX3_sittersAreWell_41 : decode cX3_sittersAreWell 41 = .ok (.ireturn, 1) := by decide +kernel
theorem dX4_init_0 : decode cX4_init 0 = .ok (.aload_n 0, 1) := by decide +kernel
theorem dX4_init_1 : decode cX4_init 1 = .ok (.invokespecial 3, 3) := by decide +kernel
theorem dX4_init_4 : decode cX4_init 4 = .ok (.aload_n 0, 1) := by decide +kernel
theorem dX4_init_5 : decode cX4_init 5 = .ok (.bipush 60, 2) := by decide +kernel
theorem dX4_init_7 : decode cX4_init 7 = .ok (.newarray .char, 2) := by decide +kernel
theorem dX4_init_9 : decode cX4_init 9 = .ok (.putfield 11, 3) := by decide +kernel
theorem dX4_init_12 : decode cX4_init 12 = .ok (.aload_n 0, 1) := by decide +kernel
theorem dX4_init_13 : decode cX4_init 13 = .ok (.sipush 150, 3) := by decide +kernel
theorem dX4_init_16 : decode cX4_init 16 = .ok (.newarray .int, 2) := by decide +kernel
theorem dX4_init_18 : decode cX4_init 18 = .ok (.putfield 15, 3) := by decide +kernel
theorem dX4_init_21 : decode cX4_init 21 = .ok (.aload_n 0, 1) := by decide +kernel
theorem dX4_init_22 : decode cX4_init 22 = .ok (.iconst 0, 1) := by decide +kernel
theorem dX4_init_23 : decode cX4_init 23 = .ok (.putfield 19, 3) := by decide +kernel
theorem dX4_init_26 : decode cX4_init 26 = .ok (.aload_n 0, 1) := by decide +kernel
theorem dX4_init_27 : decode cX4_init 27 = .ok (.iconst 0, 1) := by decide +kernel
theorem dX4_init_28 : decode cX4_init 28 = .ok (.putfield 23, 3) := by decide +kernel
theorem dX4_init_31 : decode cX4_init 31 = .ok (.aload_n 0, 1) := by decide +kernel
theorem dX4_init_32 : decode cX4_init 32 = .ok (.iconst 0, 1) := by decide +kernel
theorem dX4_init_33 : decode cX4_init 33 = .ok (.putfield 26, 3) := by decide +kernel
theorem dX4_init_36 : decode cX4_init 36 = .ok (.return_, 1) := by decide +kernel
theorem dX4_add_0 : decode cX4_add 0 = .ok (.aload_n 0, 1) := by decide +kernel
theorem dX4_add_1 : decode cX4_add 1 = .ok (.getfield 19, 3) := by decide +kernel
theorem dX4_add_4 : decode cX4_add 4 = .ok (.ifCond .lt 32, 3) := by decide +kernel
theorem dX4_add_7 : decode cX4_add 7 = .ok (.aload_n 0, 1) := by decide +kernel
theorem dX4_add_8 : decode cX4_add 8 = .ok (.getfield 19, 3) := by decide +kernel
theorem dX4_add_11 : decode cX4_add 11 = .ok (.bipush 60, 2) := by decide +kernel
theorem dX4_add_13 : decode cX4_add 13 = .ok (.if_icmp .ge 23, 3) := by decide +kernel
theorem dX4_add_16 : decode cX4_add 16 = .ok (.aload_n 0, 1) := by decide +kernel
theorem dX4_add_17 : decode cX4_add 17 = .ok (.getfield 11, 3) := by decide +kernel
theorem dX4_add_20 : decode cX4_add 20 = .ok (.aload_n 0, 1) := by decide +kernel
theorem dX4_add_21 : decode cX4_add 21 = .ok (.getfield 19, 3) := by decide +kernel
theorem dX4_add_24 : decode cX4_add 24 = .ok (.iload_n 1, 1) := by decide +kernel
theorem dX4_add_25 : decode cX4_add 25 = .ok (.castore, 1) := by decide +kernel
theorem dX4_add_26 : decode cX4_add 26 = .ok (.aload_n 0, 1) := by decide +kernel
theorem dX4_add_27 : decode cX4_add 27 = .ok (.dup, 1) := by decide +kernel
theorem dX4_add_28 : decode cX4_add 28 = .ok (.getfield 19, 3) := by decide +kernel
theorem dX4_add_31 : decode cX4_add 31 = .ok (.iconst 1, 1) := by decide +kernel
theorem dX4_add_32 : decode cX4_add 32 = .ok (.iadd, 1) := by decide +kernel
theorem dX4_add_33 : decode cX4_add 33 = .ok (.putfield 19, 3) := by decide +kernel
theorem dX4_add_36 : decode cX4_add 36 = .ok (.return_, 1) := by decide +kernel
theorem dX4_clear_0 : decode cX4_clear 0 = .ok (.aload_n 0, 1) := by decide +kernel
theorem dX4_clear_1 : decode cX4_clear 1 = .ok (.iconst 0, 1) := by decide +kernel
theorem dX4_clear_2 : decode cX4_clear 2 = .ok (.putfield 19, 3) := by decide +kernel
theorem dX4_clear_5 : decode cX4_clear 5 = .ok (.return_, 1) := by decide +kernel
theorem dX4_number_0 : decode cX4_number 0 = .ok (.iload_n 1, 1) := by decide +kernel
theorem dX4_number_1 : decode cX4_number 1 = .ok (.ifCond .lt 18, 3) := by decide +kernel
theorem dX4_number_4 : decode cX4_number 4 = .ok (.iload_n 1, 1) := by decide +kernel
theorem dX4_number_5 : decode cX4_number 5 = .ok (.bipush 30, 2) := by decide +kernel
theorem dX4_number_7 : decode cX4_number 7 = .ok (.if_icmp .ge 12, 3) := by decide +kernel
theorem dX4_number_10 : decode cX4_number 10 = .ok (.iload_n 2, 1) := by decide +kernel
theorem dX4_number_11 : decode cX4_number 11 = .ok (.ifCond .lt 8, 3) := by decide +kernel
theorem dX4_number_14 : decode cX4_number 14 = .ok (.iload_n 2, 1) := by decide +kernel
theorem dX4_number_15 : decode cX4_number 15 = .ok (.iconst 5, 1) := by decide +kernel
theorem dX4_number_16 : decode cX4_number 16 = .ok (.if_icmp .lt 5, 3) := by decide +kernel
theorem dX4_number_19 : decode cX4_number 19 = .ok (.iconst (-1), 1) := by decide +kernel
theorem dX4_number_20 : decode cX4_number 20 = .ok (.ireturn, 1) := by decide +kernel
theorem dX4_number_21 : decode cX4_number 21 = .ok (.aload_n 0, 1) := by decide +kernel
theorem dX4_number_22 : decode cX4_number 22 = .ok (.getfield 15, 3) := by decide +kernel
theorem dX4_number_25 : decode cX4_number 25 = .ok (.iload_n 1, 1) := by decide +kernel
theorem dX4_number_26 : decode cX4_number 26 = .ok (.iconst 5, 1) := by decide +kernel
theorem dX4_number_27 : decode cX4_number 27 = .ok (.imul, 1) := by decide +kernel
theorem dX4_number_28 : decode cX4_number 28 = .ok (.iload_n 2, 1) := by decide +kernel
theorem dX4_number_29 : decode cX4_number 29 = .ok (.iadd, 1) := by decide +kernel
theorem dX4_number_30 : decode cX4_number 30 = .ok (.iaload, 1) := by decide +kernel
theorem dX4_number_31 : decode cX4_number 31 = .ok (.ireturn, 1) := by decide +kernel
theorem dX4_setNumber_0 : decode cX4_setNumber 0 = .ok (.aload_n 0, 1) := by decide +kernel
theorem dX4_setNumber_1 : decode cX4_setNumber 1 = .ok (.getfield 26, 3) := by decide +kernel
theorem dX4_setNumber_4 : decode cX4_setNumber 4 = .ok (.ifCond .lt 35, 3) := by decide +kernel
theorem dX4_setNumber_7 : decode cX4_setNumber 7 = .ok (.aload_n 0, 1) := by decide +kernel
theorem dX4_setNumber_8 : decode cX4_setNumber 8 = .ok (.getfield 26, 3) := by decide +kernel
theorem dX4_setNumber_11 : decode cX4_setNumber 11 = .ok (.bipush 30, 2) := by decide +kernel
theorem dX4_setNumber_13 : decode cX4_setNumber 13 = .ok (.if_icmp .ge 26, 3) := by decide +kernel
theorem dX4_setNumber_16 : decode cX4_setNumber 16 = .ok (.iload_n 1, 1) := by decide +kernel
theorem dX4_setNumber_17 : decode cX4_setNumber 17 = .ok (.ifCond .lt 22, 3) := by decide +kernel
theorem dX4_setNumber_20 : decode cX4_setNumber 20 = .ok (.iload_n 1, 1) := by decide +kernel
theorem dX4_setNumber_21 : decode cX4_setNumber 21 = .ok (.iconst 5, 1) := by decide +kernel
theorem dX4_setNumber_22 : decode cX4_setNumber 22 = .ok (.if_icmp .ge 17, 3) := by decide +kernel
theorem dX4_setNumber_25 : decode cX4_setNumber 25 = .ok (.aload_n 0, 1) := by decide +kernel
theorem dX4_setNumber_26 : decode cX4_setNumber 26 = .ok (.getfield 15, 3) := by decide +kernel
theorem dX4_setNumber_29 : decode cX4_setNumber 29 = .ok (.aload_n 0, 1) := by decide +kernel
theorem dX4_setNumber_30 : decode cX4_setNumber 30 = .ok (.getfield 26, 3) := by decide +kernel
theorem dX4_setNumber_33 : decode cX4_setNumber 33 = .ok (.iconst 5, 1) := by decide +kernel
theorem dX4_setNumber_34 : decode cX4_setNumber 34 = .ok (.imul, 1) := by decide +kernel
theorem dX4_setNumber_35 : decode cX4_setNumber 35 = .ok (.iload_n 1, 1) := by decide +kernel
theorem dX4_setNumber_36 : decode cX4_setNumber 36 = .ok (.iadd, 1) := by decide +kernel
theorem dX4_setNumber_37 : decode cX4_setNumber 37 = .ok (.iload_n 2, 1) := by decide +kernel
theorem dX4_setNumber_38 : decode cX4_setNumber 38 = .ok (.iastore, 1) := by decide +kernel
theorem dX4_setNumber_39 : decode cX4_setNumber 39 = .ok (.return_, 1) := by decide +kernel
set_option maxRecDepth 20000 in
theorem ggX4_readOrders_X4_readOrder : GoodIn wsX4_readOrders wsX4_readOrder := goodIn_ca (goodIn_r _ [8, 9, 10, 11, 7, 12, 1, 3, 13, 14, 15, 16, 17, 2, 18, 19, 20, 21, 22, 23, 24, 25, 26, 27, 28, 29, 30, 31, 32, 33, 34, 35] (by decide +kernel) (by decide +kernel)) (goodIn_sub (fun _ h => List.mem_cons_of_mem _ (List.mem_append_right _ h)) (by decide +kernel))
set_option maxRecDepth 20000 in
theorem gX4_readOrders_X4_readOrder : GoodIn wsX4_readOrders (wsV RX4 29 RX4 yX4_readOrder wsX4_readOrder) := goodIn_app (goodIn_of _ (by decide +kernel)) ggX4_readOrders_X4_readOrder
set_option maxRecDepth 20000 in
theorem ggX4_readOrders_X4_readSign : GoodIn wsX4_readOrders wsX4_readSign := goodIn_ca (goodIn_r _ [22, 1, 9, 10, 11, 7, 12, 3, 13, 31, 32, 33, 34, 35] (by decide +kernel) (by decide +kernel)) (goodIn_sub (fun _ h => List.mem_cons_of_mem _ (List.mem_append_right _ h)) (by decide +kernel))
set_option maxRecDepth 20000 in
theorem gX4_readOrders_X4_readSign : GoodIn wsX4_readOrders (wsV RX4 33 RX4 yX4_readSign wsX4_readSign) := goodIn_app (goodIn_of _ (by decide +kernel)) ggX4_readOrders_X4_readSign
theorem dX4_readOrders_0 : decode cX4_readOrders 0 = .ok (.aload_n 0, 1) := by decide +kernel
theorem dX4_readOrders_1 : decode cX4_readOrders 1 = .ok (.iconst 0, 1) := by decide +kernel
theorem dX4_readOrders_2 : decode cX4_readOrders 2 = .ok (.putfield 23, 3) := by decide +kernel
theorem dX4_readOrders_5 : decode cX4_readOrders 5 = .ok (.aload_n 0, 1) := by decide +kernel
theorem dX4_readOrders_6 : decode cX4_readOrders 6 = .ok (.iconst 0, 1) := by decide +kernel
theorem dX4_readOrders_7 : decode cX4_readOrders 7 = .ok (.putfield 26, 3) := by decide +kernel
theorem dX4_readOrders_10 : decode cX4_readOrders 10 = .ok (.iconst 0, 1) := by decide +kernel
theorem dX4_readOrders_11 : decode cX4_readOrders 11 = .ok (.istore_n 1, 1) := by decide +kernel
theorem dX4_readOrders_12 : decode cX4_readOrders 12 = .ok (.iload_n 1, 1) := by decide +kernel
theorem dX4_readOrders_13 : decode cX4_readOrders 13 = .ok (.bipush 30, 2) := by decide +kernel
theorem dX4_readOrders_15 : decode cX4_readOrders 15 = .ok (.if_icmp .ge 58, 3) := by decide +kernel
theorem dX4_readOrders_18 : decode cX4_readOrders 18 = .ok (.aload_n 0, 1) := by decide +kernel
theorem dX4_readOrders_19 : decode cX4_readOrders 19 = .ok (.invokevirtual 29, 3) := by decide +kernel
theorem dX4_readOrders_22 : decode cX4_readOrders 22 = .ok (.ifCond .ne 8, 3) := by decide +kernel
theorem dX4_readOrders_25 : decode cX4_readOrders 25 = .ok (.aload_n 0, 1) := by decide +kernel
theorem dX4_readOrders_26 : decode cX4_readOrders 26 = .ok (.getfield 23, 3) := by decide +kernel
theorem dX4_readOrders_29 : decode cX4_readOrders 29 = .ok (.ireturn, 1) := by decide +kernel
theorem dX4_readOrders_30 : decode cX4_readOrders 30 = .ok (.aload_n 0, 1) := by decide +kernel
theorem dX4_readOrders_31 : decode cX4_readOrders 31 = .ok (.dup, 1) := by decide +kernel
theorem dX4_readOrders_32 : decode cX4_readOrders 32 = .ok (.getfield 26, 3) := by decide +kernel
theorem dX4_readOrders_35 : decode cX4_readOrders 35 = .ok (.iconst 1, 1) := by decide +kernel
theorem dX4_readOrders_36 : decode cX4_readOrders 36 = .ok (.iadd, 1) := by decide +kernel
theorem dX4_readOrders_37 : decode cX4_readOrders 37 = .ok (.putfield 26, 3) := by decide +kernel
theorem dX4_readOrders_40 : decode cX4_readOrders 40 = .ok (.aload_n 0, 1) := by decide +kernel
theorem dX4_readOrders_41 : decode cX4_readOrders 41 = .ok (.getfield 23, 3) := by decide +kernel
theorem dX4_readOrders_44 : decode cX4_readOrders 44 = .ok (.aload_n 0, 1) := by decide +kernel
theorem dX4_readOrders_45 : decode cX4_readOrders 45 = .ok (.getfield 19, 3) := by decide +kernel
theorem dX4_readOrders_48 : decode cX4_readOrders 48 = .ok (.if_icmp .lt 5, 3) := by decide +kernel
theorem dX4_readOrders_51 : decode cX4_readOrders 51 = .ok (.iconst (-1), 1) := by decide +kernel
theorem dX4_readOrders_52 : decode cX4_readOrders 52 = .ok (.ireturn, 1) := by decide +kernel
theorem dX4_readOrders_53 : decode cX4_readOrders 53 = .ok (.aload_n 0, 1) := by decide +kernel
theorem dX4_readOrders_54 : decode cX4_readOrders 54 = .ok (.bipush 59, 2) := by decide +kernel
theorem dX4_readOrders_56 : decode cX4_readOrders 56 = .ok (.invokevirtual 33, 3) := by decide +kernel
theorem dX4_readOrders_59 : decode cX4_readOrders 59 = .ok (.ifCond .ne 8, 3) := by decide +kernel
theorem dX4_readOrders_62 : decode cX4_readOrders 62 = .ok (.aload_n 0, 1) := by decide +kernel
theorem dX4_readOrders_63 : decode cX4_readOrders 63 = .ok (.getfield 23, 3) := by decide +kernel
theorem dX4_readOrders_66 : decode cX4_readOrders 66 = .ok (.ireturn, 1) := by decide +kernel
theorem dX4_readOrders_67 : decode cX4_readOrders 67 = .ok (.iinc 1 1, 3) := by decide +kernel
theorem dX4_readOrders_70 : decode cX4_readOrders 70 = .ok (.goto (-58), 3) := by decide +kernel
theorem dX4_readOrders_73 : decode cX4_readOrders 73 = .ok (.aload_n 0, 1) := by decide +kernel
theorem dX4_readOrders_74 : decode cX4_readOrders 74 = .ok (.getfield 23, 3) := by decide +kernel
theorem dX4_readOrders_77 : decode cX4_readOrders 77 = .ok (.ireturn, 1) := by decide +kernel
set_option maxRecDepth 20000 in
theorem ggX4_readOrder_X4_sign : GoodIn wsX4_readOrder wsX4_sign := goodIn_ca (goodIn_r _ [5, 6, 7, 8, 27, 28, 29, 30, 31] (by decide +kernel) (by decide +kernel)) (goodIn_sub (fun _ h => List.mem_cons_of_mem _ (List.mem_append_right _ h)) (by decide +kernel))
set_option maxRecDepth 20000 in
theorem gX4_readOrder_X4_sign : GoodIn wsX4_readOrder (wsV RX4 37 RX4 yX4_sign wsX4_sign) := goodIn_app (goodIn_of _ (by decide +kernel)) ggX4_readOrder_X4_sign
set_option maxRecDepth 20000 in
theorem ggX4_readOrder_X4_setNumber : GoodIn wsX4_readOrder wsX4_setNumber := goodIn_ca (goodIn_r _ [12, 13, 14, 27, 28, 29, 30, 31] (by decide +kernel) (by decide +kernel)) (goodIn_sub (fun _ h => List.mem_cons_of_mem _ (List.mem_append_right _ h)) (by decide +kernel))
set_option maxRecDepth 20000 in
theorem gX4_readOrder_X4_setNumber : GoodIn wsX4_readOrder (wsV RX4 41 RX4 yX4_setNumber wsX4_setNumber) := goodIn_app (goodIn_of _ (by decide +kernel)) ggX4_readOrder_X4_setNumber
set_option maxRecDepth 20000 in
theorem ggX4_readOrder_X4_readSign : GoodIn wsX4_readOrder wsX4_readSign := goodIn_ca (goodIn_r _ [18, 6, 1, 2, 3, 4, 5, 7, 8, 27, 28, 29, 30, 31] (by decide +kernel) (by decide +kernel)) (goodIn_sub (fun _ h => List.mem_cons_of_mem _ (List.mem_append_right _ h)) (by decide +kernel))
set_option maxRecDepth 20000 in
theorem gX4_readOrder_X4_readSign : GoodIn wsX4_readOrder (wsV RX4 33 RX4 yX4_readSign wsX4_readSign) := goodIn_app (goodIn_of _ (by decide +kernel)) ggX4_readOrder_X4_readSign
set_option maxRecDepth 20000 in
theorem ggX4_readOrder_X4_readNumber : GoodIn wsX4_readOrder wsX4_readNumber := goodIn_ca (goodIn_r _ [22, 6, 1, 2, 3, 4, 5, 7, 8, 9, 10, 11, 12, 13, 14, 27, 28, 29, 30, 31] (by decide +kernel) (by decide +kernel)) (goodIn_sub (fun _ h => List.mem_cons_of_mem _ (List.mem_append_right _ h)) (by decide +kernel))
set_option maxRecDepth 20000 in
theorem gX4_readOrder_X4_readNumber : GoodIn wsX4_readOrder (wsV RX4 45 RX4 yX4_readNumber wsX4_readNumber) := goodIn_app (goodIn_of _ (by decide +kernel)) ggX4_readOrder_X4_readNumber
set_option maxRecDepth 20000 in
theorem ggX4_readOrder_X4_readBar : GoodIn wsX4_readOrder wsX4_readBar := goodIn_ca (goodIn_r _ [26, 15, 16, 17, 4, 18, 6, 1, 2, 3, 5, 7, 8, 9, 10, 11, 12, 13, 14, 27, 28, 29, 30, 31] (by decide +kernel) (by decide +kernel)) (goodIn_sub (fun _ h => List.mem_cons_of_mem _ (List.mem_append_right _ h)) (by decide +kernel))
set_option maxRecDepth 20000 in
theorem gX4_readOrder_X4_readBar : GoodIn wsX4_readOrder (wsV RX4 49 RX4 yX4_readBar wsX4_readBar) := goodIn_app (goodIn_of _ (by decide +kernel)) ggX4_readOrder_X4_readBar
theorem dX4_readOrder_0 : decode cX4_readOrder 0 = .ok (.aload_n 0, 1) := by decide +kernel
theorem dX4_readOrder_1 : decode cX4_readOrder 1 = .ok (.invokevirtual 37, 3) := by decide +kernel
theorem dX4_readOrder_4 : decode cX4_readOrder 4 = .ok (.istore_n 1, 1) := by decide +kernel
theorem dX4_readOrder_5 : decode cX4_readOrder 5 = .ok (.aload_n 0, 1) := by decide +kernel
theorem dX4_readOrder_6 : decode cX4_readOrder 6 = .ok (.iconst 0, 1) := by decide +kernel
theorem dX4_readOrder_7 : decode cX4_readOrder 7 = .ok (.iload_n 1, 1) := by decide +kernel
theorem dX4_readOrder_8 : decode cX4_readOrder 8 = .ok (.invokevirtual 41, 3) := by decide +kernel
theorem dX4_readOrder_11 : decode cX4_readOrder 11 = .ok (.iload_n 1, 1) := by decide +kernel
theorem dX4_readOrder_12 : decode cX4_readOrder 12 = .ok (.tableswitch 359 98 117 #[310, 286, 359, 359, 359, 154, 359, 359, 359, 196, 359, 359, 352, 359, 220, 359, 359, 96, 359, 262], 96) := by decide +kernel
theorem dX4_readOrder_108 : decode cX4_readOrder 108 = .ok (.aload_n 0, 1) := by decide +kernel
theorem dX4_readOrder_109 : decode cX4_readOrder 109 = .ok (.bipush 115, 2) := by decide +kernel
theorem dX4_readOrder_111 : decode cX4_readOrder 111 = .ok (.invokevirtual 33, 3) := by decide +kernel
theorem dX4_readOrder_114 : decode cX4_readOrder 114 = .ok (.ifCond .eq 50, 3) := by decide +kernel
theorem dX4_readOrder_117 : decode cX4_readOrder 117 = .ok (.aload_n 0, 1) := by decide +kernel
theorem dX4_readOrder_118 : decode cX4_readOrder 118 = .ok (.iconst 1, 1) := by decide +kernel
theorem dX4_readOrder_119 : decode cX4_readOrder 119 = .ok (.iconst 2, 1) := by decide +kernel
theorem dX4_readOrder_120 : decode cX4_readOrder 120 = .ok (.invokevirtual 45, 3) := by decide +kernel
theorem dX4_readOrder_123 : decode cX4_readOrder 123 = .ok (.ifCond .eq 41, 3) := by decide +kernel
theorem dX4_readOrder_126 : decode cX4_readOrder 126 = .ok (.aload_n 0, 1) := by decide +kernel
theorem dX4_readOrder_127 : decode cX4_readOrder 127 = .ok (.bipush 47, 2) := by decide +kernel
theorem dX4_readOrder_129 : decode cX4_readOrder 129 = .ok (.invokevirtual 33, 3) := by decide +kernel
theorem dX4_readOrder_132 : decode cX4_readOrder 132 = .ok (.ifCond .eq 32, 3) := by decide +kernel
theorem dX4_readOrder_135 : decode cX4_readOrder 135 = .ok (.aload_n 0, 1) := by decide +kernel
theorem dX4_readOrder_136 : decode cX4_readOrder 136 = .ok (.iconst 2, 1) := by decide +kernel
theorem dX4_readOrder_137 : decode cX4_readOrder 137 = .ok (.iconst 1, 1) := by decide +kernel
theorem dX4_readOrder_138 : decode cX4_readOrder 138 = .ok (.invokevirtual 45, 3) := by decide +kernel
theorem dX4_readOrder_141 : decode cX4_readOrder 141 = .ok (.ifCond .eq 23, 3) := by decide +kernel
theorem dX4_readOrder_144 : decode cX4_readOrder 144 = .ok (.aload_n 0, 1) := by decide +kernel
theorem dX4_readOrder_145 : decode cX4_readOrder 145 = .ok (.iconst 3, 1) := by decide +kernel
theorem dX4_readOrder_146 : decode cX4_readOrder 146 = .ok (.iconst 1, 1) := by decide +kernel
theorem dX4_readOrder_147 : decode cX4_readOrder 147 = .ok (.invokevirtual 45, 3) := by decide +kernel
theorem dX4_readOrder_150 : decode cX4_readOrder 150 = .ok (.ifCond .eq 14, 3) := by decide +kernel
theorem dX4_readOrder_153 : decode cX4_readOrder 153 = .ok (.aload_n 0, 1) := by decide +kernel
theorem dX4_readOrder_154 : decode cX4_readOrder 154 = .ok (.invokevirtual 49, 3) := by decide +kernel
theorem dX4_readOrder_157 : decode cX4_readOrder 157 = .ok (.ifCond .eq 7, 3) := by decide +kernel
theorem dX4_readOrder_160 : decode cX4_readOrder 160 = .ok (.iconst 1, 1) := by decide +kernel
theorem dX4_readOrder_161 : decode cX4_readOrder 161 = .ok (.goto 4, 3) := by decide +kernel
theorem dX4_readOrder_164 : decode cX4_readOrder 164 = .ok (.iconst 0, 1) := by decide +kernel
theorem dX4_readOrder_165 : decode cX4_readOrder 165 = .ok (.ireturn, 1) := by decide +kernel
theorem dX4_readOrder_166 : decode cX4_readOrder 166 = .ok (.aload_n 0, 1) := by decide +kernel
theorem dX4_readOrder_167 : decode cX4_readOrder 167 = .ok (.bipush 103, 2) := by decide +kernel
theorem dX4_readOrder_169 : decode cX4_readOrder 169 = .ok (.invokevirtual 33, 3) := by decide +kernel
theorem dX4_readOrder_172 : decode cX4_readOrder 172 = .ok (.ifCond .eq 34, 3) := by decide +kernel
theorem dX4_readOrder_175 : decode cX4_readOrder 175 = .ok (.aload_n 0, 1) := by decide +kernel
theorem dX4_readOrder_176 : decode cX4_readOrder 176 = .ok (.iconst 1, 1) := by decide +kernel
theorem dX4_readOrder_177 : decode cX4_readOrder 177 = .ok (.iconst 1, 1) := by decide +kernel
theorem dX4_readOrder_178 : decode cX4_readOrder 178 = .ok (.invokevirtual 45, 3) := by decide +kernel
theorem dX4_readOrder_181 : decode cX4_readOrder 181 = .ok (.ifCond .eq 25, 3) := by decide +kernel
theorem dX4_readOrder_184 : decode cX4_readOrder 184 = .ok (.aload_n 0, 1) := by decide +kernel
theorem dX4_readOrder_185 : decode cX4_readOrder 185 = .ok (.bipush 42, 2) := by decide +kernel
theorem dX4_readOrder_187 : decode cX4_readOrder 187 = .ok (.invokevirtual 33, 3) := by decide +kernel
theorem dX4_readOrder_190 : decode cX4_readOrder 190 = .ok (.ifCond .eq 16, 3) := by decide +kernel
theorem dX4_readOrder_193 : decode cX4_readOrder 193 = .ok (.aload_n 0, 1) := by decide +kernel
theorem dX4_readOrder_194 : decode cX4_readOrder 194 = .ok (.iconst 2, 1) := by decide +kernel
theorem dX4_readOrder_195 : decode cX4_readOrder 195 = .ok (.iconst 3, 1) := by decide +kernel
theorem dX4_readOrder_196 : decode cX4_readOrder 196 = .ok (.invokevirtual 45, 3) := by decide +kernel
theorem dX4_readOrder_199 : decode cX4_readOrder 199 = .ok (.ifCond .eq 7, 3) := by decide +kernel
theorem dX4_readOrder_202 : decode cX4_readOrder 202 = .ok (.iconst 1, 1) := by decide +kernel
theorem dX4_readOrder_203 : decode cX4_readOrder 203 = .ok (.goto 4, 3) := by decide +kernel
theorem dX4_readOrder_206 : decode cX4_readOrder 206 = .ok (.iconst 0, 1) := by decide +kernel
theorem dX4_readOrder_207 : decode cX4_readOrder 207 = .ok (.ireturn, 1) := by decide +kernel
theorem dX4_readOrder_208 : decode cX4_readOrder 208 = .ok (.aload_n 0, 1) := by decide +kernel
theorem dX4_readOrder_209 : decode cX4_readOrder 209 = .ok (.bipush 107, 2) := by decide +kernel
theorem dX4_readOrder_211 : decode cX4_readOrder 211 = .ok (.invokevirtual 33, 3) := by decide +kernel
theorem dX4_readOrder_214 : decode cX4_readOrder 214 = .ok (.ifCond .eq 16, 3) := by decide +kernel
theorem dX4_readOrder_217 : decode cX4_readOrder 217 = .ok (.aload_n 0, 1) := by decide +kernel
theorem dX4_readOrder_218 : decode cX4_readOrder 218 = .ok (.iconst 1, 1) := by decide +kernel
theorem dX4_readOrder_219 : decode cX4_readOrder 219 = .ok (.iconst 3, 1) := by decide +kernel
theorem dX4_readOrder_220 : decode cX4_readOrder 220 = .ok (.invokevirtual 45, 3) := by decide +kernel
theorem dX4_readOrder_223 : decode cX4_readOrder 223 = .ok (.ifCond .eq 7, 3) := by decide +kernel
theorem dX4_readOrder_226 : decode cX4_readOrder 226 = .ok (.iconst 1, 1) := by decide +kernel
theorem dX4_readOrder_227 : decode cX4_readOrder 227 = .ok (.goto 4, 3) := by decide +kernel
theorem dX4_readOrder_230 : decode cX4_readOrder 230 = .ok (.iconst 0, 1) := by decide +kernel
theorem dX4_readOrder_231 : decode cX4_readOrder 231 = .ok (.ireturn, 1) := by decide +kernel
theorem dX4_readOrder_232 : decode cX4_readOrder 232 = .ok (.aload_n 0, 1) := by decide +kernel
theorem dX4_readOrder_233 : decode cX4_readOrder 233 = .ok (.bipush 112, 2) := by decide +kernel
theorem dX4_readOrder_235 : decode cX4_readOrder 235 = .ok (.invokevirtual 33, 3) := by decide +kernel
theorem dX4_readOrder_238 : decode cX4_readOrder 238 = .ok (.ifCond .eq 34, 3) := by decide +kernel
theorem dX4_readOrder_241 : decode cX4_readOrder 241 = .ok (.aload_n 0, 1) := by decide +kernel
theorem dX4_readOrder_242 : decode cX4_readOrder 242 = .ok (.iconst 1, 1) := by decide +kernel
theorem dX4_readOrder_243 : decode cX4_readOrder 243 = .ok (.iconst 2, 1) := by decide +kernel
theorem dX4_readOrder_244 : decode cX4_readOrder 244 = .ok (.invokevirtual 45, 3) := by decide +kernel
theorem dX4_readOrder_247 : decode cX4_readOrder 247 = .ok (.ifCond .eq 25, 3) := by decide +kernel
theorem dX4_readOrder_250 : decode cX4_readOrder 250 = .ok (.aload_n 0, 1) := by decide +kernel
theorem dX4_readOrder_251 : decode cX4_readOrder 251 = .ok (.bipush 62, 2) := by decide +kernel
theorem dX4_readOrder_253 : decode cX4_readOrder 253 = .ok (.invokevirtual 33, 3) := by decide +kernel
theorem dX4_readOrder_256 : decode cX4_readOrder 256 = .ok (.ifCond .eq 16, 3) := by decide +kernel
theorem dX4_readOrder_259 : decode cX4_readOrder 259 = .ok (.aload_n 0, 1) := by decide +kernel
theorem dX4_readOrder_260 : decode cX4_readOrder 260 = .ok (.iconst 2, 1) := by decide +kernel
theorem dX4_readOrder_261 : decode cX4_readOrder 261 = .ok (.iconst 2, 1) := by decide +kernel
theorem dX4_readOrder_262 : decode cX4_readOrder 262 = .ok (.invokevirtual 45, 3) := by decide +kernel
theorem dX4_readOrder_265 : decode cX4_readOrder 265 = .ok (.ifCond .eq 7, 3) := by decide +kernel
theorem dX4_readOrder_268 : decode cX4_readOrder 268 = .ok (.iconst 1, 1) := by decide +kernel
theorem dX4_readOrder_269 : decode cX4_readOrder 269 = .ok (.goto 4, 3) := by decide +kernel
theorem dX4_readOrder_272 : decode cX4_readOrder 272 = .ok (.iconst 0, 1) := by decide +kernel
theorem dX4_readOrder_273 : decode cX4_readOrder 273 = .ok (.ireturn, 1) := by decide +kernel
theorem dX4_readOrder_274 : decode cX4_readOrder 274 = .ok (.aload_n 0, 1) := by decide +kernel
theorem dX4_readOrder_275 : decode cX4_readOrder 275 = .ok (.bipush 117, 2) := by decide +kernel
theorem dX4_readOrder_277 : decode cX4_readOrder 277 = .ok (.invokevirtual 33, 3) := by decide +kernel
theorem dX4_readOrder_280 : decode cX4_readOrder 280 = .ok (.ifCond .eq 16, 3) := by decide +kernel
theorem dX4_readOrder_283 : decode cX4_readOrder 283 = .ok (.aload_n 0, 1) := by decide +kernel
theorem dX4_readOrder_284 : decode cX4_readOrder 284 = .ok (.iconst 1, 1) := by decide +kernel
theorem dX4_readOrder_285 : decode cX4_readOrder 285 = .ok (.iconst 2, 1) := by decide +kernel
theorem dX4_readOrder_286 : decode cX4_readOrder 286 = .ok (.invokevirtual 45, 3) := by decide +kernel
theorem dX4_readOrder_289 : decode cX4_readOrder 289 = .ok (.ifCond .eq 7, 3) := by decide +kernel
theorem dX4_readOrder_292 : decode cX4_readOrder 292 = .ok (.iconst 1, 1) := by decide +kernel
theorem dX4_readOrder_293 : decode cX4_readOrder 293 = .ok (.goto 4, 3) := by decide +kernel
theorem dX4_readOrder_296 : decode cX4_readOrder 296 = .ok (.iconst 0, 1) := by decide +kernel
theorem dX4_readOrder_297 : decode cX4_readOrder 297 = .ok (.ireturn, 1) := by decide +kernel
theorem dX4_readOrder_298 : decode cX4_readOrder 298 = .ok (.aload_n 0, 1) := by decide +kernel
theorem dX4_readOrder_299 : decode cX4_readOrder 299 = .ok (.bipush 99, 2) := by decide +kernel
theorem dX4_readOrder_301 : decode cX4_readOrder 301 = .ok (.invokevirtual 33, 3) := by decide +kernel
theorem dX4_readOrder_304 : decode cX4_readOrder 304 = .ok (.ifCond .eq 16, 3) := by decide +kernel
theorem dX4_readOrder_307 : decode cX4_readOrder 307 = .ok (.aload_n 0, 1) := by decide +kernel
theorem dX4_readOrder_308 : decode cX4_readOrder 308 = .ok (.iconst 1, 1) := by decide +kernel
theorem dX4_readOrder_309 : decode cX4_readOrder 309 = .ok (.iconst 2, 1) := by decide +kernel
theorem dX4_readOrder_310 : decode cX4_readOrder 310 = .ok (.invokevirtual 45, 3) := by decide +kernel
theorem dX4_readOrder_313 : decode cX4_readOrder 313 = .ok (.ifCond .eq 7, 3) := by decide +kernel
theorem dX4_readOrder_316 : decode cX4_readOrder 316 = .ok (.iconst 1, 1) := by decide +kernel
theorem dX4_readOrder_317 : decode cX4_readOrder 317 = .ok (.goto 4, 3) := by decide +kernel
theorem dX4_readOrder_320 : decode cX4_readOrder 320 = .ok (.iconst 0, 1) := by decide +kernel
theorem dX4_readOrder_321 : decode cX4_readOrder 321 = .ok (.ireturn, 1) := by decide +kernel
theorem dX4_readOrder_322 : decode cX4_readOrder 322 = .ok (.aload_n 0, 1) := by decide +kernel
theorem dX4_readOrder_323 : decode cX4_readOrder 323 = .ok (.bipush 98, 2) := by decide +kernel
theorem dX4_readOrder_325 : decode cX4_readOrder 325 = .ok (.invokevirtual 33, 3) := by decide +kernel
theorem dX4_readOrder_328 : decode cX4_readOrder 328 = .ok (.ifCond .eq 34, 3) := by decide +kernel
theorem dX4_readOrder_331 : decode cX4_readOrder 331 = .ok (.aload_n 0, 1) := by decide +kernel
theorem dX4_readOrder_332 : decode cX4_readOrder 332 = .ok (.iconst 1, 1) := by decide +kernel
theorem dX4_readOrder_333 : decode cX4_readOrder 333 = .ok (.iconst 2, 1) := by decide +kernel
theorem dX4_readOrder_334 : decode cX4_readOrder 334 = .ok (.invokevirtual 45, 3) := by decide +kernel
theorem dX4_readOrder_337 : decode cX4_readOrder 337 = .ok (.ifCond .eq 25, 3) := by decide +kernel
theorem dX4_readOrder_340 : decode cX4_readOrder 340 = .ok (.aload_n 0, 1) := by decide +kernel
theorem dX4_readOrder_341 : decode cX4_readOrder 341 = .ok (.bipush 45, 2) := by decide +kernel
theorem dX4_readOrder_343 : decode cX4_readOrder 343 = .ok (.invokevirtual 33, 3) := by decide +kernel
theorem dX4_readOrder_346 : decode cX4_readOrder 346 = .ok (.ifCond .eq 16, 3) := by decide +kernel
theorem dX4_readOrder_349 : decode cX4_readOrder 349 = .ok (.aload_n 0, 1) := by decide +kernel
theorem dX4_readOrder_350 : decode cX4_readOrder 350 = .ok (.iconst 2, 1) := by decide +kernel
theorem dX4_readOrder_351 : decode cX4_readOrder 351 = .ok (.iconst 2, 1) := by decide +kernel
theorem dX4_readOrder_352 : decode cX4_readOrder 352 = .ok (.invokevirtual 45, 3) := by decide +kernel
theorem dX4_readOrder_355 : decode cX4_readOrder 355 = .ok (.ifCond .eq 7, 3) := by decide +kernel
theorem dX4_readOrder_358 : decode cX4_readOrder 358 = .ok (.iconst 1, 1) := by decide +kernel
theorem dX4_readOrder_359 : decode cX4_readOrder 359 = .ok (.goto 4, 3) := by decide +kernel
theorem dX4_readOrder_362 : decode cX4_readOrder 362 = .ok (.iconst 0, 1) := by decide +kernel
theorem dX4_readOrder_363 : decode cX4_readOrder 363 = .ok (.ireturn, 1) := by decide +kernel
theorem dX4_readOrder_364 : decode cX4_readOrder 364 = .ok (.aload_n 0, 1) := by decide +kernel
theorem dX4_readOrder_365 : decode cX4_readOrder 365 = .ok (.bipush 110, 2) := by decide +kernel
theorem dX4_readOrder_367 : decode cX4_readOrder 367 = .ok (.invokevirtual 33, 3) := by decide +kernel
theorem dX4_readOrder_370 : decode cX4_readOrder 370 = .ok (.ireturn, 1) := by decide +kernel
theorem dX4_readOrder_371 : decode cX4_readOrder 371 = .ok (.iconst 0, 1) := by decide +kernel
theorem dX4_readOrder_372 : decode cX4_readOrder 372 = .ok (.ireturn, 1) := by decide +kernel
theorem dX4_sign_0 : decode cX4_sign 0 = .ok (.aload_n 0, 1) := by decide +kernel
theorem dX4_sign_1 : decode cX4_sign 1 = .ok (.getfield 23, 3) := by decide +kernel
theorem dX4_sign_4 : decode cX4_sign 4 = .ok (.ifCond .lt 35, 3) := by decide +kernel
theorem dX4_sign_7 : decode cX4_sign 7 = .ok (.aload_n 0, 1) := by decide +kernel
theorem dX4_sign_8 : decode cX4_sign 8 = .ok (.getfield 23, 3) := by decide +kernel
theorem dX4_sign_11 : decode cX4_sign 11 = .ok (.aload_n 0, 1) := by decide +kernel
theorem dX4_sign_12 : decode cX4_sign 12 = .ok (.getfield 19, 3) := by decide +kernel
theorem dX4_sign_15 : decode cX4_sign 15 = .ok (.if_icmp .ge 24, 3) := by decide +kernel
theorem dX4_sign_18 : decode cX4_sign 18 = .ok (.aload_n 0, 1) := by decide +kernel
theorem dX4_sign_19 : decode cX4_sign 19 = .ok (.getfield 23, 3) := by decide +kernel
theorem dX4_sign_22 : decode cX4_sign 22 = .ok (.bipush 60, 2) := by decide +kernel
theorem dX4_sign_24 : decode cX4_sign 24 = .ok (.if_icmp .ge 15, 3) := by decide +kernel
theorem dX4_sign_27 : decode cX4_sign 27 = .ok (.aload_n 0, 1) := by decide +kernel
theorem dX4_sign_28 : decode cX4_sign 28 = .ok (.getfield 11, 3) := by decide +kernel
theorem dX4_sign_31 : decode cX4_sign 31 = .ok (.aload_n 0, 1) := by decide +kernel
theorem dX4_sign_32 : decode cX4_sign 32 = .ok (.getfield 23, 3) := by decide +kernel
theorem dX4_sign_35 : decode cX4_sign 35 = .ok (.caload, 1) := by decide +kernel
theorem dX4_sign_36 : decode cX4_sign 36 = .ok (.goto 4, 3) := by decide +kernel
theorem dX4_sign_39 : decode cX4_sign 39 = .ok (.iconst (-1), 1) := by decide +kernel
theorem dX4_sign_40 : decode cX4_sign 40 = .ok (.ireturn, 1) := by decide +kernel
set_option maxRecDepth 20000 in
theorem ggX4_readSign_X4_sign : GoodIn wsX4_readSign wsX4_sign := goodIn_ca (goodIn_r _ [6, 1, 7, 8, 9, 10, 11, 12, 13] (by decide +kernel) (by decide +kernel)) (goodIn_sub (fun _ h => List.mem_cons_of_mem _ (List.mem_append_right _ h)) (by decide +kernel))
set_option maxRecDepth 20000 in
theorem gX4_readSign_X4_sign : GoodIn wsX4_readSign (wsV RX4 37 RX4 yX4_sign wsX4_sign) := goodIn_app (goodIn_of _ (by decide +kernel)) ggX4_readSign_X4_sign
theorem dX4_readSign_0 : decode cX4_readSign 0 = .ok (.aload_n 0, 1) := by decide +kernel
theorem dX4_readSign_1 : decode cX4_readSign 1 = .ok (.invokevirtual 37, 3) := by decide +kernel
theorem dX4_readSign_4 : decode cX4_readSign 4 = .ok (.iload_n 1, 1) := by decide +kernel
theorem dX4_readSign_5 : decode cX4_readSign 5 = .ok (.if_icmp .eq 5, 3) := by decide +kernel
theorem dX4_readSign_8 : decode cX4_readSign 8 = .ok (.iconst 0, 1) := by decide +kernel
theorem dX4_readSign_9 : decode cX4_readSign 9 = .ok (.ireturn, 1) := by decide +kernel
theorem dX4_readSign_10 : decode cX4_readSign 10 = .ok (.aload_n 0, 1) := by decide +kernel
theorem dX4_readSign_11 : decode cX4_readSign 11 = .ok (.dup, 1) := by decide +kernel
theorem dX4_readSign_12 : decode cX4_readSign 12 = .ok (.getfield 23, 3) := by decide +kernel
theorem dX4_readSign_15 : decode cX4_readSign 15 = .ok (.iconst 1, 1) := by decide +kernel
theorem dX4_readSign_16 : decode cX4_readSign 16 = .ok (.iadd, 1) := by decide +kernel
theorem dX4_readSign_17 : decode cX4_readSign 17 = .ok (.putfield 23, 3) := by decide +kernel
theorem dX4_readSign_20 : decode cX4_readSign 20 = .ok (.iconst 1, 1) := by decide +kernel
theorem dX4_readSign_21 : decode cX4_readSign 21 = .ok (.ireturn, 1) := by decide +kernel
set_option maxRecDepth 20000 in
theorem ggX4_readNumber_X4_sign : GoodIn wsX4_readNumber wsX4_sign := goodIn_ca (goodIn_r _ [6, 1, 7, 8, 15, 16, 17, 18, 19] (by decide +kernel) (by decide +kernel)) (goodIn_sub (fun _ h => List.mem_cons_of_mem _ (List.mem_append_right _ h)) (by decide +kernel))
set_option maxRecDepth 20000 in
theorem gX4_readNumber_X4_sign : GoodIn wsX4_readNumber (wsV RX4 37 RX4 yX4_sign wsX4_sign) := goodIn_app (goodIn_of _ (by decide +kernel)) ggX4_readNumber_X4_sign
set_option maxRecDepth 20000 in
theorem ggX4_readNumber_X4_setNumber : GoodIn wsX4_readNumber wsX4_setNumber := goodIn_ca (goodIn_r _ [12, 13, 14, 15, 16, 17, 18, 19] (by decide +kernel) (by decide +kernel)) (goodIn_sub (fun _ h => List.mem_cons_of_mem _ (List.mem_append_right _ h)) (by decide +kernel))
set_option maxRecDepth 20000 in
theorem gX4_readNumber_X4_setNumber : GoodIn wsX4_readNumber (wsV RX4 41 RX4 yX4_setNumber wsX4_setNumber) := goodIn_app (goodIn_of _ (by decide +kernel)) ggX4_readNumber_X4_setNumber
theorem dX4_readNumber_0 : decode cX4_readNumber 0 = .ok (.iconst 0, 1) := by decide +kernel
theorem dX4_readNumber_1 : decode cX4_readNumber 1 = .ok (.istore_n 3, 1) := by decide +kernel
theorem dX4_readNumber_2 : decode cX4_readNumber 2 = .ok (.iconst 0, 1) := by decide +kernel
theorem dX4_readNumber_3 : decode cX4_readNumber 3 = .ok (.istore 4, 2) := by decide +kernel
theorem dX4_readNumber_5 : decode cX4_readNumber 5 = .ok (.aload_n 0, 1) := by decide +kernel
theorem dX4_readNumber_6 : decode cX4_readNumber 6 = .ok (.invokevirtual 37, 3) := by decide +kernel
theorem dX4_readNumber_9 : decode cX4_readNumber 9 = .ok (.istore 5, 2) := by decide +kernel
theorem dX4_readNumber_11 : decode cX4_readNumber 11 = .ok (.iload 4, 2) := by decide +kernel
theorem dX4_readNumber_13 : decode cX4_readNumber 13 = .ok (.iload_n 2, 1) := by decide +kernel
theorem dX4_readNumber_14 : decode cX4_readNumber 14 = .ok (.if_icmp .ge 50, 3) := by decide +kernel
theorem dX4_readNumber_17 : decode cX4_readNumber 17 = .ok (.iload 5, 2) := by decide +kernel
theorem dX4_readNumber_19 : decode cX4_readNumber 19 = .ok (.bipush 48, 2) := by decide +kernel
theorem dX4_readNumber_21 : decode cX4_readNumber 21 = .ok (.if_icmp .lt 43, 3) := by decide +kernel
theorem dX4_readNumber_24 : decode cX4_readNumber 24 = .ok (.iload 5, 2) := by decide +kernel
theorem dX4_readNumber_26 : decode cX4_readNumber 26 = .ok (.bipush 57, 2) := by decide +kernel
theorem dX4_readNumber_28 : decode cX4_readNumber 28 = .ok (.if_icmp .gt 36, 3) := by decide +kernel
theorem dX4_readNumber_31 : decode cX4_readNumber 31 = .ok (.iload_n 3, 1) := by decide +kernel
theorem dX4_readNumber_32 : decode cX4_readNumber 32 = .ok (.bipush 10, 2) := by decide +kernel
theorem dX4_readNumber_34 : decode cX4_readNumber 34 = .ok (.imul, 1) := by decide +kernel
theorem dX4_readNumber_35 : decode cX4_readNumber 35 = .ok (.iload 5, 2) := by decide +kernel
theorem dX4_readNumber_37 : decode cX4_readNumber 37 = .ok (.iadd, 1) := by decide +kernel
theorem dX4_readNumber_38 : decode cX4_readNumber 38 = .ok (.bipush 48, 2) := by decide +kernel
theorem dX4_readNumber_40 : decode cX4_readNumber 40 = .ok (.isub, 1) := by decide +kernel
theorem dX4_readNumber_41 : decode cX4_readNumber 41 = .ok (.istore_n 3, 1) := by decide +kernel
theorem dX4_readNumber_42 : decode cX4_readNumber 42 = .ok (.iinc 4 1, 3) := by decide +kernel
theorem dX4_readNumber_45 : decode cX4_readNumber 45 = .ok (.aload_n 0, 1) := by decide +kernel
theorem dX4_readNumber_46 : decode cX4_readNumber 46 = .ok (.dup, 1) := by decide +kernel
theorem dX4_readNumber_47 : decode cX4_readNumber 47 = .ok (.getfield 23, 3) := by decide +kernel
theorem dX4_readNumber_50 : decode cX4_readNumber 50 = .ok (.iconst 1, 1) := by decide +kernel
theorem dX4_readNumber_51 : decode cX4_readNumber 51 = .ok (.iadd, 1) := by decide +kernel
theorem dX4_readNumber_52 : decode cX4_readNumber 52 = .ok (.putfield 23, 3) := by decide +kernel
theorem dX4_readNumber_55 : decode cX4_readNumber 55 = .ok (.aload_n 0, 1) := by decide +kernel
theorem dX4_readNumber_56 : decode cX4_readNumber 56 = .ok (.invokevirtual 37, 3) := by decide +kernel
theorem dX4_readNumber_59 : decode cX4_readNumber 59 = .ok (.istore 5, 2) := by decide +kernel
theorem dX4_readNumber_61 : decode cX4_readNumber 61 = .ok (.goto (-50), 3) := by decide +kernel
theorem dX4_readNumber_64 : decode cX4_readNumber 64 = .ok (.aload_n 0, 1) := by decide +kernel
theorem dX4_readNumber_65 : decode cX4_readNumber 65 = .ok (.iload_n 1, 1) := by decide +kernel
theorem dX4_readNumber_66 : decode cX4_readNumber 66 = .ok (.iload_n 3, 1) := by decide +kernel
theorem dX4_readNumber_67 : decode cX4_readNumber 67 = .ok (.invokevirtual 41, 3) := by decide +kernel
theorem dX4_readNumber_70 : decode cX4_readNumber 70 = .ok (.iload 4, 2) := by decide +kernel
theorem dX4_readNumber_72 : decode cX4_readNumber 72 = .ok (.ifCond .le 7, 3) := by decide +kernel
theorem dX4_readNumber_75 : decode cX4_readNumber 75 = .ok (.iconst 1, 1) := by decide +kernel
theorem dX4_readNumber_76 : decode cX4_readNumber 76 = .ok (.goto 4, 3) := by decide +kernel
theorem dX4_readNumber_79 : decode cX4_readNumber 79 = .ok (.iconst 0, 1) := by decide +kernel
theorem dX4_readNumber_80 : decode cX4_readNumber 80 = .ok (.ireturn, 1) := by decide +kernel
set_option maxRecDepth 20000 in
theorem ggX4_readBar_X4_readSign : GoodIn wsX4_readBar wsX4_readSign := goodIn_ca (goodIn_r _ [5, 6, 7, 8, 9, 4, 10, 11, 12, 19, 20, 21, 22, 23] (by decide +kernel) (by decide +kernel)) (goodIn_sub (fun _ h => List.mem_cons_of_mem _ (List.mem_append_right _ h)) (by decide +kernel))
set_option maxRecDepth 20000 in
theorem gX4_readBar_X4_readSign : GoodIn wsX4_readBar (wsV RX4 33 RX4 yX4_readSign wsX4_readSign) := goodIn_app (goodIn_of _ (by decide +kernel)) ggX4_readBar_X4_readSign
set_option maxRecDepth 20000 in
theorem ggX4_readBar_X4_setNumber : GoodIn wsX4_readBar wsX4_setNumber := goodIn_ca (goodIn_r _ [16, 17, 18, 19, 20, 21, 22, 23] (by decide +kernel) (by decide +kernel)) (goodIn_sub (fun _ h => List.mem_cons_of_mem _ (List.mem_append_right _ h)) (by decide +kernel))
set_option maxRecDepth 20000 in
theorem gX4_readBar_X4_setNumber : GoodIn wsX4_readBar (wsV RX4 41 RX4 yX4_setNumber wsX4_setNumber) := goodIn_app (goodIn_of _ (by decide +kernel)) ggX4_readBar_X4_setNumber
theorem dX4_readBar_0 : decode cX4_readBar 0 = .ok (.aload_n 0, 1) := by decide +kernel
theorem dX4_readBar_1 : decode cX4_readBar 1 = .ok (.iconst 4, 1) := by decide +kernel
theorem dX4_readBar_2 : decode cX4_readBar 2 = .ok (.aload_n 0, 1) := by decide +kernel
theorem dX4_readBar_3 : decode cX4_readBar 3 = .ok (.bipush 124, 2) := by decide +kernel
theorem dX4_readBar_5 : decode cX4_readBar 5 = .ok (.invokevirtual 33, 3) := by decide +kernel
theorem dX4_readBar_8 : decode cX4_readBar 8 = .ok (.ifCond .eq 7, 3) := by decide +kernel
theorem dX4_readBar_11 : decode cX4_readBar 11 = .ok (.iconst 1, 1) := by decide +kernel
theorem dX4_readBar_12 : decode cX4_readBar 12 = .ok (.goto 4, 3) := by decide +kernel
theorem dX4_readBar_15 : decode cX4_readBar 15 = .ok (.iconst 0, 1) := by decide +kernel
theorem dX4_readBar_16 : decode cX4_readBar 16 = .ok (.invokevirtual 41, 3) := by decide +kernel
theorem dX4_readBar_19 : decode cX4_readBar 19 = .ok (.iconst 1, 1) := by decide +kernel
theorem dX4_readBar_20 : decode cX4_readBar 20 = .ok (.ireturn, 1) := by decide +kernel
set_option maxRecDepth 20000 in
theorem ggX5_init_X3_init : GoodIn wsX5_init wsX3_init := goodIn_r _ [27, 28, 2, 3, 29, 30, 31, 32, 33, 34, 35, 36, 37, 60, 61, 62, 63, 64, 65, 66, 67] (by decide +kernel) (by decide +kernel)
set_option maxRecDepth 20000 in
theorem gX5_init_X3_init_n9 : GoodIn wsX5_init (wsX3_init) := ggX5_init_X3_init
set_option maxRecDepth 20000 in
theorem ggX5_init_X1_init : GoodIn wsX5_init wsX1_init := goodIn_r _ [40, 41, 2, 3, 42, 43, 44, 45, 5, 6, 26, 27, 28, 29, 30, 31, 32, 33, 34, 35, 36, 37, 78, 79, 80, 60, 61, 62, 63, 64, 65, 66, 67] (by decide +kernel) (by decide +kernel)
set_option maxRecDepth 20000 in
theorem gX5_init_X1_init : GoodIn wsX5_init (wsX1_init) := ggX5_init_X1_init
set_option maxRecDepth 20000 in
theorem ggX5_init_X4_init : GoodIn wsX5_init wsX4_init := goodIn_r _ [47, 48, 2, 3, 49, 50, 29, 51, 52, 53, 54, 81, 82, 83, 84, 85] (by decide +kernel) (by decide +kernel)
set_option maxRecDepth 20000 in
theorem gX5_init_X4_init_n31 : GoodIn wsX5_init (wsX4_init) := ggX5_init_X4_init
set_option maxRecDepth 20000 in
theorem ggX5_init_X2_init : GoodIn wsX5_init wsX2_init := goodIn_r _ [56, 57, 2, 3, 49, 58, 59, 86, 87] (by decide +kernel) (by decide +kernel)
set_option maxRecDepth 20000 in
theorem gX5_init_X2_init_n38 : GoodIn wsX5_init (wsX2_init) := ggX5_init_X2_init
theorem dX5_init_0 : decode cX5_init 0 = .ok (.aload_n 0, 1) := by decide +kernel
theorem dX5_init_1 : decode cX5_init 1 = .ok (.invokespecial 1, 3) := by decide +kernel
theorem dX5_init_4 : decode cX5_init 4 = .ok (.aload_n 0, 1) := by decide +kernel
theorem dX5_init_5 : decode cX5_init 5 = .ok (.new 7, 3) := by decide +kernel
theorem dX5_init_8 : decode cX5_init 8 = .ok (.dup, 1) := by decide +kernel
theorem dX5_init_9 : decode cX5_init 9 = .ok (.invokespecial 9, 3) := by decide +kernel
theorem dX5_init_12 : decode cX5_init 12 = .ok (.putfield 10, 3) := by decide +kernel
theorem dX5_init_15 : decode cX5_init 15 = .ok (.aload_n 0, 1) := by decide +kernel
theorem dX5_init_16 : decode cX5_init 16 = .ok (.new 7, 3) := by decide +kernel
theorem dX5_init_19 : decode cX5_init 19 = .ok (.dup, 1) := by decide +kernel
theorem dX5_init_20 : decode cX5_init 20 = .ok (.invokespecial 9, 3) := by decide +kernel
theorem dX5_init_23 : decode cX5_init 23 = .ok (.putfield 16, 3) := by decide +kernel
theorem dX5_init_26 : decode cX5_init 26 = .ok (.aload_n 0, 1) := by decide +kernel
theorem dX5_init_27 : decode cX5_init 27 = .ok (.new 7, 3) := by decide +kernel
theorem dX5_init_30 : decode cX5_init 30 = .ok (.dup, 1) := by decide +kernel
theorem dX5_init_31 : decode cX5_init 31 = .ok (.invokespecial 9, 3) := by decide +kernel
theorem dX5_init_34 : decode cX5_init 34 = .ok (.putfield 19, 3) := by decide +kernel
theorem dX5_init_37 : decode cX5_init 37 = .ok (.aload_n 0, 1) := by decide +kernel
theorem dX5_init_38 : decode cX5_init 38 = .ok (.new 22, 3) := by decide +kernel
theorem dX5_init_41 : decode cX5_init 41 = .ok (.dup, 1) := by decide +kernel
theorem dX5_init_42 : decode cX5_init 42 = .ok (.invokespecial 24, 3) := by decide +kernel
theorem dX5_init_45 : decode cX5_init 45 = .ok (.putfield 25, 3) := by decide +kernel
theorem dX5_init_48 : decode cX5_init 48 = .ok (.aload_n 0, 1) := by decide +kernel
theorem dX5_init_49 : decode cX5_init 49 = .ok (.new 29, 3) := by decide +kernel
theorem dX5_init_52 : decode cX5_init 52 = .ok (.dup, 1) := by decide +kernel
theorem dX5_init_53 : decode cX5_init 53 = .ok (.invokespecial 31, 3) := by decide +kernel
theorem dX5_init_56 : decode cX5_init 56 = .ok (.putfield 32, 3) := by decide +kernel
theorem dX5_init_59 : decode cX5_init 59 = .ok (.aload_n 0, 1) := by decide +kernel
theorem dX5_init_60 : decode cX5_init 60 = .ok (.new 36, 3) := by decide +kernel
theorem dX5_init_63 : decode cX5_init 63 = .ok (.dup, 1) := by decide +kernel
theorem dX5_init_64 : decode cX5_init 64 = .ok (.invokespecial 38, 3) := by decide +kernel
theorem dX5_init_67 : decode cX5_init 67 = .ok (.putfield 39, 3) := by decide +kernel
theorem dX5_init_70 : decode cX5_init 70 = .ok (.aload_n 0, 1) := by decide +kernel
theorem dX5_init_71 : decode cX5_init 71 = .ok (.iconst 0, 1) := by decide +kernel
theorem dX5_init_72 : decode cX5_init 72 = .ok (.putfield 43, 3) := by decide +kernel
theorem dX5_init_75 : decode cX5_init 75 = .ok (.aload_n 0, 1) := by decide +kernel
theorem dX5_init_76 : decode cX5_init 76 = .ok (.iconst (-1), 1) := by decide +kernel
theorem dX5_init_77 : decode cX5_init 77 = .ok (.putfield 47, 3) := by decide +kernel
theorem dX5_init_80 : decode cX5_init 80 = .ok (.aload_n 0, 1) := by decide +kernel
theorem dX5_init_81 : decode cX5_init 81 = .ok (.iconst 0, 1) := by decide +kernel
theorem dX5_init_82 : decode cX5_init 82 = .ok (.putfield 51, 3) := by decide +kernel
theorem dX5_init_85 : decode cX5_init 85 = .ok (.aload_n 0, 1) := by decide +kernel
theorem dX5_init_86 : decode cX5_init 86 = .ok (.iconst 0, 1) := by decide +kernel
theorem dX5_init_87 : decode cX5_init 87 = .ok (.putfield 54, 3) := by decide +kernel
theorem dX5_init_90 : decode cX5_init 90 = .ok (.return_, 1) := by decide +kernel
set_option maxRecDepth 20000 in
theorem ggX5_stool_X1_prepare : GoodIn wsX5_stool wsX1_prepare := goodIn_r _ [7, 8, 9, 10, 11, 12, 13, 14, 15, 16, 17, 18, 19, 20, 21, 22, 23, 24, 25, 26, 27, 28, 29, 30, 31, 32, 33, 34, 81, 82, 83, 84, 85, 86, 87, 88, 89, 90, 91] (by decide +kernel) (by decide +kernel)
set_option maxRecDepth 20000 in
theorem gX5_stool_X1_prepare : GoodIn wsX5_stool (wsV RX5 57 RX1 yX1_prepare wsX1_prepare) := goodIn_app (goodIn_of _ (by decide +kernel)) ggX5_stool_X1_prepare
set_option maxRecDepth 20000 in
theorem ggX5_stool_X5_setUpStool : GoodIn wsX5_stool wsX5_setUpStool := goodIn_ca (goodIn_r _ [39, 2, 40, 41, 42, 43, 38, 44, 45, 46, 47, 48, 49, 17, 50, 29, 51, 52, 53, 54, 19, 71, 72, 73, 74, 75, 76, 77, 78, 79, 80, 84, 85, 86, 87, 88, 89, 90, 91] (by decide +kernel) (by decide +kernel)) (goodIn_sub (fun _ h => List.mem_cons_of_mem _ (List.mem_append_left _ (List.mem_append_left _ (List.mem_append_left _ (List.mem_append_right _ h))))) (by decide +kernel))
set_option maxRecDepth 20000 in
theorem gX5_stool_X5_setUpStool : GoodIn wsX5_stool (wsV RX5 61 RX5 yX5_setUpStool wsX5_setUpStool) := goodIn_app (goodIn_of _ (by decide +kernel)) ggX5_stool_X5_setUpStool
set_option maxRecDepth 20000 in
theorem ggX5_stool_X5_settled : GoodIn wsX5_stool wsX5_settled := goodIn_ca (goodIn_ca (goodIn_ca (goodIn_r _ [58, 59, 60, 61, 62, 63, 64, 1, 65, 66, 67, 6, 68, 9, 69, 70, 21, 22, 23, 71, 72, 73, 74, 75, 76, 77, 78, 79, 80, 81, 82, 83] (by decide +kernel) (by decide +kernel)) (goodIn_sub (fun _ h => List.mem_cons_of_mem _ (List.mem_append_left _ (List.mem_append_left _ (List.mem_append_right _ h)))) (by decide +kernel))) (goodIn_sub (fun _ h => List.mem_cons_of_mem _ (List.mem_append_left _ (List.mem_append_right _ h))) (by decide +kernel))) (goodIn_sub (fun _ h => List.mem_cons_of_mem _ (List.mem_append_right _ h)) (by decide +kernel))
set_option maxRecDepth 20000 in
theorem gX5_stool_X5_settled : GoodIn wsX5_stool (wsV RX5 65 RX5 yX5_settled wsX5_settled) := goodIn_app (goodIn_of _ (by decide +kernel)) ggX5_stool_X5_settled
theorem dX5_stool_0 : decode cX5_stool 0 = .ok (.aload_n 0, 1) := by decide +kernel
theorem dX5_stool_1 : decode cX5_stool 1 = .ok (.getfield 25, 3) := by decide +kernel
theorem dX5_stool_4 : decode cX5_stool 4 = .ok (.aload_n 0, 1) := by decide +kernel
theorem dX5_stool_5 : decode cX5_stool 5 = .ok (.getfield 10, 3) := by decide +kernel
theorem dX5_stool_8 : decode cX5_stool 8 = .ok (.invokevirtual 57, 3) := by decide +kernel
theorem dX5_stool_11 : decode cX5_stool 11 = .ok (.aload_n 0, 1) := by decide +kernel
theorem dX5_stool_12 : decode cX5_stool 12 = .ok (.aload_n 0, 1) := by decide +kernel
theorem dX5_stool_13 : decode cX5_stool 13 = .ok (.iload_n 1, 1) := by decide +kernel
theorem dX5_stool_14 : decode cX5_stool 14 = .ok (.iload_n 2, 1) := by decide +kernel
theorem dX5_stool_15 : decode cX5_stool 15 = .ok (.iload_n 3, 1) := by decide +kernel
theorem dX5_stool_16 : decode cX5_stool 16 = .ok (.iload 4, 2) := by decide +kernel
theorem dX5_stool_18 : decode cX5_stool 18 = .ok (.invokevirtual 61, 3) := by decide +kernel
theorem dX5_stool_21 : decode cX5_stool 21 = .ok (.invokevirtual 65, 3) := by decide +kernel
theorem dX5_stool_24 : decode cX5_stool 24 = .ok (.ireturn, 1) := by decide +kernel
set_option maxRecDepth 20000 in
theorem ggX5_guest_X1_prepare : GoodIn wsX5_guest wsX1_prepare := goodIn_r _ [7, 8, 9, 10, 11, 12, 13, 14, 15, 16, 17, 18, 19, 20, 21, 22, 23, 24, 25, 26, 27, 28, 29, 30, 31, 32, 33, 34, 85, 86, 87, 88, 89, 90, 91, 92, 93, 94, 95] (by decide +kernel) (by decide +kernel)
set_option maxRecDepth 20000 in
theorem gX5_guest_X1_prepare : GoodIn wsX5_guest (wsV RX5 57 RX1 yX1_prepare wsX1_prepare) := goodIn_app (goodIn_of _ (by decide +kernel)) ggX5_guest_X1_prepare
set_option maxRecDepth 20000 in
theorem ggX5_guest_X5_letGuestCome : GoodIn wsX5_guest wsX5_letGuestCome := goodIn_ca (goodIn_r _ [39, 40, 41, 42, 38, 43, 2, 44, 45, 46, 47, 48, 49, 50, 51, 52, 53, 17, 54, 30, 55, 56, 57, 58, 28, 75, 76, 77, 78, 79, 80, 81, 82, 83, 84, 88, 89, 90, 91, 92, 93, 94, 95] (by decide +kernel) (by decide +kernel)) (goodIn_sub (fun _ h => List.mem_cons_of_mem _ (List.mem_append_left _ (List.mem_append_left _ (List.mem_append_left _ (List.mem_append_right _ h))))) (by decide +kernel))
set_option maxRecDepth 20000 in
theorem gX5_guest_X5_letGuestCome : GoodIn wsX5_guest (wsV RX5 69 RX5 yX5_letGuestCome wsX5_letGuestCome) := goodIn_app (goodIn_of _ (by decide +kernel)) ggX5_guest_X5_letGuestCome
set_option maxRecDepth 20000 in
theorem ggX5_guest_X5_settled : GoodIn wsX5_guest wsX5_settled := goodIn_ca (goodIn_ca (goodIn_ca (goodIn_r _ [62, 63, 64, 65, 66, 67, 68, 1, 69, 70, 71, 6, 72, 9, 73, 74, 21, 22, 23, 75, 76, 77, 78, 79, 80, 81, 82, 83, 84, 85, 86, 87] (by decide +kernel) (by decide +kernel)) (goodIn_sub (fun _ h => List.mem_cons_of_mem _ (List.mem_append_left _ (List.mem_append_left _ (List.mem_append_right _ h)))) (by decide +kernel))) (goodIn_sub (fun _ h => List.mem_cons_of_mem _ (List.mem_append_left _ (List.mem_append_right _ h))) (by decide +kernel))) (goodIn_sub (fun _ h => List.mem_cons_of_mem _ (List.mem_append_right _ h)) (by decide +kernel))
set_option maxRecDepth 20000 in
theorem gX5_guest_X5_settled : GoodIn wsX5_guest (wsV RX5 65 RX5 yX5_settled wsX5_settled) := goodIn_app (goodIn_of _ (by decide +kernel)) ggX5_guest_X5_settled
theorem dX5_guest_0 : decode cX5_guest 0 = .ok (.aload_n 0, 1) := by decide +kernel
theorem dX5_guest_1 : decode cX5_guest 1 = .ok (.getfield 25, 3) := by decide +kernel
theorem dX5_guest_4 : decode cX5_guest 4 = .ok (.aload_n 0, 1) := by decide +kernel
theorem dX5_guest_5 : decode cX5_guest 5 = .ok (.getfield 10, 3) := by decide +kernel
theorem dX5_guest_8 : decode cX5_guest 8 = .ok (.invokevirtual 57, 3) := by decide +kernel
theorem dX5_guest_11 : decode cX5_guest 11 = .ok (.aload_n 0, 1) := by decide +kernel
theorem dX5_guest_12 : decode cX5_guest 12 = .ok (.aload_n 0, 1) := by decide +kernel
theorem dX5_guest_13 : decode cX5_guest 13 = .ok (.iload_n 1, 1) := by decide +kernel
theorem dX5_guest_14 : decode cX5_guest 14 = .ok (.iload_n 2, 1) := by decide +kernel
theorem dX5_guest_15 : decode cX5_guest 15 = .ok (.invokevirtual 69, 3) := by decide +kernel
theorem dX5_guest_18 : decode cX5_guest 18 = .ok (.invokevirtual 65, 3) := by decide +kernel
theorem dX5_guest_21 : decode cX5_guest 21 = .ok (.ireturn, 1) := by decide +kernel
set_option maxRecDepth 20000 in
theorem ggX5_cat_X1_prepare : GoodIn wsX5_cat wsX1_prepare := goodIn_r _ [7, 8, 9, 10, 11, 12, 13, 14, 15, 16, 17, 18, 19, 20, 21, 22, 23, 24, 25, 26, 27, 28, 29, 30, 31, 32, 33, 34, 81, 82, 83, 84, 85, 86, 87, 88, 89, 90, 91] (by decide +kernel) (by decide +kernel)
set_option maxRecDepth 20000 in
theorem gX5_cat_X1_prepare : GoodIn wsX5_cat (wsV RX5 57 RX1 yX1_prepare wsX1_prepare) := goodIn_app (goodIn_of _ (by decide +kernel)) ggX5_cat_X1_prepare
set_option maxRecDepth 20000 in
theorem ggX5_cat_X5_letSitterCome : GoodIn wsX5_cat wsX5_letSitterCome := goodIn_ca (goodIn_r _ [39, 2, 40, 41, 42, 43, 38, 44, 45, 46, 47, 48, 49, 17, 50, 30, 51, 52, 53, 54, 28, 71, 72, 73, 74, 75, 76, 77, 78, 79, 80, 84, 85, 86, 87, 88, 89, 90, 91] (by decide +kernel) (by decide +kernel)) (goodIn_sub (fun _ h => List.mem_cons_of_mem _ (List.mem_append_left _ (List.mem_append_left _ (List.mem_append_left _ (List.mem_append_right _ h))))) (by decide +kernel))
set_option maxRecDepth 20000 in
theorem gX5_cat_X5_letSitterCome : GoodIn wsX5_cat (wsV RX5 73 RX5 yX5_letSitterCome wsX5_letSitterCome) := goodIn_app (goodIn_of _ (by decide +kernel)) ggX5_cat_X5_letSitterCome
set_option maxRecDepth 20000 in
theorem ggX5_cat_X5_settled : GoodIn wsX5_cat wsX5_settled := goodIn_ca (goodIn_ca (goodIn_ca (goodIn_r _ [58, 59, 60, 61, 62, 63, 64, 1, 65, 66, 67, 6, 68, 9, 69, 70, 21, 22, 23, 71, 72, 73, 74, 75, 76, 77, 78, 79, 80, 81, 82, 83] (by decide +kernel) (by decide +kernel)) (goodIn_sub (fun _ h => List.mem_cons_of_mem _ (List.mem_append_left _ (List.mem_append_left _ (List.mem_append_right _ h)))) (by decide +kernel))) (goodIn_sub (fun _ h => List.mem_cons_of_mem _ (List.mem_append_left _ (List.mem_append_right _ h))) (by decide +kernel))) (goodIn_sub (fun _ h => List.mem_cons_of_mem _ (List.mem_append_right _ h)) (by decide +kernel))
set_option maxRecDepth 20000 in
theorem gX5_cat_X5_settled : GoodIn wsX5_cat (wsV RX5 65 RX5 yX5_settled wsX5_settled) := goodIn_app (goodIn_of _ (by decide +kernel)) ggX5_cat_X5_settled
theorem dX5_cat_0 : decode cX5_cat 0 = .ok (.aload_n 0, 1) := by decide +kernel
theorem dX5_cat_1 : decode cX5_cat 1 = .ok (.getfield 25, 3) := by decide +kernel
theorem dX5_cat_4 : decode cX5_cat 4 = .ok (.aload_n 0, 1) := by decide +kernel
theorem dX5_cat_5 : decode cX5_cat 5 = .ok (.getfield 10, 3) := by decide +kernel
theorem dX5_cat_8 : decode cX5_cat 8 = .ok (.invokevirtual 57, 3) := by decide +kernel
theorem dX5_cat_11 : decode cX5_cat 11 = .ok (.aload_n 0, 1) := by decide +kernel
theorem dX5_cat_12 : decode cX5_cat 12 = .ok (.aload_n 0, 1) := by decide +kernel
theorem dX5_cat_13 : decode cX5_cat 13 = .ok (.iconst 0, 1) := by decide +kernel
theorem dX5_cat_14 : decode cX5_cat 14 = .ok (.iload_n 1, 1) := by decide +kernel
theorem dX5_cat_15 : decode cX5_cat 15 = .ok (.invokevirtual 73, 3) := by decide +kernel
theorem dX5_cat_18 : decode cX5_cat 18 = .ok (.invokevirtual 65, 3) := by decide +kernel
theorem dX5_cat_21 : decode cX5_cat 21 = .ok (.ireturn, 1) := by decide +kernel
set_option maxRecDepth 20000 in
theorem ggX5_sit_X1_prepare : GoodIn wsX5_sit wsX1_prepare := goodIn_r _ [7, 8, 9, 10, 11, 12, 13, 14, 15, 16, 17, 18, 19, 20, 21, 22, 23, 24, 25, 26, 27, 28, 29, 30, 31, 32, 33, 34, 121, 122, 123, 124, 125, 126, 127, 128, 129, 130, 131] (by decide +kernel) (by decide +kernel)
set_option maxRecDepth 20000 in
theorem gX5_sit_X1_prepare : GoodIn wsX5_sit (wsV RX5 57 RX1 yX1_prepare wsX1_prepare) := goodIn_app (goodIn_of _ (by decide +kernel)) ggX5_sit_X1_prepare
set_option maxRecDepth 20000 in
theorem ggX5_sit_X5_seat : GoodIn wsX5_sit wsX5_seat := goodIn_ca (goodIn_r _ [39, 2, 40, 41, 42, 17, 43, 30, 44, 45, 46, 47, 29, 48, 49, 50, 51, 19, 52, 53, 54, 38, 55, 56, 57, 58, 59, 60, 61, 62, 63, 64, 65, 28, 66, 67, 68, 69, 70, 71, 72, 73, 74, 75, 76, 77, 78, 79, 80, 81, 82, 83, 84, 85, 86, 87, 88, 89, 90, 91, 92, 93, 94, 111, 112, 113, 114, 115, 116, 117, 118, 119, 120, 124, 125, 126, 127, 128, 129, 130, 131] (by decide +kernel) (by decide +kernel)) (goodIn_sub (fun _ h => List.mem_cons_of_mem _ (List.mem_append_left _ (List.mem_append_left _ (List.mem_append_left _ (List.mem_append_right _ h))))) (by decide +kernel))
set_option maxRecDepth 20000 in
theorem gX5_sit_X5_seat : GoodIn wsX5_sit (wsV RX5 76 RX5 yX5_seat wsX5_seat) := goodIn_app (goodIn_of _ (by decide +kernel)) ggX5_sit_X5_seat
set_option maxRecDepth 20000 in
theorem ggX5_sit_X5_settled : GoodIn wsX5_sit wsX5_settled := goodIn_ca (goodIn_ca (goodIn_ca (goodIn_r _ [98, 99, 100, 101, 102, 103, 104, 1, 105, 106, 107, 6, 108, 9, 109, 110, 21, 22, 23, 111, 112, 113, 114, 115, 116, 117, 118, 119, 120, 121, 122, 123] (by decide +kernel) (by decide +kernel)) (goodIn_sub (fun _ h => List.mem_cons_of_mem _ (List.mem_append_left _ (List.mem_append_left _ (List.mem_append_right _ h)))) (by decide +kernel))) (goodIn_sub (fun _ h => List.mem_cons_of_mem _ (List.mem_append_left _ (List.mem_append_right _ h))) (by decide +kernel))) (goodIn_sub (fun _ h => List.mem_cons_of_mem _ (List.mem_append_right _ h)) (by decide +kernel))
set_option maxRecDepth 20000 in
theorem gX5_sit_X5_settled : GoodIn wsX5_sit (wsV RX5 65 RX5 yX5_settled wsX5_settled) := goodIn_app (goodIn_of _ (by decide +kernel)) ggX5_sit_X5_settled
theorem dX5_sit_0 : decode cX5_sit 0 = .ok (.aload_n 0, 1) := by decide +kernel
theorem dX5_sit_1 : decode cX5_sit 1 = .ok (.getfield 25, 3) := by decide +kernel
theorem dX5_sit_4 : decode cX5_sit 4 = .ok (.aload_n 0, 1) := by decide +kernel
theorem dX5_sit_5 : decode cX5_sit 5 = .ok (.getfield 10, 3) := by decide +kernel
theorem dX5_sit_8 : decode cX5_sit 8 = .ok (.invokevirtual 57, 3) := by decide +kernel
theorem dX5_sit_11 : decode cX5_sit 11 = .ok (.aload_n 0, 1) := by decide +kernel
theorem dX5_sit_12 : decode cX5_sit 12 = .ok (.aload_n 0, 1) := by decide +kernel
theorem dX5_sit_13 : decode cX5_sit 13 = .ok (.iload_n 1, 1) := by decide +kernel
theorem dX5_sit_14 : decode cX5_sit 14 = .ok (.iload_n 2, 1) := by decide +kernel
theorem dX5_sit_15 : decode cX5_sit 15 = .ok (.invokevirtual 76, 3) := by decide +kernel
theorem dX5_sit_18 : decode cX5_sit 18 = .ok (.invokevirtual 65, 3) := by decide +kernel
theorem dX5_sit_21 : decode cX5_sit 21 = .ok (.ireturn, 1) := by decide +kernel
set_option maxRecDepth 20000 in
theorem ggX5_getUp_X1_prepare : GoodIn wsX5_getUp wsX1_prepare := goodIn_r _ [7, 8, 9, 10, 11, 12, 13, 14, 15, 16, 17, 18, 19, 20, 21, 22, 23, 24, 25, 26, 27, 28, 29, 30, 31, 32, 33, 34, 96, 97, 98, 99, 100, 101, 102, 103, 104, 105, 106] (by decide +kernel) (by decide +kernel)
set_option maxRecDepth 20000 in
theorem gX5_getUp_X1_prepare : GoodIn wsX5_getUp (wsV RX5 57 RX1 yX1_prepare wsX1_prepare) := goodIn_app (goodIn_of _ (by decide +kernel)) ggX5_getUp_X1_prepare
set_option maxRecDepth 20000 in
theorem ggX5_getUp_X5_letGetUp : GoodIn wsX5_getUp wsX5_letGetUp := goodIn_ca (goodIn_r _ [39, 2, 40, 41, 42, 17, 43, 30, 44, 45, 46, 47, 48, 49, 50, 51, 28, 52, 53, 54, 38, 55, 56, 57, 58, 59, 60, 61, 62, 63, 64, 65, 19, 66, 67, 68, 69, 86, 87, 88, 89, 90, 91, 92, 93, 94, 95, 99, 100, 101, 102, 103, 104, 105, 106] (by decide +kernel) (by decide +kernel)) (goodIn_sub (fun _ h => List.mem_cons_of_mem _ (List.mem_append_left _ (List.mem_append_left _ (List.mem_append_left _ (List.mem_append_right _ h))))) (by decide +kernel))
set_option maxRecDepth 20000 in
theorem gX5_getUp_X5_letGetUp : GoodIn wsX5_getUp (wsV RX5 79 RX5 yX5_letGetUp wsX5_letGetUp) := goodIn_app (goodIn_of _ (by decide +kernel)) ggX5_getUp_X5_letGetUp
set_option maxRecDepth 20000 in
theorem ggX5_getUp_X5_settled : GoodIn wsX5_getUp wsX5_settled := goodIn_ca (goodIn_ca (goodIn_ca (goodIn_r _ [73, 74, 75, 76, 77, 78, 79, 1, 80, 81, 82, 6, 83, 9, 84, 85, 21, 22, 23, 86, 87, 88, 89, 90, 91, 92, 93, 94, 95, 96, 97, 98] (by decide +kernel) (by decide +kernel)) (goodIn_sub (fun _ h => List.mem_cons_of_mem _ (List.mem_append_left _ (List.mem_append_left _ (List.mem_append_right _ h)))) (by decide +kernel))) (goodIn_sub (fun _ h => List.mem_cons_of_mem _ (List.mem_append_left _ (List.mem_append_right _ h))) (by decide +kernel))) (goodIn_sub (fun _ h => List.mem_cons_of_mem _ (List.mem_append_right _ h)) (by decide +kernel))
set_option maxRecDepth 20000 in
theorem gX5_getUp_X5_settled : GoodIn wsX5_getUp (wsV RX5 65 RX5 yX5_settled wsX5_settled) := goodIn_app (goodIn_of _ (by decide +kernel)) ggX5_getUp_X5_settled
theorem dX5_getUp_0 : decode cX5_getUp 0 = .ok (.aload_n 0, 1) := by decide +kernel
theorem dX5_getUp_1 : decode cX5_getUp 1 = .ok (.getfield 25, 3) := by decide +kernel
theorem dX5_getUp_4 : decode cX5_getUp 4 = .ok (.aload_n 0, 1) := by decide +kernel
theorem dX5_getUp_5 : decode cX5_getUp 5 = .ok (.getfield 10, 3) := by decide +kernel
theorem dX5_getUp_8 : decode cX5_getUp 8 = .ok (.invokevirtual 57, 3) := by decide +kernel
theorem dX5_getUp_11 : decode cX5_getUp 11 = .ok (.aload_n 0, 1) := by decide +kernel
theorem dX5_getUp_12 : decode cX5_getUp 12 = .ok (.aload_n 0, 1) := by decide +kernel
theorem dX5_getUp_13 : decode cX5_getUp 13 = .ok (.iload_n 1, 1) := by decide +kernel
theorem dX5_getUp_14 : decode cX5_getUp 14 = .ok (.invokevirtual 79, 3) := by decide +kernel
theorem dX5_getUp_17 : decode cX5_getUp 17 = .ok (.invokevirtual 65, 3) := by decide +kernel
theorem dX5_getUp_20 : decode cX5_getUp 20 = .ok (.ireturn, 1) := by decide +kernel
set_option maxRecDepth 20000 in
theorem ggX5_stoolOf_X5_requireStool : GoodIn wsX5_stoolOf wsX5_requireStool := goodIn_ca (goodIn_r _ [8, 9, 10, 3, 11, 12, 13, 14, 15, 16, 22, 23, 24, 25, 26, 27, 28, 29, 30, 31, 32, 33, 34, 35, 36, 37, 38, 39] (by decide +kernel) (by decide +kernel)) (goodIn_sub (fun _ h => List.mem_cons_of_mem _ (List.mem_append_left _ (List.mem_append_right _ h))) (by decide +kernel))
set_option maxRecDepth 20000 in
theorem gX5_stoolOf_X5_requireStool : GoodIn wsX5_stoolOf (wsV RX5 82 RX5 yX5_requireStool wsX5_requireStool) := goodIn_app (goodIn_of _ (by decide +kernel)) ggX5_stoolOf_X5_requireStool
set_option maxRecDepth 20000 in
theorem ggX5_stoolOf_X3_ofStool : GoodIn wsX5_stoolOf wsX3_ofStool := goodIn_ca (goodIn_r _ [20, 21, 32, 33, 34, 35, 36, 37, 38, 39] (by decide +kernel) (by decide +kernel)) (goodIn_sub (fun _ h => List.mem_cons_of_mem _ (List.mem_append_right _ h)) (by decide +kernel))
set_option maxRecDepth 20000 in
theorem gX5_stoolOf_X3_ofStool : GoodIn wsX5_stoolOf (wsV RX5 93 RX3 yX3_ofStool wsX3_ofStool) := goodIn_app (goodIn_of _ (by decide +kernel)) ggX5_stoolOf_X3_ofStool
theorem dX5_stoolOf_0 : decode cX5_stoolOf 0 = .ok (.aload_n 0, 1) := by decide +kernel
theorem dX5_stoolOf_1 : decode cX5_stoolOf 1 = .ok (.iload_n 1, 1) := by decide +kernel
theorem dX5_stoolOf_2 : decode cX5_stoolOf 2 = .ok (.invokevirtual 82, 3) := by decide +kernel
theorem dX5_stoolOf_5 : decode cX5_stoolOf 5 = .ok (.iload_n 2, 1) := by decide +kernel
theorem dX5_stoolOf_6 : decode cX5_stoolOf 6 = .ok (.ifCond .lt 9, 3) := by decide +kernel
theorem dX5_stoolOf_9 : decode cX5_stoolOf 9 = .ok (.iload_n 2, 1) := by decide +kernel
theorem dX5_stoolOf_10 : decode cX5_stoolOf 10 = .ok (.bipush 6, 2) := by decide +kernel
theorem dX5_stoolOf_12 : decode cX5_stoolOf 12 = .ok (.if_icmp .lt 13, 3) := by decide +kernel
theorem dX5_stoolOf_15 : decode cX5_stoolOf 15 = .ok (.new 86, 3) := by decide +kernel
theorem dX5_stoolOf_18 : decode cX5_stoolOf 18 = .ok (.dup, 1) := by decide +kernel
theorem dX5_stoolOf_19 : decode cX5_stoolOf 19 = .ok (.ldc 88, 2) := by decide +kernel
theorem dX5_stoolOf_21 : decode cX5_stoolOf 21 = .ok (.invokespecial 90, 3) := by decide +kernel
theorem dX5_stoolOf_24 : decode cX5_stoolOf 24 = .ok (.athrow, 1) := by decide +kernel
theorem dX5_stoolOf_25 : decode cX5_stoolOf 25 = .ok (.aload_n 0, 1) := by decide +kernel
theorem dX5_stoolOf_26 : decode cX5_stoolOf 26 = .ok (.getfield 10, 3) := by decide +kernel
theorem dX5_stoolOf_29 : decode cX5_stoolOf 29 = .ok (.iload_n 1, 1) := by decide +kernel
theorem dX5_stoolOf_30 : decode cX5_stoolOf 30 = .ok (.iload_n 2, 1) := by decide +kernel
theorem dX5_stoolOf_31 : decode cX5_stoolOf 31 = .ok (.invokevirtual 93, 3) := by decide +kernel
theorem dX5_stoolOf_34 : decode cX5_stoolOf 34 = .ok (.ireturn, 1) := by decide +kernel
set_option maxRecDepth 20000 in
theorem ggX5_sitterOf_X5_requireSitter : GoodIn wsX5_sitterOf wsX5_requireSitter := goodIn_ca (goodIn_r _ [8, 9, 10, 3, 11, 12, 13, 14, 15, 16, 40, 41, 42, 43, 44, 45, 46, 47, 48, 49, 50, 51, 52, 53, 54, 55, 56, 57] (by decide +kernel) (by decide +kernel)) (goodIn_sub (fun _ h => List.mem_cons_of_mem _ (List.mem_append_left _ (List.mem_append_right _ h))) (by decide +kernel))
set_option maxRecDepth 20000 in
theorem gX5_sitterOf_X5_requireSitter : GoodIn wsX5_sitterOf (wsV RX5 96 RX5 yX5_requireSitter wsX5_requireSitter) := goodIn_app (goodIn_of _ (by decide +kernel)) ggX5_sitterOf_X5_requireSitter
set_option maxRecDepth 20000 in
theorem ggX5_sitterOf_X3_ofSitter : GoodIn wsX5_sitterOf wsX3_ofSitter := goodIn_ca (goodIn_r _ [20, 21, 50, 51, 52, 53, 54, 55, 56, 57] (by decide +kernel) (by decide +kernel)) (goodIn_sub (fun _ h => List.mem_cons_of_mem _ (List.mem_append_right _ h)) (by decide +kernel))
set_option maxRecDepth 20000 in
theorem gX5_sitterOf_X3_ofSitter : GoodIn wsX5_sitterOf (wsV RX5 99 RX3 yX3_ofSitter wsX3_ofSitter) := goodIn_app (goodIn_of _ (by decide +kernel)) ggX5_sitterOf_X3_ofSitter
set_option maxRecDepth 20000 in
theorem ggX5_sitterOf_X3_clashesWith : GoodIn wsX5_sitterOf wsX3_clashesWith := goodIn_ca (goodIn_r _ [25, 16, 26, 27, 28, 14, 29, 30, 31, 32, 33, 34, 18, 19, 20, 21, 35, 36, 37, 38, 39, 50, 51, 52, 53, 54, 55, 56, 57] (by decide +kernel) (by decide +kernel)) (goodIn_sub (fun _ h => List.mem_cons_of_mem _ (List.mem_append_right _ h)) (by decide +kernel))
set_option maxRecDepth 20000 in
theorem gX5_sitterOf_X3_clashesWith : GoodIn wsX5_sitterOf (wsV RX5 102 RX3 yX3_clashesWith wsX3_clashesWith) := goodIn_app (goodIn_of _ (by decide +kernel)) ggX5_sitterOf_X3_clashesWith
theorem dX5_sitterOf_0 : decode cX5_sitterOf 0 = .ok (.aload_n 0, 1) := by decide +kernel
theorem dX5_sitterOf_1 : decode cX5_sitterOf 1 = .ok (.iload_n 1, 1) := by decide +kernel
theorem dX5_sitterOf_2 : decode cX5_sitterOf 2 = .ok (.invokevirtual 96, 3) := by decide +kernel
theorem dX5_sitterOf_5 : decode cX5_sitterOf 5 = .ok (.iload_n 2, 1) := by decide +kernel
theorem dX5_sitterOf_6 : decode cX5_sitterOf 6 = .ok (.tableswitch 91 0 4 #[34, 44, 54, 64, 73], 34) := by decide +kernel
theorem dX5_sitterOf_40 : decode cX5_sitterOf 40 = .ok (.aload_n 0, 1) := by decide +kernel
theorem dX5_sitterOf_41 : decode cX5_sitterOf 41 = .ok (.getfield 10, 3) := by decide +kernel
theorem dX5_sitterOf_44 : decode cX5_sitterOf 44 = .ok (.iload_n 1, 1) := by decide +kernel
theorem dX5_sitterOf_45 : decode cX5_sitterOf 45 = .ok (.iconst 0, 1) := by decide +kernel
theorem dX5_sitterOf_46 : decode cX5_sitterOf 46 = .ok (.invokevirtual 99, 3) := by decide +kernel
theorem dX5_sitterOf_49 : decode cX5_sitterOf 49 = .ok (.ireturn, 1) := by decide +kernel
theorem dX5_sitterOf_50 : decode cX5_sitterOf 50 = .ok (.aload_n 0, 1) := by decide +kernel
theorem dX5_sitterOf_51 : decode cX5_sitterOf 51 = .ok (.getfield 10, 3) := by decide +kernel
theorem dX5_sitterOf_54 : decode cX5_sitterOf 54 = .ok (.iload_n 1, 1) := by decide +kernel
theorem dX5_sitterOf_55 : decode cX5_sitterOf 55 = .ok (.iconst 1, 1) := by decide +kernel
theorem dX5_sitterOf_56 : decode cX5_sitterOf 56 = .ok (.invokevirtual 99, 3) := by decide +kernel
theorem dX5_sitterOf_59 : decode cX5_sitterOf 59 = .ok (.ireturn, 1) := by decide +kernel
theorem dX5_sitterOf_60 : decode cX5_sitterOf 60 = .ok (.aload_n 0, 1) := by decide +kernel
theorem dX5_sitterOf_61 : decode cX5_sitterOf 61 = .ok (.getfield 10, 3) := by decide +kernel
theorem dX5_sitterOf_64 : decode cX5_sitterOf 64 = .ok (.iload_n 1, 1) := by decide +kernel
theorem dX5_sitterOf_65 : decode cX5_sitterOf 65 = .ok (.iconst 2, 1) := by decide +kernel
theorem dX5_sitterOf_66 : decode cX5_sitterOf 66 = .ok (.invokevirtual 99, 3) := by decide +kernel
theorem dX5_sitterOf_69 : decode cX5_sitterOf 69 = .ok (.ireturn, 1) := by decide +kernel
theorem dX5_sitterOf_70 : decode cX5_sitterOf 70 = .ok (.aload_n 0, 1) := by decide +kernel
theorem dX5_sitterOf_71 : decode cX5_sitterOf 71 = .ok (.getfield 10, 3) := by decide +kernel
theorem dX5_sitterOf_74 : decode cX5_sitterOf 74 = .ok (.iload_n 1, 1) := by decide +kernel
theorem dX5_sitterOf_75 : decode cX5_sitterOf 75 = .ok (.invokevirtual 102, 3) := by decide +kernel
theorem dX5_sitterOf_78 : decode cX5_sitterOf 78 = .ok (.ireturn, 1) := by decide +kernel
theorem dX5_sitterOf_79 : decode cX5_sitterOf 79 = .ok (.aload_n 0, 1) := by decide +kernel
theorem dX5_sitterOf_80 : decode cX5_sitterOf 80 = .ok (.getfield 10, 3) := by decide +kernel
theorem dX5_sitterOf_83 : decode cX5_sitterOf 83 = .ok (.iload_n 1, 1) := by decide +kernel
theorem dX5_sitterOf_84 : decode cX5_sitterOf 84 = .ok (.iconst 0, 1) := by decide +kernel
theorem dX5_sitterOf_85 : decode cX5_sitterOf 85 = .ok (.invokevirtual 99, 3) := by decide +kernel
theorem dX5_sitterOf_88 : decode cX5_sitterOf 88 = .ok (.ifCond .ne 7, 3) := by decide +kernel
theorem dX5_sitterOf_91 : decode cX5_sitterOf 91 = .ok (.iconst 1, 1) := by decide +kernel
theorem dX5_sitterOf_92 : decode cX5_sitterOf 92 = .ok (.goto 4, 3) := by decide +kernel
theorem dX5_sitterOf_95 : decode cX5_sitterOf 95 = .ok (.iconst 0, 1) := by decide +kernel
theorem dX5_sitterOf_96 : decode cX5_sitterOf 96 = .ok (.ireturn, 1) := by decide +kernel
theorem dX5_sitterOf_97 : decode cX5_sitterOf 97 = .ok (.new 86, 3) := by decide +kernel
theorem dX5_sitterOf_100 : decode cX5_sitterOf 100 = .ok (.dup, 1) := by decide +kernel
theorem dX5_sitterOf_101 : decode cX5_sitterOf 101 = .ok (.ldc 105, 2) := by decide +kernel
theorem dX5_sitterOf_103 : decode cX5_sitterOf 103 = .ok (.invokespecial 90, 3) := by decide +kernel
theorem dX5_sitterOf_106 : decode cX5_sitterOf 106 = .ok (.athrow, 1) := by decide +kernel
set_option maxRecDepth 20000 in
theorem ggX5_clashes_X3_clashesByStools : GoodIn wsX5_clashes wsX3_clashesByStools := goodIn_ca (goodIn_r _ [6, 7, 8, 9, 10, 5, 11, 12, 13, 14, 15, 16, 17, 18, 19, 20, 21, 45, 46, 47, 48, 49, 50, 51, 52] (by decide +kernel) (by decide +kernel)) (goodIn_sub (fun _ h => List.mem_cons_of_mem _ (List.mem_append_right _ h)) (by decide +kernel))
set_option maxRecDepth 20000 in
theorem gX5_clashes_X3_clashesByStools : GoodIn wsX5_clashes (wsV RX5 107 RX3 yX3_clashesByStools wsX3_clashesByStools) := goodIn_app (goodIn_of _ (by decide +kernel)) ggX5_clashes_X3_clashesByStools
set_option maxRecDepth 20000 in
theorem ggX5_clashes_X3_clashesByPairs : GoodIn wsX5_clashes wsX3_clashesByPairs := goodIn_ca (goodIn_r _ [25, 26, 27, 28, 29, 5, 30, 31, 32, 33, 34, 13, 14, 15, 16, 17, 8, 9, 10, 11, 12, 45, 46, 47, 48, 49, 50, 51, 52] (by decide +kernel) (by decide +kernel)) (goodIn_sub (fun _ h => List.mem_cons_of_mem _ (List.mem_append_right _ h)) (by decide +kernel))
set_option maxRecDepth 20000 in
theorem gX5_clashes_X3_clashesByPairs : GoodIn wsX5_clashes (wsV RX5 111 RX3 yX3_clashesByPairs wsX3_clashesByPairs) := goodIn_app (goodIn_of _ (by decide +kernel)) ggX5_clashes_X3_clashesByPairs
theorem dX5_clashes_0 : decode cX5_clashes 0 = .ok (.iload_n 1, 1) := by decide +kernel
theorem dX5_clashes_1 : decode cX5_clashes 1 = .ok (.ifCond .eq 13, 3) := by decide +kernel
theorem dX5_clashes_4 : decode cX5_clashes 4 = .ok (.aload_n 0, 1) := by decide +kernel
theorem dX5_clashes_5 : decode cX5_clashes 5 = .ok (.getfield 10, 3) := by decide +kernel
theorem dX5_clashes_8 : decode cX5_clashes 8 = .ok (.invokevirtual 107, 3) := by decide +kernel
theorem dX5_clashes_11 : decode cX5_clashes 11 = .ok (.goto 10, 3) := by decide +kernel
theorem dX5_clashes_14 : decode cX5_clashes 14 = .ok (.aload_n 0, 1) := by decide +kernel
theorem dX5_clashes_15 : decode cX5_clashes 15 = .ok (.getfield 10, 3) := by decide +kernel
theorem dX5_clashes_18 : decode cX5_clashes 18 = .ok (.invokevirtual 111, 3) := by decide +kernel
theorem dX5_clashes_21 : decode cX5_clashes 21 = .ok (.ireturn, 1) := by decide +kernel
set_option maxRecDepth 20000 in
theorem ggX5_clash_X5_requireSitter : GoodIn wsX5_clash wsX5_requireSitter := goodIn_ca (goodIn_r _ [6, 7, 8, 1, 9, 10, 11, 12, 13, 14, 33, 34, 35, 36, 37, 38, 39, 40, 41, 42, 43, 44, 45, 46, 47, 48, 49, 50] (by decide +kernel) (by decide +kernel)) (goodIn_sub (fun _ h => List.mem_cons_of_mem _ (List.mem_append_left _ (List.mem_append_right _ h))) (by decide +kernel))
set_option maxRecDepth 20000 in
theorem gX5_clash_X5_requireSitter : GoodIn wsX5_clash (wsV RX5 96 RX5 yX5_requireSitter wsX5_requireSitter) := goodIn_app (goodIn_of _ (by decide +kernel)) ggX5_clash_X5_requireSitter
set_option maxRecDepth 20000 in
theorem ggX5_clash_X3_areClashing : GoodIn wsX5_clash wsX3_areClashing := goodIn_ca (goodIn_r _ [18, 19, 20, 21, 12, 22, 23, 24, 25, 26, 27, 28, 29, 30, 31, 32, 43, 44, 45, 46, 47, 48, 49, 50] (by decide +kernel) (by decide +kernel)) (goodIn_sub (fun _ h => List.mem_cons_of_mem _ (List.mem_append_right _ h)) (by decide +kernel))
set_option maxRecDepth 20000 in
theorem gX5_clash_X3_areClashing : GoodIn wsX5_clash (wsV RX5 114 RX3 yX3_areClashing wsX3_areClashing) := goodIn_app (goodIn_of _ (by decide +kernel)) ggX5_clash_X3_areClashing
theorem dX5_clash_0 : decode cX5_clash 0 = .ok (.aload_n 0, 1) := by decide +kernel
theorem dX5_clash_1 : decode cX5_clash 1 = .ok (.iload_n 1, 1) := by decide +kernel
theorem dX5_clash_2 : decode cX5_clash 2 = .ok (.invokevirtual 96, 3) := by decide +kernel
theorem dX5_clash_5 : decode cX5_clash 5 = .ok (.aload_n 0, 1) := by decide +kernel
theorem dX5_clash_6 : decode cX5_clash 6 = .ok (.iload_n 2, 1) := by decide +kernel
theorem dX5_clash_7 : decode cX5_clash 7 = .ok (.invokevirtual 96, 3) := by decide +kernel
theorem dX5_clash_10 : decode cX5_clash 10 = .ok (.aload_n 0, 1) := by decide +kernel
theorem dX5_clash_11 : decode cX5_clash 11 = .ok (.getfield 10, 3) := by decide +kernel
theorem dX5_clash_14 : decode cX5_clash 14 = .ok (.iload_n 1, 1) := by decide +kernel
theorem dX5_clash_15 : decode cX5_clash 15 = .ok (.iload_n 2, 1) := by decide +kernel
theorem dX5_clash_16 : decode cX5_clash 16 = .ok (.invokevirtual 114, 3) := by decide +kernel
theorem dX5_clash_19 : decode cX5_clash 19 = .ok (.ireturn, 1) := by decide +kernel
set_option maxRecDepth 20000 in
theorem ggX5_brawl_X1_prepare : GoodIn wsX5_brawl wsX1_prepare := goodIn_r _ [7, 8, 9, 10, 11, 12, 13, 14, 15, 16, 17, 18, 19, 20, 21, 22, 23, 24, 25, 26, 27, 28, 29, 30, 31, 32, 33, 34, 122, 123, 124, 125, 126, 127, 128, 129, 130, 131, 132] (by decide +kernel) (by decide +kernel)
set_option maxRecDepth 20000 in
theorem gX5_brawl_X1_prepare : GoodIn wsX5_brawl (wsV RX5 57 RX1 yX1_prepare wsX1_prepare) := goodIn_app (goodIn_of _ (by decide +kernel)) ggX5_brawl_X1_prepare
set_option maxRecDepth 20000 in
theorem ggX5_brawl_X5_letBrawl : GoodIn wsX5_brawl wsX5_letBrawl := goodIn_ca (goodIn_r _ [39, 2, 40, 41, 42, 43, 44, 17, 45, 29, 46, 47, 48, 49, 50, 51, 52, 53, 19, 54, 55, 56, 38, 57, 58, 59, 60, 61, 62, 63, 30, 64, 65, 66, 67, 68, 69, 70, 71, 72, 73, 74, 75, 76, 77, 78, 79, 28, 80, 81, 82, 83, 84, 85, 86, 87, 88, 89, 90, 91, 92, 93, 94, 95, 112, 113, 114, 115, 116, 117, 118, 119, 120, 121, 125, 126, 127, 128, 129, 130, 131, 132] (by decide +kernel) (by decide +kernel)) (goodIn_sub (fun _ h => List.mem_cons_of_mem _ (List.mem_append_left _ (List.mem_append_left _ (List.mem_append_left _ (List.mem_append_right _ h))))) (by decide +kernel))
set_option maxRecDepth 20000 in
theorem gX5_brawl_X5_letBrawl : GoodIn wsX5_brawl (wsV RX5 118 RX5 yX5_letBrawl wsX5_letBrawl) := goodIn_app (goodIn_of _ (by decide +kernel)) ggX5_brawl_X5_letBrawl
set_option maxRecDepth 20000 in
theorem ggX5_brawl_X5_settled : GoodIn wsX5_brawl wsX5_settled := goodIn_ca (goodIn_ca (goodIn_ca (goodIn_r _ [99, 100, 101, 102, 103, 104, 105, 1, 106, 107, 108, 6, 109, 9, 110, 111, 21, 22, 23, 112, 113, 114, 115, 116, 117, 118, 119, 120, 121, 122, 123, 124] (by decide +kernel) (by decide +kernel)) (goodIn_sub (fun _ h => List.mem_cons_of_mem _ (List.mem_append_left _ (List.mem_append_left _ (List.mem_append_right _ h)))) (by decide +kernel))) (goodIn_sub (fun _ h => List.mem_cons_of_mem _ (List.mem_append_left _ (List.mem_append_right _ h))) (by decide +kernel))) (goodIn_sub (fun _ h => List.mem_cons_of_mem _ (List.mem_append_right _ h)) (by decide +kernel))
set_option maxRecDepth 20000 in
theorem gX5_brawl_X5_settled : GoodIn wsX5_brawl (wsV RX5 65 RX5 yX5_settled wsX5_settled) := goodIn_app (goodIn_of _ (by decide +kernel)) ggX5_brawl_X5_settled
theorem dX5_brawl_0 : decode cX5_brawl 0 = .ok (.aload_n 0, 1) := by decide +kernel
theorem dX5_brawl_1 : decode cX5_brawl 1 = .ok (.getfield 25, 3) := by decide +kernel
theorem dX5_brawl_4 : decode cX5_brawl 4 = .ok (.aload_n 0, 1) := by decide +kernel
theorem dX5_brawl_5 : decode cX5_brawl 5 = .ok (.getfield 10, 3) := by decide +kernel
theorem dX5_brawl_8 : decode cX5_brawl 8 = .ok (.invokevirtual 57, 3) := by decide +kernel
theorem dX5_brawl_11 : decode cX5_brawl 11 = .ok (.aload_n 0, 1) := by decide +kernel
theorem dX5_brawl_12 : decode cX5_brawl 12 = .ok (.aload_n 0, 1) := by decide +kernel
theorem dX5_brawl_13 : decode cX5_brawl 13 = .ok (.iload_n 1, 1) := by decide +kernel
theorem dX5_brawl_14 : decode cX5_brawl 14 = .ok (.iload_n 2, 1) := by decide +kernel
theorem dX5_brawl_15 : decode cX5_brawl 15 = .ok (.invokevirtual 118, 3) := by decide +kernel
theorem dX5_brawl_18 : decode cX5_brawl 18 = .ok (.invokevirtual 65, 3) := by decide +kernel
theorem dX5_brawl_21 : decode cX5_brawl 21 = .ok (.ireturn, 1) := by decide +kernel
set_option maxRecDepth 20000 in
theorem ggX5_wouldMove_X3_copy : GoodIn wsX5_wouldMove wsX3_copy := goodIn_r _ [8, 9, 10, 11, 12, 13, 14, 15, 16, 17, 18, 19, 20, 21, 22, 23, 24, 75, 76, 77, 78, 79, 80, 81, 82] (by decide +kernel) (by decide +kernel)
set_option maxRecDepth 20000 in
theorem gX5_wouldMove_X3_copy : GoodIn wsX5_wouldMove (wsV RX5 121 RX3 yX3_copy wsX3_copy) := goodIn_app (goodIn_of _ (by decide +kernel)) ggX5_wouldMove_X3_copy
set_option maxRecDepth 20000 in
theorem ggX5_wouldMove_X3_seatAnew : GoodIn wsX5_wouldMove wsX3_seatAnew := goodIn_ca (goodIn_r _ [28, 19, 20, 29, 30, 31, 7, 32, 9, 33, 34, 35, 36, 37, 38, 39, 40, 41, 42, 43, 44, 18, 45, 46, 47, 48, 49, 50, 51, 52, 53, 54, 55, 56, 57, 58, 59, 60, 61, 62, 63, 64, 75, 76, 77, 78, 79, 80, 81, 82] (by decide +kernel) (by decide +kernel)) (goodIn_sub (fun _ h => List.mem_cons_of_mem _ (List.mem_append_right _ h)) (by decide +kernel))
set_option maxRecDepth 20000 in
theorem gX5_wouldMove_X3_seatAnew : GoodIn wsX5_wouldMove (wsV RX5 127 RX3 yX3_seatAnew wsX3_seatAnew) := goodIn_app (goodIn_of _ (by decide +kernel)) ggX5_wouldMove_X3_seatAnew
theorem dX5_wouldMove_0 : decode cX5_wouldMove 0 = .ok (.aload_n 0, 1) := by decide +kernel
theorem dX5_wouldMove_1 : decode cX5_wouldMove 1 = .ok (.getfield 16, 3) := by decide +kernel
theorem dX5_wouldMove_4 : decode cX5_wouldMove 4 = .ok (.aload_n 0, 1) := by decide +kernel
theorem dX5_wouldMove_5 : decode cX5_wouldMove 5 = .ok (.getfield 10, 3) := by decide +kernel
theorem dX5_wouldMove_8 : decode cX5_wouldMove 8 = .ok (.invokevirtual 121, 3) := by decide +kernel
theorem dX5_wouldMove_11 : decode cX5_wouldMove 11 = .ok (.aload_n 0, 1) := by decide +kernel
theorem dX5_wouldMove_12 : decode cX5_wouldMove 12 = .ok (.getfield 16, 3) := by decide +kernel
theorem dX5_wouldMove_15 : decode cX5_wouldMove 15 = .ok (.iconst 0, 1) := by decide +kernel
theorem dX5_wouldMove_16 : decode cX5_wouldMove 16 = .ok (.aload_n 0, 1) := by decide +kernel
theorem dX5_wouldMove_17 : decode cX5_wouldMove 17 = .ok (.getfield 10, 3) := by decide +kernel
theorem dX5_wouldMove_20 : decode cX5_wouldMove 20 = .ok (.getfield 124, 3) := by decide +kernel
theorem dX5_wouldMove_23 : decode cX5_wouldMove 23 = .ok (.iconst 1, 1) := by decide +kernel
theorem dX5_wouldMove_24 : decode cX5_wouldMove 24 = .ok (.isub, 1) := by decide +kernel
theorem dX5_wouldMove_25 : decode cX5_wouldMove 25 = .ok (.invokevirtual 127, 3) := by decide +kernel
theorem dX5_wouldMove_28 : decode cX5_wouldMove 28 = .ok (.ireturn, 1) := by decide +kernel
set_option maxRecDepth 20000 in
theorem ggX5_swap_X1_prepare : GoodIn wsX5_swap wsX1_prepare := goodIn_r _ [7, 8, 9, 10, 11, 12, 13, 14, 15, 16, 17, 18, 19, 20, 21, 22, 23, 24, 25, 26, 27, 28, 29, 30, 31, 32, 33, 34, 118, 119, 120, 121, 122, 123, 124, 125, 126, 127, 128] (by decide +kernel) (by decide +kernel)
set_option maxRecDepth 20000 in
theorem gX5_swap_X1_prepare : GoodIn wsX5_swap (wsV RX5 57 RX1 yX1_prepare wsX1_prepare) := goodIn_app (goodIn_of _ (by decide +kernel)) ggX5_swap_X1_prepare
set_option maxRecDepth 20000 in
theorem ggX5_swap_X5_letSwap : GoodIn wsX5_swap wsX5_letSwap := goodIn_ca (goodIn_r _ [39, 2, 40, 41, 42, 17, 43, 30, 44, 45, 46, 47, 48, 49, 50, 51, 28, 52, 53, 54, 38, 55, 56, 57, 58, 59, 60, 61, 62, 63, 64, 65, 66, 19, 67, 68, 69, 70, 71, 72, 73, 74, 75, 76, 77, 78, 79, 80, 81, 82, 83, 84, 85, 86, 87, 88, 89, 90, 91, 108, 109, 110, 111, 112, 113, 114, 115, 116, 117, 121, 122, 123, 124, 125, 126, 127, 128] (by decide +kernel) (by decide +kernel)) (goodIn_sub (fun _ h => List.mem_cons_of_mem _ (List.mem_append_left _ (List.mem_append_left _ (List.mem_append_left _ (List.mem_append_right _ h))))) (by decide +kernel))
set_option maxRecDepth 20000 in
theorem gX5_swap_X5_letSwap : GoodIn wsX5_swap (wsV RX5 130 RX5 yX5_letSwap wsX5_letSwap) := goodIn_app (goodIn_of _ (by decide +kernel)) ggX5_swap_X5_letSwap
set_option maxRecDepth 20000 in
theorem ggX5_swap_X5_settled : GoodIn wsX5_swap wsX5_settled := goodIn_ca (goodIn_ca (goodIn_ca (goodIn_r _ [95, 96, 97, 98, 99, 100, 101, 1, 102, 103, 104, 6, 105, 9, 106, 107, 21, 22, 23, 108, 109, 110, 111, 112, 113, 114, 115, 116, 117, 118, 119, 120] (by decide +kernel) (by decide +kernel)) (goodIn_sub (fun _ h => List.mem_cons_of_mem _ (List.mem_append_left _ (List.mem_append_left _ (List.mem_append_right _ h)))) (by decide +kernel))) (goodIn_sub (fun _ h => List.mem_cons_of_mem _ (List.mem_append_left _ (List.mem_append_right _ h))) (by decide +kernel))) (goodIn_sub (fun _ h => List.mem_cons_of_mem _ (List.mem_append_right _ h)) (by decide +kernel))
set_option maxRecDepth 20000 in
theorem gX5_swap_X5_settled : GoodIn wsX5_swap (wsV RX5 65 RX5 yX5_settled wsX5_settled) := goodIn_app (goodIn_of _ (by decide +kernel)) ggX5_swap_X5_settled
theorem dX5_swap_0 : decode cX5_swap 0 = .ok (.aload_n 0, 1) := by decide +kernel
theorem dX5_swap_1 : decode cX5_swap 1 = .ok (.getfield 25, 3) := by decide +kernel
theorem dX5_swap_4 : decode cX5_swap 4 = .ok (.aload_n 0, 1) := by decide +kernel
theorem dX5_swap_5 : decode cX5_swap 5 = .ok (.getfield 10, 3) := by decide +kernel
theorem dX5_swap_8 : decode cX5_swap 8 = .ok (.invokevirtual 57, 3) := by decide +kernel
theorem dX5_swap_11 : decode cX5_swap 11 = .ok (.aload_n 0, 1) := by decide +kernel
theorem dX5_swap_12 : decode cX5_swap 12 = .ok (.aload_n 0, 1) := by decide +kernel
theorem dX5_swap_13 : decode cX5_swap 13 = .ok (.iload_n 1, 1) := by decide +kernel
theorem dX5_swap_14 : decode cX5_swap 14 = .ok (.iload_n 2, 1) := by decide +kernel
theorem dX5_swap_15 : decode cX5_swap 15 = .ok (.invokevirtual 130, 3) := by decide +kernel
theorem dX5_swap_18 : decode cX5_swap 18 = .ok (.invokevirtual 65, 3) := by decide +kernel
theorem dX5_swap_21 : decode cX5_swap 21 = .ok (.ireturn, 1) := by decide +kernel
set_option maxRecDepth 20000 in
theorem ggX5_bestSwap_X5_bestPair : GoodIn wsX5_bestSwap wsX5_bestPair := goodIn_ca (goodIn_r _ [7, 8, 9, 10, 11, 12, 13, 14, 15, 16, 17, 18, 19, 20, 21, 22, 23, 24, 25, 26, 27, 28, 29, 30, 31, 32, 33, 34, 35, 36, 37, 38, 39, 40, 41, 42, 43, 44, 45, 46, 47, 48, 49, 50, 51, 52, 53, 54, 55, 56, 57, 58, 59, 60, 61, 62, 63, 64, 65, 66, 67, 68, 69, 70, 71, 72, 73, 74, 75, 76, 77, 78, 79, 80, 81, 82, 83, 84, 85, 86, 87, 88, 89, 90, 91, 92, 93] (by decide +kernel) (by decide +kernel)) (goodIn_sub (fun _ h => List.mem_cons_of_mem _ (List.mem_append_right _ h)) (by decide +kernel))
set_option maxRecDepth 20000 in
theorem gX5_bestSwap_X5_bestPair : GoodIn wsX5_bestSwap (wsV RX5 133 RX5 yX5_bestPair wsX5_bestPair) := goodIn_app (goodIn_of _ (by decide +kernel)) ggX5_bestSwap_X5_bestPair
theorem dX5_bestSwap_0 : decode cX5_bestSwap 0 = .ok (.aload_n 0, 1) := by decide +kernel
theorem dX5_bestSwap_1 : decode cX5_bestSwap 1 = .ok (.invokevirtual 133, 3) := by decide +kernel
theorem dX5_bestSwap_4 : decode cX5_bestSwap 4 = .ok (.istore_n 2, 1) := by decide +kernel
theorem dX5_bestSwap_5 : decode cX5_bestSwap 5 = .ok (.iload_n 2, 1) := by decide +kernel
theorem dX5_bestSwap_6 : decode cX5_bestSwap 6 = .ok (.iconst (-1), 1) := by decide +kernel
theorem dX5_bestSwap_7 : decode cX5_bestSwap 7 = .ok (.if_icmp .ne 13, 3) := by decide +kernel
theorem dX5_bestSwap_10 : decode cX5_bestSwap 10 = .ok (.new 136, 3) := by decide +kernel
theorem dX5_bestSwap_13 : decode cX5_bestSwap 13 = .ok (.dup, 1) := by decide +kernel
theorem dX5_bestSwap_14 : decode cX5_bestSwap 14 = .ok (.ldc 138, 2) := by decide +kernel
theorem dX5_bestSwap_16 : decode cX5_bestSwap 16 = .ok (.invokespecial 140, 3) := by decide +kernel
theorem dX5_bestSwap_19 : decode cX5_bestSwap 19 = .ok (.athrow, 1) := by decide +kernel
theorem dX5_bestSwap_20 : decode cX5_bestSwap 20 = .ok (.iload_n 1, 1) := by decide +kernel
theorem dX5_bestSwap_21 : decode cX5_bestSwap 21 = .ok (.ifCond .eq 10, 3) := by decide +kernel
theorem dX5_bestSwap_24 : decode cX5_bestSwap 24 = .ok (.iload_n 2, 1) := by decide +kernel
theorem dX5_bestSwap_25 : decode cX5_bestSwap 25 = .ok (.bipush 12, 2) := by decide +kernel
theorem dX5_bestSwap_27 : decode cX5_bestSwap 27 = .ok (.irem, 1) := by decide +kernel
theorem dX5_bestSwap_28 : decode cX5_bestSwap 28 = .ok (.goto 7, 3) := by decide +kernel
theorem dX5_bestSwap_31 : decode cX5_bestSwap 31 = .ok (.iload_n 2, 1) := by decide +kernel
theorem dX5_bestSwap_32 : decode cX5_bestSwap 32 = .ok (.bipush 12, 2) := by decide +kernel
theorem dX5_bestSwap_34 : decode cX5_bestSwap 34 = .ok (.idiv, 1) := by decide +kernel
theorem dX5_bestSwap_35 : decode cX5_bestSwap 35 = .ok (.ireturn, 1) := by decide +kernel
set_option maxRecDepth 20000 in
theorem ggX5_coin_X1_prepare : GoodIn wsX5_coin wsX1_prepare := goodIn_r _ [7, 8, 9, 10, 11, 12, 13, 14, 15, 16, 17, 18, 19, 20, 21, 22, 23, 24, 25, 26, 27, 28, 29, 30, 31, 32, 33, 34, 94, 95, 96, 97, 98, 99, 100, 101, 102, 103, 104] (by decide +kernel) (by decide +kernel)
set_option maxRecDepth 20000 in
theorem gX5_coin_X1_prepare : GoodIn wsX5_coin (wsV RX5 57 RX1 yX1_prepare wsX1_prepare) := goodIn_app (goodIn_of _ (by decide +kernel)) ggX5_coin_X1_prepare
set_option maxRecDepth 20000 in
theorem ggX5_coin_X5_putCoin : GoodIn wsX5_coin wsX5_putCoin := goodIn_ca (goodIn_r _ [39, 2, 40, 41, 42, 43, 17, 44, 29, 45, 46, 47, 48, 49, 50, 51, 52, 19, 53, 54, 55, 38, 56, 57, 58, 59, 60, 61, 62, 63, 31, 64, 65, 66, 67, 84, 85, 86, 87, 88, 89, 90, 91, 92, 93, 97, 98, 99, 100, 101, 102, 103, 104] (by decide +kernel) (by decide +kernel)) (goodIn_sub (fun _ h => List.mem_cons_of_mem _ (List.mem_append_left _ (List.mem_append_left _ (List.mem_append_left _ (List.mem_append_right _ h))))) (by decide +kernel))
set_option maxRecDepth 20000 in
theorem gX5_coin_X5_putCoin : GoodIn wsX5_coin (wsV RX5 141 RX5 yX5_putCoin wsX5_putCoin) := goodIn_app (goodIn_of _ (by decide +kernel)) ggX5_coin_X5_putCoin
set_option maxRecDepth 20000 in
theorem ggX5_coin_X5_settled : GoodIn wsX5_coin wsX5_settled := goodIn_ca (goodIn_ca (goodIn_ca (goodIn_r _ [71, 72, 73, 74, 75, 76, 77, 1, 78, 79, 80, 6, 81, 9, 82, 83, 21, 22, 23, 84, 85, 86, 87, 88, 89, 90, 91, 92, 93, 94, 95, 96] (by decide +kernel) (by decide +kernel)) (goodIn_sub (fun _ h => List.mem_cons_of_mem _ (List.mem_append_left _ (List.mem_append_left _ (List.mem_append_right _ h)))) (by decide +kernel))) (goodIn_sub (fun _ h => List.mem_cons_of_mem _ (List.mem_append_left _ (List.mem_append_right _ h))) (by decide +kernel))) (goodIn_sub (fun _ h => List.mem_cons_of_mem _ (List.mem_append_right _ h)) (by decide +kernel))
set_option maxRecDepth 20000 in
theorem gX5_coin_X5_settled : GoodIn wsX5_coin (wsV RX5 65 RX5 yX5_settled wsX5_settled) := goodIn_app (goodIn_of _ (by decide +kernel)) ggX5_coin_X5_settled
theorem dX5_coin_0 : decode cX5_coin 0 = .ok (.aload_n 0, 1) := by decide +kernel
theorem dX5_coin_1 : decode cX5_coin 1 = .ok (.getfield 25, 3) := by decide +kernel
theorem dX5_coin_4 : decode cX5_coin 4 = .ok (.aload_n 0, 1) := by decide +kernel
theorem dX5_coin_5 : decode cX5_coin 5 = .ok (.getfield 10, 3) := by decide +kernel
theorem dX5_coin_8 : decode cX5_coin 8 = .ok (.invokevirtual 57, 3) := by decide +kernel
theorem dX5_coin_11 : decode cX5_coin 11 = .ok (.aload_n 0, 1) := by decide +kernel
theorem dX5_coin_12 : decode cX5_coin 12 = .ok (.aload_n 0, 1) := by decide +kernel
theorem dX5_coin_13 : decode cX5_coin 13 = .ok (.iload_n 1, 1) := by decide +kernel
theorem dX5_coin_14 : decode cX5_coin 14 = .ok (.invokevirtual 141, 3) := by decide +kernel
theorem dX5_coin_17 : decode cX5_coin 17 = .ok (.invokevirtual 65, 3) := by decide +kernel
theorem dX5_coin_20 : decode cX5_coin 20 = .ok (.ireturn, 1) := by decide +kernel
set_option maxRecDepth 20000 in
theorem ggX5_takeCoin_X1_prepare : GoodIn wsX5_takeCoin wsX1_prepare := goodIn_r _ [7, 8, 9, 10, 11, 12, 13, 14, 15, 16, 17, 18, 19, 20, 21, 22, 23, 24, 25, 26, 27, 28, 29, 30, 31, 32, 33, 34, 89, 90, 91, 92, 93, 94, 95, 96, 97, 98, 99] (by decide +kernel) (by decide +kernel)
set_option maxRecDepth 20000 in
theorem gX5_takeCoin_X1_prepare : GoodIn wsX5_takeCoin (wsV RX5 57 RX1 yX1_prepare wsX1_prepare) := goodIn_app (goodIn_of _ (by decide +kernel)) ggX5_takeCoin_X1_prepare
set_option maxRecDepth 20000 in
theorem ggX5_takeCoin_X5_takeCoinBack : GoodIn wsX5_takeCoin wsX5_takeCoinBack := goodIn_ca (goodIn_r _ [39, 2, 40, 41, 42, 17, 43, 29, 44, 45, 46, 47, 19, 48, 49, 50, 38, 51, 52, 53, 54, 55, 56, 57, 20, 21, 22, 23, 31, 58, 59, 60, 61, 62, 79, 80, 81, 82, 83, 84, 85, 86, 87, 88, 92, 93, 94, 95, 96, 97, 98, 99] (by decide +kernel) (by decide +kernel)) (goodIn_sub (fun _ h => List.mem_cons_of_mem _ (List.mem_append_left _ (List.mem_append_left _ (List.mem_append_left _ (List.mem_append_right _ h))))) (by decide +kernel))
set_option maxRecDepth 20000 in
theorem gX5_takeCoin_X5_takeCoinBack : GoodIn wsX5_takeCoin (wsV RX5 144 RX5 yX5_takeCoinBack wsX5_takeCoinBack) := goodIn_app (goodIn_of _ (by decide +kernel)) ggX5_takeCoin_X5_takeCoinBack
set_option maxRecDepth 20000 in
theorem ggX5_takeCoin_X5_settled : GoodIn wsX5_takeCoin wsX5_settled := goodIn_ca (goodIn_ca (goodIn_ca (goodIn_r _ [66, 67, 68, 69, 70, 71, 72, 1, 73, 74, 75, 6, 76, 9, 77, 78, 21, 22, 23, 79, 80, 81, 82, 83, 84, 85, 86, 87, 88, 89, 90, 91] (by decide +kernel) (by decide +kernel)) (goodIn_sub (fun _ h => List.mem_cons_of_mem _ (List.mem_append_left _ (List.mem_append_left _ (List.mem_append_right _ h)))) (by decide +kernel))) (goodIn_sub (fun _ h => List.mem_cons_of_mem _ (List.mem_append_left _ (List.mem_append_right _ h))) (by decide +kernel))) (goodIn_sub (fun _ h => List.mem_cons_of_mem _ (List.mem_append_right _ h)) (by decide +kernel))
set_option maxRecDepth 20000 in
theorem gX5_takeCoin_X5_settled : GoodIn wsX5_takeCoin (wsV RX5 65 RX5 yX5_settled wsX5_settled) := goodIn_app (goodIn_of _ (by decide +kernel)) ggX5_takeCoin_X5_settled
theorem dX5_takeCoin_0 : decode cX5_takeCoin 0 = .ok (.aload_n 0, 1) := by decide +kernel
theorem dX5_takeCoin_1 : decode cX5_takeCoin 1 = .ok (.getfield 25, 3) := by decide +kernel
theorem dX5_takeCoin_4 : decode cX5_takeCoin 4 = .ok (.aload_n 0, 1) := by decide +kernel
theorem dX5_takeCoin_5 : decode cX5_takeCoin 5 = .ok (.getfield 10, 3) := by decide +kernel
theorem dX5_takeCoin_8 : decode cX5_takeCoin 8 = .ok (.invokevirtual 57, 3) := by decide +kernel
theorem dX5_takeCoin_11 : decode cX5_takeCoin 11 = .ok (.aload_n 0, 1) := by decide +kernel
theorem dX5_takeCoin_12 : decode cX5_takeCoin 12 = .ok (.aload_n 0, 1) := by decide +kernel
theorem dX5_takeCoin_13 : decode cX5_takeCoin 13 = .ok (.iload_n 1, 1) := by decide +kernel
theorem dX5_takeCoin_14 : decode cX5_takeCoin 14 = .ok (.invokevirtual 144, 3) := by decide +kernel
theorem dX5_takeCoin_17 : decode cX5_takeCoin 17 = .ok (.invokevirtual 65, 3) := by decide +kernel
theorem dX5_takeCoin_20 : decode cX5_takeCoin 20 = .ok (.ireturn, 1) := by decide +kernel
set_option maxRecDepth 20000 in
theorem ggX5_tilt_X5_requireStool : GoodIn wsX5_tilt wsX5_requireStool := goodIn_ca (goodIn_r _ [6, 7, 8, 1, 9, 10, 11, 12, 13, 14, 24, 25, 26, 27, 28, 29, 30, 31, 32, 33, 34, 35, 36, 37, 38, 39, 40, 41] (by decide +kernel) (by decide +kernel)) (goodIn_sub (fun _ h => List.mem_cons_of_mem _ (List.mem_append_left _ (List.mem_append_right _ h))) (by decide +kernel))
set_option maxRecDepth 20000 in
theorem gX5_tilt_X5_requireStool : GoodIn wsX5_tilt (wsV RX5 82 RX5 yX5_requireStool wsX5_requireStool) := goodIn_app (goodIn_of _ (by decide +kernel)) ggX5_tilt_X5_requireStool
set_option maxRecDepth 20000 in
theorem ggX5_tilt_X3_tiltAt : GoodIn wsX5_tilt wsX3_tiltAt := goodIn_ca (goodIn_r _ [18, 19, 20, 21, 12, 22, 23, 34, 35, 36, 37, 38, 39, 40, 41] (by decide +kernel) (by decide +kernel)) (goodIn_sub (fun _ h => List.mem_cons_of_mem _ (List.mem_append_right _ h)) (by decide +kernel))
set_option maxRecDepth 20000 in
theorem gX5_tilt_X3_tiltAt : GoodIn wsX5_tilt (wsV RX5 147 RX3 yX3_tiltAt wsX3_tiltAt) := goodIn_app (goodIn_of _ (by decide +kernel)) ggX5_tilt_X3_tiltAt
theorem dX5_tilt_0 : decode cX5_tilt 0 = .ok (.aload_n 0, 1) := by decide +kernel
theorem dX5_tilt_1 : decode cX5_tilt 1 = .ok (.iload_n 1, 1) := by decide +kernel
theorem dX5_tilt_2 : decode cX5_tilt 2 = .ok (.invokevirtual 82, 3) := by decide +kernel
theorem dX5_tilt_5 : decode cX5_tilt 5 = .ok (.aload_n 0, 1) := by decide +kernel
theorem dX5_tilt_6 : decode cX5_tilt 6 = .ok (.getfield 10, 3) := by decide +kernel
theorem dX5_tilt_9 : decode cX5_tilt 9 = .ok (.iload_n 1, 1) := by decide +kernel
theorem dX5_tilt_10 : decode cX5_tilt 10 = .ok (.invokevirtual 147, 3) := by decide +kernel
theorem dX5_tilt_13 : decode cX5_tilt 13 = .ok (.freturn, 1) := by decide +kernel
set_option maxRecDepth 20000 in
theorem ggX5_tiltBits_X5_requireStool : GoodIn wsX5_tiltBits wsX5_requireStool := goodIn_ca (goodIn_r _ [6, 7, 8, 1, 9, 10, 11, 12, 13, 14, 31, 32, 33, 34, 35, 36, 37, 38, 39, 40, 41, 42, 43, 44, 45, 46, 47, 48] (by decide +kernel) (by decide +kernel)) (goodIn_sub (fun _ h => List.mem_cons_of_mem _ (List.mem_append_left _ (List.mem_append_right _ h))) (by decide +kernel))
set_option maxRecDepth 20000 in
theorem gX5_tiltBits_X5_requireStool : GoodIn wsX5_tiltBits (wsV RX5 82 RX5 yX5_requireStool wsX5_requireStool) := goodIn_app (goodIn_of _ (by decide +kernel)) ggX5_tiltBits_X5_requireStool
set_option maxRecDepth 20000 in
theorem ggX5_tiltBits_X3_tiltAt : GoodIn wsX5_tiltBits wsX3_tiltAt := goodIn_ca (goodIn_r _ [18, 19, 20, 21, 12, 22, 23, 41, 42, 43, 44, 45, 46, 47, 48] (by decide +kernel) (by decide +kernel)) (goodIn_sub (fun _ h => List.mem_cons_of_mem _ (List.mem_append_right _ h)) (by decide +kernel))
set_option maxRecDepth 20000 in
theorem gX5_tiltBits_X3_tiltAt : GoodIn wsX5_tiltBits (wsV RX5 147 RX3 yX3_tiltAt wsX3_tiltAt) := goodIn_app (goodIn_of _ (by decide +kernel)) ggX5_tiltBits_X3_tiltAt
set_option maxRecDepth 20000 in
theorem ggX5_tiltBits_X0_toBits : GoodIn wsX5_tiltBits wsX0_toBits := goodIn_r _ [27, 28, 29, 30] (by decide +kernel) (by decide +kernel)
set_option maxRecDepth 20000 in
theorem gX5_tiltBits_X0_toBits : GoodIn wsX5_tiltBits (va_wsS RX5 151 yX0_toBits wsX0_toBits) := goodIn_app (goodIn_of _ (by decide +kernel)) ggX5_tiltBits_X0_toBits
theorem dX5_tiltBits_0 : decode cX5_tiltBits 0 = .ok (.aload_n 0, 1) := by decide +kernel
theorem dX5_tiltBits_1 : decode cX5_tiltBits 1 = .ok (.iload_n 1, 1) := by decide +kernel
theorem dX5_tiltBits_2 : decode cX5_tiltBits 2 = .ok (.invokevirtual 82, 3) := by decide +kernel
theorem dX5_tiltBits_5 : decode cX5_tiltBits 5 = .ok (.aload_n 0, 1) := by decide +kernel
theorem dX5_tiltBits_6 : decode cX5_tiltBits 6 = .ok (.getfield 10, 3) := by decide +kernel
theorem dX5_tiltBits_9 : decode cX5_tiltBits 9 = .ok (.iload_n 1, 1) := by decide +kernel
theorem dX5_tiltBits_10 : decode cX5_tiltBits 10 = .ok (.invokevirtual 147, 3) := by decide +kernel
theorem dX5_tiltBits_13 : decode cX5_tiltBits 13 = .ok (.invokestatic 151, 3) := by decide +kernel
theorem dX5_tiltBits_16 : decode cX5_tiltBits 16 = .ok (.ireturn, 1) := by decide +kernel
set_option maxRecDepth 20000 in
theorem ggX5_plusTilt_X5_requireStool : GoodIn wsX5_plusTilt wsX5_requireStool := goodIn_ca (goodIn_r _ [9, 10, 11, 4, 12, 13, 14, 15, 16, 17, 38, 39, 40, 41, 42, 43, 44, 45, 46, 47, 48, 49, 50, 51, 52, 53, 54, 55] (by decide +kernel) (by decide +kernel)) (goodIn_sub (fun _ h => List.mem_cons_of_mem _ (List.mem_append_left _ (List.mem_append_right _ h))) (by decide +kernel))
set_option maxRecDepth 20000 in
theorem gX5_plusTilt_X5_requireStool : GoodIn wsX5_plusTilt (wsV RX5 82 RX5 yX5_requireStool wsX5_requireStool) := goodIn_app (goodIn_of _ (by decide +kernel)) ggX5_plusTilt_X5_requireStool
set_option maxRecDepth 20000 in
theorem ggX5_plusTilt_X0_fromBits : GoodIn wsX5_plusTilt wsX0_fromBits := goodIn_r _ [21, 22, 23, 24] (by decide +kernel) (by decide +kernel)
set_option maxRecDepth 20000 in
theorem gX5_plusTilt_X0_fromBits : GoodIn wsX5_plusTilt (va_wsS RX5 160 yX0_fromBits wsX0_fromBits) := goodIn_app (goodIn_of _ (by decide +kernel)) ggX5_plusTilt_X0_fromBits
set_option maxRecDepth 20000 in
theorem ggX5_plusTilt_X3_tiltAt : GoodIn wsX5_plusTilt wsX3_tiltAt := goodIn_ca (goodIn_r _ [28, 29, 30, 31, 15, 32, 33, 48, 49, 50, 51, 52, 53, 54, 55] (by decide +kernel) (by decide +kernel)) (goodIn_sub (fun _ h => List.mem_cons_of_mem _ (List.mem_append_right _ h)) (by decide +kernel))
set_option maxRecDepth 20000 in
theorem gX5_plusTilt_X3_tiltAt : GoodIn wsX5_plusTilt (wsV RX5 147 RX3 yX3_tiltAt wsX3_tiltAt) := goodIn_app (goodIn_of _ (by decide +kernel)) ggX5_plusTilt_X3_tiltAt
set_option maxRecDepth 20000 in
theorem ggX5_plusTilt_X0_toBits : GoodIn wsX5_plusTilt wsX0_toBits := goodIn_r _ [36, 24, 37, 23] (by decide +kernel) (by decide +kernel)
set_option maxRecDepth 20000 in
theorem gX5_plusTilt_X0_toBits : GoodIn wsX5_plusTilt (va_wsS RX5 151 yX0_toBits wsX0_toBits) := goodIn_app (goodIn_of _ (by decide +kernel)) ggX5_plusTilt_X0_toBits
theorem dX5_plusTilt_0 : decode cX5_plusTilt 0 = .ok (.aload_n 0, 1) := by decide +kernel
theorem dX5_plusTilt_1 : decode cX5_plusTilt 1 = .ok (.iload_n 2, 1) := by decide +kernel
theorem dX5_plusTilt_2 : decode cX5_plusTilt 2 = .ok (.invokevirtual 82, 3) := by decide +kernel
theorem dX5_plusTilt_5 : decode cX5_plusTilt 5 = .ok (.iload_n 1, 1) := by decide +kernel
theorem dX5_plusTilt_6 : decode cX5_plusTilt 6 = .ok (.ifCond .lt 9, 3) := by decide +kernel
theorem dX5_plusTilt_9 : decode cX5_plusTilt 9 = .ok (.iload_n 1, 1) := by decide +kernel
theorem dX5_plusTilt_10 : decode cX5_plusTilt 10 = .ok (.ldc 157, 2) := by decide +kernel
theorem dX5_plusTilt_12 : decode cX5_plusTilt 12 = .ok (.if_icmp .le 13, 3) := by decide +kernel
theorem dX5_plusTilt_15 : decode cX5_plusTilt 15 = .ok (.new 86, 3) := by decide +kernel
theorem dX5_plusTilt_18 : decode cX5_plusTilt 18 = .ok (.dup, 1) := by decide +kernel
theorem dX5_plusTilt_19 : decode cX5_plusTilt 19 = .ok (.ldc 158, 2) := by decide +kernel
theorem dX5_plusTilt_21 : decode cX5_plusTilt 21 = .ok (.invokespecial 90, 3) := by decide +kernel
theorem dX5_plusTilt_24 : decode cX5_plusTilt 24 = .ok (.athrow, 1) := by decide +kernel
theorem dX5_plusTilt_25 : decode cX5_plusTilt 25 = .ok (.iload_n 1, 1) := by decide +kernel
theorem dX5_plusTilt_26 : decode cX5_plusTilt 26 = .ok (.invokestatic 160, 3) := by decide +kernel
theorem dX5_plusTilt_29 : decode cX5_plusTilt 29 = .ok (.aload_n 0, 1) := by decide +kernel
theorem dX5_plusTilt_30 : decode cX5_plusTilt 30 = .ok (.getfield 10, 3) := by decide +kernel
theorem dX5_plusTilt_33 : decode cX5_plusTilt 33 = .ok (.iload_n 2, 1) := by decide +kernel
theorem dX5_plusTilt_34 : decode cX5_plusTilt 34 = .ok (.invokevirtual 147, 3) := by decide +kernel
theorem dX5_plusTilt_37 : decode cX5_plusTilt 37 = .ok (.fadd, 1) := by decide +kernel
theorem dX5_plusTilt_38 : decode cX5_plusTilt 38 = .ok (.invokestatic 151, 3) := by decide +kernel
theorem dX5_plusTilt_41 : decode cX5_plusTilt 41 = .ok (.ireturn, 1) := by decide +kernel
set_option maxRecDepth 20000 in
theorem ggX5_noiseOf_X5_requireSitter : GoodIn wsX5_noiseOf wsX5_requireSitter := goodIn_ca (goodIn_r _ [6, 7, 8, 1, 9, 10, 11, 12, 13, 14, 34, 35, 36, 37, 38, 39, 40, 41, 42, 43, 44, 45, 46, 47, 48, 49, 50, 51] (by decide +kernel) (by decide +kernel)) (goodIn_sub (fun _ h => List.mem_cons_of_mem _ (List.mem_append_left _ (List.mem_append_right _ h))) (by decide +kernel))
set_option maxRecDepth 20000 in
theorem gX5_noiseOf_X5_requireSitter : GoodIn wsX5_noiseOf (wsV RX5 96 RX5 yX5_requireSitter wsX5_requireSitter) := goodIn_app (goodIn_of _ (by decide +kernel)) ggX5_noiseOf_X5_requireSitter
set_option maxRecDepth 20000 in
theorem ggX5_noiseOf_X3_ofSitter : GoodIn wsX5_noiseOf wsX3_ofSitter := goodIn_ca (goodIn_r _ [18, 19, 44, 45, 46, 47, 48, 49, 50, 51] (by decide +kernel) (by decide +kernel)) (goodIn_sub (fun _ h => List.mem_cons_of_mem _ (List.mem_append_right _ h)) (by decide +kernel))
set_option maxRecDepth 20000 in
theorem gX5_noiseOf_X3_ofSitter : GoodIn wsX5_noiseOf (wsV RX5 99 RX3 yX3_ofSitter wsX3_ofSitter) := goodIn_app (goodIn_of _ (by decide +kernel)) ggX5_noiseOf_X3_ofSitter
set_option maxRecDepth 20000 in
theorem ggX5_noiseOf_X3_noiseAt : GoodIn wsX5_noiseOf wsX3_noiseAt := goodIn_ca (goodIn_r _ [23, 24, 25, 26, 12, 27, 28, 29, 30, 31, 32, 33, 16, 17, 18, 19, 44, 45, 46, 47, 48, 49, 50, 51] (by decide +kernel) (by decide +kernel)) (goodIn_sub (fun _ h => List.mem_cons_of_mem _ (List.mem_append_right _ h)) (by decide +kernel))
set_option maxRecDepth 20000 in
theorem gX5_noiseOf_X3_noiseAt : GoodIn wsX5_noiseOf (wsV RX5 163 RX3 yX3_noiseAt wsX3_noiseAt) := goodIn_app (goodIn_of _ (by decide +kernel)) ggX5_noiseOf_X3_noiseAt
theorem dX5_noiseOf_0 : decode cX5_noiseOf 0 = .ok (.aload_n 0, 1) := by decide +kernel
theorem dX5_noiseOf_1 : decode cX5_noiseOf 1 = .ok (.iload_n 1, 1) := by decide +kernel
theorem dX5_noiseOf_2 : decode cX5_noiseOf 2 = .ok (.invokevirtual 96, 3) := by decide +kernel
theorem dX5_noiseOf_5 : decode cX5_noiseOf 5 = .ok (.aload_n 0, 1) := by decide +kernel
theorem dX5_noiseOf_6 : decode cX5_noiseOf 6 = .ok (.getfield 10, 3) := by decide +kernel
theorem dX5_noiseOf_9 : decode cX5_noiseOf 9 = .ok (.aload_n 0, 1) := by decide +kernel
theorem dX5_noiseOf_10 : decode cX5_noiseOf 10 = .ok (.getfield 10, 3) := by decide +kernel
theorem dX5_noiseOf_13 : decode cX5_noiseOf 13 = .ok (.iload_n 1, 1) := by decide +kernel
theorem dX5_noiseOf_14 : decode cX5_noiseOf 14 = .ok (.iconst 2, 1) := by decide +kernel
theorem dX5_noiseOf_15 : decode cX5_noiseOf 15 = .ok (.invokevirtual 99, 3) := by decide +kernel
theorem dX5_noiseOf_18 : decode cX5_noiseOf 18 = .ok (.invokevirtual 163, 3) := by decide +kernel
theorem dX5_noiseOf_21 : decode cX5_noiseOf 21 = .ok (.freturn, 1) := by decide +kernel
set_option maxRecDepth 20000 in
theorem ggX5_noiseBits_X3_noiseOfAll : GoodIn wsX5_noiseBits wsX3_noiseOfAll := goodIn_ca (goodIn_r _ [6, 7, 8, 9, 10, 5, 11, 12, 13, 14, 15, 16, 17, 18, 19, 20, 21, 22, 23, 24, 25, 43, 44, 45, 46, 47, 48, 49, 50] (by decide +kernel) (by decide +kernel)) (goodIn_sub (fun _ h => List.mem_cons_of_mem _ (List.mem_append_right _ h)) (by decide +kernel))
set_option maxRecDepth 20000 in
theorem gX5_noiseBits_X3_noiseOfAll : GoodIn wsX5_noiseBits (wsV RX5 166 RX3 yX3_noiseOfAll wsX3_noiseOfAll) := goodIn_app (goodIn_of _ (by decide +kernel)) ggX5_noiseBits_X3_noiseOfAll
set_option maxRecDepth 20000 in
theorem ggX5_noiseBits_X0_toBits : GoodIn wsX5_noiseBits wsX0_toBits := goodIn_r _ [29, 30, 31, 32] (by decide +kernel) (by decide +kernel)
set_option maxRecDepth 20000 in
theorem gX5_noiseBits_X0_toBits : GoodIn wsX5_noiseBits (va_wsS RX5 151 yX0_toBits wsX0_toBits) := goodIn_app (goodIn_of _ (by decide +kernel)) ggX5_noiseBits_X0_toBits
theorem dX5_noiseBits_0 : decode cX5_noiseBits 0 = .ok (.aload_n 0, 1) := by decide +kernel
theorem dX5_noiseBits_1 : decode cX5_noiseBits 1 = .ok (.getfield 10, 3) := by decide +kernel
theorem dX5_noiseBits_4 : decode cX5_noiseBits 4 = .ok (.invokevirtual 166, 3) := by decide +kernel
theorem dX5_noiseBits_7 : decode cX5_noiseBits 7 = .ok (.invokestatic 151, 3) := by decide +kernel
theorem dX5_noiseBits_10 : decode cX5_noiseBits 10 = .ok (.ireturn, 1) := by decide +kernel
set_option maxRecDepth 20000 in
theorem ggX5_night_X1_prepare : GoodIn wsX5_night wsX1_prepare := goodIn_r _ [7, 8, 9, 10, 11, 12, 13, 14, 15, 16, 17, 18, 19, 20, 21, 22, 23, 24, 25, 26, 27, 28, 29, 30, 31, 32, 33, 34, 82, 83, 84, 85, 86, 87, 88, 89, 90, 91, 92] (by decide +kernel) (by decide +kernel)
set_option maxRecDepth 20000 in
theorem gX5_night_X1_prepare : GoodIn wsX5_night (wsV RX5 57 RX1 yX1_prepare wsX1_prepare) := goodIn_app (goodIn_of _ (by decide +kernel)) ggX5_night_X1_prepare
set_option maxRecDepth 20000 in
theorem ggX5_night_X3_passNight : GoodIn wsX5_night wsX3_passNight := goodIn_ca (goodIn_r _ [38, 29, 32, 31, 34, 39, 40, 41, 17, 42, 19, 43, 44, 45, 46, 20, 21, 22, 23, 47, 48, 49, 50, 28, 51, 52, 53, 54, 85, 86, 87, 88, 89, 90, 91, 92] (by decide +kernel) (by decide +kernel)) (goodIn_sub (fun _ h => List.mem_cons_of_mem _ (List.mem_append_left _ (List.mem_append_left _ (List.mem_append_left _ (List.mem_append_right _ h))))) (by decide +kernel))
set_option maxRecDepth 20000 in
theorem gX5_night_X3_passNight : GoodIn wsX5_night (wsV RX5 170 RX3 yX3_passNight wsX3_passNight) := goodIn_app (goodIn_of _ (by decide +kernel)) ggX5_night_X3_passNight
set_option maxRecDepth 20000 in
theorem ggX5_night_X5_settled : GoodIn wsX5_night wsX5_settled := goodIn_ca (goodIn_ca (goodIn_ca (goodIn_r _ [59, 60, 61, 62, 63, 64, 65, 1, 66, 67, 68, 6, 69, 9, 70, 71, 21, 22, 23, 72, 73, 74, 75, 76, 77, 78, 79, 80, 81, 82, 83, 84] (by decide +kernel) (by decide +kernel)) (goodIn_sub (fun _ h => List.mem_cons_of_mem _ (List.mem_append_left _ (List.mem_append_left _ (List.mem_append_right _ h)))) (by decide +kernel))) (goodIn_sub (fun _ h => List.mem_cons_of_mem _ (List.mem_append_left _ (List.mem_append_right _ h))) (by decide +kernel))) (goodIn_sub (fun _ h => List.mem_cons_of_mem _ (List.mem_append_right _ h)) (by decide +kernel))
set_option maxRecDepth 20000 in
theorem gX5_night_X5_settled : GoodIn wsX5_night (wsV RX5 65 RX5 yX5_settled wsX5_settled) := goodIn_app (goodIn_of _ (by decide +kernel)) ggX5_night_X5_settled
theorem dX5_night_0 : decode cX5_night 0 = .ok (.aload_n 0, 1) := by decide +kernel
theorem dX5_night_1 : decode cX5_night 1 = .ok (.getfield 25, 3) := by decide +kernel
theorem dX5_night_4 : decode cX5_night 4 = .ok (.aload_n 0, 1) := by decide +kernel
theorem dX5_night_5 : decode cX5_night 5 = .ok (.getfield 10, 3) := by decide +kernel
theorem dX5_night_8 : decode cX5_night 8 = .ok (.invokevirtual 57, 3) := by decide +kernel
theorem dX5_night_11 : decode cX5_night 11 = .ok (.aload_n 0, 1) := by decide +kernel
theorem dX5_night_12 : decode cX5_night 12 = .ok (.aload_n 0, 1) := by decide +kernel
theorem dX5_night_13 : decode cX5_night 13 = .ok (.getfield 10, 3) := by decide +kernel
theorem dX5_night_16 : decode cX5_night 16 = .ok (.invokevirtual 170, 3) := by decide +kernel
theorem dX5_night_19 : decode cX5_night 19 = .ok (.invokevirtual 65, 3) := by decide +kernel
theorem dX5_night_22 : decode cX5_night 22 = .ok (.ireturn, 1) := by decide +kernel
set_option maxRecDepth 20000 in
theorem ggX5_tilted_X3_tiltedAt : GoodIn wsX5_tilted wsX3_tiltedAt := goodIn_ca (goodIn_r _ [8, 9, 10, 11, 12, 7, 13, 14, 15, 16, 17, 18, 19, 20, 21, 22, 33, 34, 35, 36, 37, 38, 39, 40] (by decide +kernel) (by decide +kernel)) (goodIn_sub (fun _ h => List.mem_cons_of_mem _ (List.mem_append_right _ h)) (by decide +kernel))
set_option maxRecDepth 20000 in
theorem gX5_tilted_X3_tiltedAt : GoodIn wsX5_tilted (wsV RX5 173 RX3 yX3_tiltedAt wsX3_tiltedAt) := goodIn_app (goodIn_of _ (by decide +kernel)) ggX5_tilted_X3_tiltedAt
theorem dX5_tilted_0 : decode cX5_tilted 0 = .ok (.aload_n 0, 1) := by decide +kernel
theorem dX5_tilted_1 : decode cX5_tilted 1 = .ok (.getfield 10, 3) := by decide +kernel
theorem dX5_tilted_4 : decode cX5_tilted 4 = .ok (.iload_n 1, 1) := by decide +kernel
theorem dX5_tilted_5 : decode cX5_tilted 5 = .ok (.invokevirtual 173, 3) := by decide +kernel
theorem dX5_tilted_8 : decode cX5_tilted 8 = .ok (.istore_n 2, 1) := by decide +kernel
theorem dX5_tilted_9 : decode cX5_tilted 9 = .ok (.iload_n 2, 1) := by decide +kernel
theorem dX5_tilted_10 : decode cX5_tilted 10 = .ok (.iconst (-1), 1) := by decide +kernel
theorem dX5_tilted_11 : decode cX5_tilted 11 = .ok (.if_icmp .ne 13, 3) := by decide +kernel
theorem dX5_tilted_14 : decode cX5_tilted 14 = .ok (.new 136, 3) := by decide +kernel
theorem dX5_tilted_17 : decode cX5_tilted 17 = .ok (.dup, 1) := by decide +kernel
theorem dX5_tilted_18 : decode cX5_tilted 18 = .ok (.ldc 176, 2) := by decide +kernel
theorem dX5_tilted_20 : decode cX5_tilted 20 = .ok (.invokespecial 140, 3) := by decide +kernel
theorem dX5_tilted_23 : decode cX5_tilted 23 = .ok (.athrow, 1) := by decide +kernel
theorem dX5_tilted_24 : decode cX5_tilted 24 = .ok (.iload_n 2, 1) := by decide +kernel
theorem dX5_tilted_25 : decode cX5_tilted 25 = .ok (.ireturn, 1) := by decide +kernel
set_option maxRecDepth 20000 in
theorem ggX5_ranked_X3_rankedAt : GoodIn wsX5_ranked wsX3_rankedAt := goodIn_ca (goodIn_r _ [8, 9, 10, 11, 12, 7, 13, 14, 15, 16, 17, 18, 29, 30, 31, 32, 33, 34, 35, 36] (by decide +kernel) (by decide +kernel)) (goodIn_sub (fun _ h => List.mem_cons_of_mem _ (List.mem_append_right _ h)) (by decide +kernel))
set_option maxRecDepth 20000 in
theorem gX5_ranked_X3_rankedAt : GoodIn wsX5_ranked (wsV RX5 178 RX3 yX3_rankedAt wsX3_rankedAt) := goodIn_app (goodIn_of _ (by decide +kernel)) ggX5_ranked_X3_rankedAt
theorem dX5_ranked_0 : decode cX5_ranked 0 = .ok (.aload_n 0, 1) := by decide +kernel
theorem dX5_ranked_1 : decode cX5_ranked 1 = .ok (.getfield 10, 3) := by decide +kernel
theorem dX5_ranked_4 : decode cX5_ranked 4 = .ok (.iload_n 1, 1) := by decide +kernel
theorem dX5_ranked_5 : decode cX5_ranked 5 = .ok (.invokevirtual 178, 3) := by decide +kernel
theorem dX5_ranked_8 : decode cX5_ranked 8 = .ok (.istore_n 2, 1) := by decide +kernel
theorem dX5_ranked_9 : decode cX5_ranked 9 = .ok (.iload_n 2, 1) := by decide +kernel
theorem dX5_ranked_10 : decode cX5_ranked 10 = .ok (.iconst (-1), 1) := by decide +kernel
theorem dX5_ranked_11 : decode cX5_ranked 11 = .ok (.if_icmp .ne 13, 3) := by decide +kernel
theorem dX5_ranked_14 : decode cX5_ranked 14 = .ok (.new 136, 3) := by decide +kernel
theorem dX5_ranked_17 : decode cX5_ranked 17 = .ok (.dup, 1) := by decide +kernel
theorem dX5_ranked_18 : decode cX5_ranked 18 = .ok (.ldc 181, 2) := by decide +kernel
theorem dX5_ranked_20 : decode cX5_ranked 20 = .ok (.invokespecial 140, 3) := by decide +kernel
theorem dX5_ranked_23 : decode cX5_ranked 23 = .ok (.athrow, 1) := by decide +kernel
theorem dX5_ranked_24 : decode cX5_ranked 24 = .ok (.iload_n 2, 1) := by decide +kernel
theorem dX5_ranked_25 : decode cX5_ranked 25 = .ok (.ireturn, 1) := by decide +kernel
set_option maxRecDepth 20000 in
theorem ggX5_line_X2_clear : GoodIn wsX5_line wsX2_clear := goodIn_r _ [9, 10, 50, 51] (by decide +kernel) (by decide +kernel)
set_option maxRecDepth 20000 in
theorem gX5_line_X2_clear : GoodIn wsX5_line (wsV RX5 183 RX2 yX2_clear wsX2_clear) := goodIn_app (goodIn_of _ (by decide +kernel)) ggX5_line_X2_clear
set_option maxRecDepth 20000 in
theorem ggX5_line_X5_writeSeat : GoodIn wsX5_line wsX5_writeSeat := goodIn_ca (goodIn_r _ [15, 2, 1, 16, 17, 18, 19, 20, 21, 22, 23, 24, 8, 25, 10, 26, 27, 28, 29, 30, 31, 32, 33, 34, 35, 36, 37, 38, 39, 40, 41, 42, 43, 44, 45, 46, 47, 48, 49, 50, 51] (by decide +kernel) (by decide +kernel)) (goodIn_sub (fun _ h => List.mem_cons_of_mem _ (List.mem_append_right _ h)) (by decide +kernel))
set_option maxRecDepth 20000 in
theorem gX5_line_X5_writeSeat : GoodIn wsX5_line (wsV RX5 186 RX5 yX5_writeSeat wsX5_writeSeat) := goodIn_app (goodIn_of _ (by decide +kernel)) ggX5_line_X5_writeSeat
theorem dX5_line_0 : decode cX5_line 0 = .ok (.aload_n 0, 1) := by decide +kernel
theorem dX5_line_1 : decode cX5_line 1 = .ok (.getfield 39, 3) := by decide +kernel
theorem dX5_line_4 : decode cX5_line 4 = .ok (.invokevirtual 183, 3) := by decide +kernel
theorem dX5_line_7 : decode cX5_line 7 = .ok (.iconst 0, 1) := by decide +kernel
theorem dX5_line_8 : decode cX5_line 8 = .ok (.istore_n 1, 1) := by decide +kernel
theorem dX5_line_9 : decode cX5_line 9 = .ok (.iload_n 1, 1) := by decide +kernel
theorem dX5_line_10 : decode cX5_line 10 = .ok (.aload_n 0, 1) := by decide +kernel
theorem dX5_line_11 : decode cX5_line 11 = .ok (.getfield 10, 3) := by decide +kernel
theorem dX5_line_14 : decode cX5_line 14 = .ok (.getfield 124, 3) := by decide +kernel
theorem dX5_line_17 : decode cX5_line 17 = .ok (.if_icmp .ge 14, 3) := by decide +kernel
theorem dX5_line_20 : decode cX5_line 20 = .ok (.aload_n 0, 1) := by decide +kernel
theorem dX5_line_21 : decode cX5_line 21 = .ok (.iload_n 1, 1) := by decide +kernel
theorem dX5_line_22 : decode cX5_line 22 = .ok (.invokevirtual 186, 3) := by decide +kernel
theorem dX5_line_25 : decode cX5_line 25 = .ok (.iinc 1 1, 3) := by decide +kernel
theorem dX5_line_28 : decode cX5_line 28 = .ok (.goto (-19), 3) := by decide +kernel
theorem dX5_line_31 : decode cX5_line 31 = .ok (.aload_n 0, 1) := by decide +kernel
theorem dX5_line_32 : decode cX5_line 32 = .ok (.getfield 39, 3) := by decide +kernel
theorem dX5_line_35 : decode cX5_line 35 = .ok (.getfield 189, 3) := by decide +kernel
theorem dX5_line_38 : decode cX5_line 38 = .ok (.ireturn, 1) := by decide +kernel
set_option maxRecDepth 20000 in
theorem ggX5_stoolLine_X5_requireStool : GoodIn wsX5_stoolLine wsX5_requireStool := goodIn_ca (goodIn_r _ [8, 9, 10, 2, 11, 12, 13, 14, 15, 16, 42, 43, 44, 45, 46, 47, 48, 49, 50, 51, 54, 55, 56, 57, 58, 59, 60, 61] (by decide +kernel) (by decide +kernel)) (goodIn_sub (fun _ h => List.mem_cons_of_mem _ (List.mem_append_left _ (List.mem_append_right _ h))) (by decide +kernel))
set_option maxRecDepth 20000 in
theorem gX5_stoolLine_X5_requireStool : GoodIn wsX5_stoolLine (wsV RX5 82 RX5 yX5_requireStool wsX5_requireStool) := goodIn_app (goodIn_of _ (by decide +kernel)) ggX5_stoolLine_X5_requireStool
set_option maxRecDepth 20000 in
theorem ggX5_stoolLine_X2_clear : GoodIn wsX5_stoolLine wsX2_clear := goodIn_r _ [21, 22, 52, 53] (by decide +kernel) (by decide +kernel)
set_option maxRecDepth 20000 in
theorem gX5_stoolLine_X2_clear : GoodIn wsX5_stoolLine (wsV RX5 183 RX2 yX2_clear wsX2_clear) := goodIn_app (goodIn_of _ (by decide +kernel)) ggX5_stoolLine_X2_clear
set_option maxRecDepth 20000 in
theorem ggX5_stoolLine_X2_addNumber : GoodIn wsX5_stoolLine wsX2_addNumber := goodIn_ca (goodIn_r _ [26, 27, 28, 29, 20, 30, 22, 31, 52, 53] (by decide +kernel) (by decide +kernel)) (goodIn_sub (fun _ h => List.mem_cons_of_mem _ (List.mem_append_right _ h)) (by decide +kernel))
set_option maxRecDepth 20000 in
theorem gX5_stoolLine_X2_addNumber : GoodIn wsX5_stoolLine (wsV RX5 192 RX2 yX2_addNumber wsX2_addNumber) := goodIn_app (goodIn_of _ (by decide +kernel)) ggX5_stoolLine_X2_addNumber
set_option maxRecDepth 20000 in
theorem ggX5_stoolLine_X2_add : GoodIn wsX5_stoolLine wsX2_add := goodIn_ca (goodIn_r _ [30, 22, 31, 52, 53] (by decide +kernel) (by decide +kernel)) (goodIn_sub (fun _ h => List.mem_cons_of_mem _ (List.mem_append_right _ h)) (by decide +kernel))
set_option maxRecDepth 20000 in
theorem gX5_stoolLine_X2_add : GoodIn wsX5_stoolLine (wsV RX5 195 RX2 yX2_add wsX2_add) := goodIn_app (goodIn_of _ (by decide +kernel)) ggX5_stoolLine_X2_add
set_option maxRecDepth 20000 in
theorem ggX5_stoolLine_X3_ofStool : GoodIn wsX5_stoolLine wsX3_ofStool := goodIn_ca (goodIn_r _ [36, 37, 54, 55, 56, 57, 58, 59, 60, 61] (by decide +kernel) (by decide +kernel)) (goodIn_sub (fun _ h => List.mem_cons_of_mem _ (List.mem_append_right _ h)) (by decide +kernel))
set_option maxRecDepth 20000 in
theorem gX5_stoolLine_X3_ofStool : GoodIn wsX5_stoolLine (wsV RX5 93 RX3 yX3_ofStool wsX3_ofStool) := goodIn_app (goodIn_of _ (by decide +kernel)) ggX5_stoolLine_X3_ofStool
set_option maxRecDepth 20000 in
theorem ggX5_stoolLine_X2_addTimes : GoodIn wsX5_stoolLine wsX2_addTimes := goodIn_ca (goodIn_r _ [41, 27, 28, 29, 20, 30, 22, 31, 52, 53] (by decide +kernel) (by decide +kernel)) (goodIn_sub (fun _ h => List.mem_cons_of_mem _ (List.mem_append_right _ h)) (by decide +kernel))
set_option maxRecDepth 20000 in
theorem gX5_stoolLine_X2_addTimes : GoodIn wsX5_stoolLine (wsV RX5 199 RX2 yX2_addTimes wsX2_addTimes) := goodIn_app (goodIn_of _ (by decide +kernel)) ggX5_stoolLine_X2_addTimes
theorem dX5_stoolLine_0 : decode cX5_stoolLine 0 = .ok (.aload_n 0, 1) := by decide +kernel
theorem dX5_stoolLine_1 : decode cX5_stoolLine 1 = .ok (.iload_n 1, 1) := by decide +kernel
theorem dX5_stoolLine_2 : decode cX5_stoolLine 2 = .ok (.invokevirtual 82, 3) := by decide +kernel
theorem dX5_stoolLine_5 : decode cX5_stoolLine 5 = .ok (.aload_n 0, 1) := by decide +kernel
theorem dX5_stoolLine_6 : decode cX5_stoolLine 6 = .ok (.getfield 39, 3) := by decide +kernel
theorem dX5_stoolLine_9 : decode cX5_stoolLine 9 = .ok (.invokevirtual 183, 3) := by decide +kernel
theorem dX5_stoolLine_12 : decode cX5_stoolLine 12 = .ok (.aload_n 0, 1) := by decide +kernel
theorem dX5_stoolLine_13 : decode cX5_stoolLine 13 = .ok (.getfield 39, 3) := by decide +kernel
theorem dX5_stoolLine_16 : decode cX5_stoolLine 16 = .ok (.iload_n 1, 1) := by decide +kernel
theorem dX5_stoolLine_17 : decode cX5_stoolLine 17 = .ok (.invokevirtual 192, 3) := by decide +kernel
theorem dX5_stoolLine_20 : decode cX5_stoolLine 20 = .ok (.aload_n 0, 1) := by decide +kernel
theorem dX5_stoolLine_21 : decode cX5_stoolLine 21 = .ok (.getfield 39, 3) := by decide +kernel
theorem dX5_stoolLine_24 : decode cX5_stoolLine 24 = .ok (.bipush 94, 2) := by decide +kernel
theorem dX5_stoolLine_26 : decode cX5_stoolLine 26 = .ok (.invokevirtual 195, 3) := by decide +kernel
theorem dX5_stoolLine_29 : decode cX5_stoolLine 29 = .ok (.aload_n 0, 1) := by decide +kernel
theorem dX5_stoolLine_30 : decode cX5_stoolLine 30 = .ok (.getfield 39, 3) := by decide +kernel
theorem dX5_stoolLine_33 : decode cX5_stoolLine 33 = .ok (.aload_n 0, 1) := by decide +kernel
theorem dX5_stoolLine_34 : decode cX5_stoolLine 34 = .ok (.getfield 10, 3) := by decide +kernel
theorem dX5_stoolLine_37 : decode cX5_stoolLine 37 = .ok (.iload_n 1, 1) := by decide +kernel
theorem dX5_stoolLine_38 : decode cX5_stoolLine 38 = .ok (.iconst 0, 1) := by decide +kernel
theorem dX5_stoolLine_39 : decode cX5_stoolLine 39 = .ok (.invokevirtual 93, 3) := by decide +kernel
theorem dX5_stoolLine_42 : decode cX5_stoolLine 42 = .ok (.invokevirtual 192, 3) := by decide +kernel
theorem dX5_stoolLine_45 : decode cX5_stoolLine 45 = .ok (.aload_n 0, 1) := by decide +kernel
theorem dX5_stoolLine_46 : decode cX5_stoolLine 46 = .ok (.getfield 39, 3) := by decide +kernel
theorem dX5_stoolLine_49 : decode cX5_stoolLine 49 = .ok (.bipush 126, 2) := by decide +kernel
theorem dX5_stoolLine_51 : decode cX5_stoolLine 51 = .ok (.invokevirtual 195, 3) := by decide +kernel
theorem dX5_stoolLine_54 : decode cX5_stoolLine 54 = .ok (.aload_n 0, 1) := by decide +kernel
theorem dX5_stoolLine_55 : decode cX5_stoolLine 55 = .ok (.getfield 39, 3) := by decide +kernel
theorem dX5_stoolLine_58 : decode cX5_stoolLine 58 = .ok (.aload_n 0, 1) := by decide +kernel
theorem dX5_stoolLine_59 : decode cX5_stoolLine 59 = .ok (.getfield 10, 3) := by decide +kernel
theorem dX5_stoolLine_62 : decode cX5_stoolLine 62 = .ok (.iload_n 1, 1) := by decide +kernel
theorem dX5_stoolLine_63 : decode cX5_stoolLine 63 = .ok (.iconst 2, 1) := by decide +kernel
theorem dX5_stoolLine_64 : decode cX5_stoolLine 64 = .ok (.invokevirtual 93, 3) := by decide +kernel
theorem dX5_stoolLine_67 : decode cX5_stoolLine 67 = .ok (.invokevirtual 192, 3) := by decide +kernel
theorem dX5_stoolLine_70 : decode cX5_stoolLine 70 = .ok (.aload_n 0, 1) := by decide +kernel
theorem dX5_stoolLine_71 : decode cX5_stoolLine 71 = .ok (.getfield 39, 3) := by decide +kernel
theorem dX5_stoolLine_74 : decode cX5_stoolLine 74 = .ok (.bipush 39, 2) := by decide +kernel
theorem dX5_stoolLine_76 : decode cX5_stoolLine 76 = .ok (.aload_n 0, 1) := by decide +kernel
theorem dX5_stoolLine_77 : decode cX5_stoolLine 77 = .ok (.getfield 10, 3) := by decide +kernel
theorem dX5_stoolLine_80 : decode cX5_stoolLine 80 = .ok (.iload_n 1, 1) := by decide +kernel
theorem dX5_stoolLine_81 : decode cX5_stoolLine 81 = .ok (.iconst 1, 1) := by decide +kernel
theorem dX5_stoolLine_82 : decode cX5_stoolLine 82 = .ok (.invokevirtual 93, 3) := by decide +kernel
theorem dX5_stoolLine_85 : decode cX5_stoolLine 85 = .ok (.invokevirtual 199, 3) := by decide +kernel
theorem dX5_stoolLine_88 : decode cX5_stoolLine 88 = .ok (.aload_n 0, 1) := by decide +kernel
theorem dX5_stoolLine_89 : decode cX5_stoolLine 89 = .ok (.getfield 39, 3) := by decide +kernel
theorem dX5_stoolLine_92 : decode cX5_stoolLine 92 = .ok (.bipush 111, 2) := by decide +kernel
theorem dX5_stoolLine_94 : decode cX5_stoolLine 94 = .ok (.aload_n 0, 1) := by decide +kernel
theorem dX5_stoolLine_95 : decode cX5_stoolLine 95 = .ok (.getfield 10, 3) := by decide +kernel
theorem dX5_stoolLine_98 : decode cX5_stoolLine 98 = .ok (.iload_n 1, 1) := by decide +kernel
theorem dX5_stoolLine_99 : decode cX5_stoolLine 99 = .ok (.iconst 4, 1) := by decide +kernel
theorem dX5_stoolLine_100 : decode cX5_stoolLine 100 = .ok (.invokevirtual 93, 3) := by decide +kernel
theorem dX5_stoolLine_103 : decode cX5_stoolLine 103 = .ok (.invokevirtual 199, 3) := by decide +kernel
theorem dX5_stoolLine_106 : decode cX5_stoolLine 106 = .ok (.aload_n 0, 1) := by decide +kernel
theorem dX5_stoolLine_107 : decode cX5_stoolLine 107 = .ok (.getfield 39, 3) := by decide +kernel
theorem dX5_stoolLine_110 : decode cX5_stoolLine 110 = .ok (.getfield 189, 3) := by decide +kernel
theorem dX5_stoolLine_113 : decode cX5_stoolLine 113 = .ok (.ireturn, 1) := by decide +kernel
set_option maxRecDepth 20000 in
theorem ggX5_character_X2_signAt : GoodIn wsX5_character wsX2_signAt := goodIn_ca (goodIn_r _ [9, 10, 21, 22] (by decide +kernel) (by decide +kernel)) (goodIn_sub (fun _ h => List.mem_cons_of_mem _ (List.mem_append_right _ h)) (by decide +kernel))
set_option maxRecDepth 20000 in
theorem gX5_character_X2_signAt : GoodIn wsX5_character (wsV RX5 208 RX2 yX2_signAt wsX2_signAt) := goodIn_app (goodIn_of _ (by decide +kernel)) ggX5_character_X2_signAt
theorem dX5_character_0 : decode cX5_character 0 = .ok (.iload_n 1, 1) := by decide +kernel
theorem dX5_character_1 : decode cX5_character 1 = .ok (.ifCond .lt 14, 3) := by decide +kernel
theorem dX5_character_4 : decode cX5_character 4 = .ok (.iload_n 1, 1) := by decide +kernel
theorem dX5_character_5 : decode cX5_character 5 = .ok (.aload_n 0, 1) := by decide +kernel
theorem dX5_character_6 : decode cX5_character 6 = .ok (.getfield 39, 3) := by decide +kernel
theorem dX5_character_9 : decode cX5_character 9 = .ok (.getfield 189, 3) := by decide +kernel
theorem dX5_character_12 : decode cX5_character 12 = .ok (.if_icmp .lt 13, 3) := by decide +kernel
theorem dX5_character_15 : decode cX5_character 15 = .ok (.new 203, 3) := by decide +kernel
theorem dX5_character_18 : decode cX5_character 18 = .ok (.dup, 1) := by decide +kernel
theorem dX5_character_19 : decode cX5_character 19 = .ok (.ldc 205, 2) := by decide +kernel
theorem dX5_character_21 : decode cX5_character 21 = .ok (.invokespecial 207, 3) := by decide +kernel
theorem dX5_character_24 : decode cX5_character 24 = .ok (.athrow, 1) := by decide +kernel
theorem dX5_character_25 : decode cX5_character 25 = .ok (.aload_n 0, 1) := by decide +kernel
theorem dX5_character_26 : decode cX5_character 26 = .ok (.getfield 39, 3) := by decide +kernel
theorem dX5_character_29 : decode cX5_character 29 = .ok (.iload_n 1, 1) := by decide +kernel
theorem dX5_character_30 : decode cX5_character 30 = .ok (.invokevirtual 208, 3) := by decide +kernel
theorem dX5_character_33 : decode cX5_character 33 = .ok (.ireturn, 1) := by decide +kernel
set_option maxRecDepth 20000 in
theorem ggX5_append_X4_add : GoodIn wsX5_append wsX4_add := goodIn_ca (goodIn_r _ [9, 10, 11, 22, 23, 24, 25, 26] (by decide +kernel) (by decide +kernel)) (goodIn_sub (fun _ h => List.mem_cons_of_mem _ (List.mem_append_right _ h)) (by decide +kernel))
set_option maxRecDepth 20000 in
theorem gX5_append_X4_add : GoodIn wsX5_append (wsV RX5 218 RX4 yX4_add wsX4_add) := goodIn_app (goodIn_of _ (by decide +kernel)) ggX5_append_X4_add
theorem dX5_append_0 : decode cX5_append 0 = .ok (.aload_n 0, 1) := by decide +kernel
theorem dX5_append_1 : decode cX5_append 1 = .ok (.getfield 32, 3) := by decide +kernel
theorem dX5_append_4 : decode cX5_append 4 = .ok (.getfield 212, 3) := by decide +kernel
theorem dX5_append_7 : decode cX5_append 7 = .ok (.bipush 60, 2) := by decide +kernel
theorem dX5_append_9 : decode cX5_append 9 = .ok (.if_icmp .lt 13, 3) := by decide +kernel
theorem dX5_append_12 : decode cX5_append 12 = .ok (.new 213, 3) := by decide +kernel
theorem dX5_append_15 : decode cX5_append 15 = .ok (.dup, 1) := by decide +kernel
theorem dX5_append_16 : decode cX5_append 16 = .ok (.ldc 215, 2) := by decide +kernel
theorem dX5_append_18 : decode cX5_append 18 = .ok (.invokespecial 217, 3) := by decide +kernel
theorem dX5_append_21 : decode cX5_append 21 = .ok (.athrow, 1) := by decide +kernel
theorem dX5_append_22 : decode cX5_append 22 = .ok (.aload_n 0, 1) := by decide +kernel
theorem dX5_append_23 : decode cX5_append 23 = .ok (.getfield 32, 3) := by decide +kernel
theorem dX5_append_26 : decode cX5_append 26 = .ok (.iload_n 1, 1) := by decide +kernel
theorem dX5_append_27 : decode cX5_append 27 = .ok (.invokevirtual 218, 3) := by decide +kernel
theorem dX5_append_30 : decode cX5_append 30 = .ok (.aload_n 0, 1) := by decide +kernel
theorem dX5_append_31 : decode cX5_append 31 = .ok (.getfield 32, 3) := by decide +kernel
theorem dX5_append_34 : decode cX5_append 34 = .ok (.getfield 212, 3) := by decide +kernel
theorem dX5_append_37 : decode cX5_append 37 = .ok (.ireturn, 1) := by decide +kernel
set_option maxRecDepth 20000 in
theorem ggX5_run_X4_readOrders : GoodIn wsX5_run wsX4_readOrders := goodIn_ca (goodIn_r _ [14, 15, 16, 17, 18, 19, 20, 13, 21, 22, 23, 24, 25, 26, 27, 28, 29, 30, 31, 32, 33, 34, 35, 36, 37, 38, 39, 40, 41, 42, 43, 243, 244, 245, 246, 247] (by decide +kernel) (by decide +kernel)) (goodIn_sub (fun _ h => List.mem_cons_of_mem _ (List.mem_append_right _ h)) (by decide +kernel))
set_option maxRecDepth 20000 in
theorem gX5_run_X4_readOrders : GoodIn wsX5_run (wsV RX5 219 RX4 yX4_readOrders wsX4_readOrders) := goodIn_app (goodIn_of _ (by decide +kernel)) ggX5_run_X4_readOrders
set_option maxRecDepth 20000 in
theorem ggX5_run_X4_clear : GoodIn wsX5_run wsX4_clear := goodIn_r _ [47, 17, 243, 244, 245, 246, 247] (by decide +kernel) (by decide +kernel)
set_option maxRecDepth 20000 in
theorem gX5_run_X4_clear : GoodIn wsX5_run (wsV RX5 222 RX4 yX4_clear wsX4_clear) := goodIn_app (goodIn_of _ (by decide +kernel)) ggX5_run_X4_clear
set_option maxRecDepth 20000 in
theorem ggX5_run_X1_prepare : GoodIn wsX5_run wsX1_prepare := goodIn_r _ [52, 53, 54, 55, 56, 57, 58, 59, 60, 61, 62, 63, 64, 65, 66, 67, 68, 69, 70, 71, 72, 73, 74, 75, 76, 77, 78, 79, 248, 249, 250, 251, 252, 253, 254, 255, 256, 257, 258] (by decide +kernel) (by decide +kernel)
set_option maxRecDepth 20000 in
theorem gX5_run_X1_prepare : GoodIn wsX5_run (wsV RX5 57 RX1 yX1_prepare wsX1_prepare) := goodIn_app (goodIn_of _ (by decide +kernel)) ggX5_run_X1_prepare
set_option maxRecDepth 20000 in
theorem ggX5_run_X5_carryOut : GoodIn wsX5_run wsX5_carryOut := goodIn_ca (goodIn_r _ [84, 5, 8, 85, 86, 87, 13, 88, 31, 89, 90, 91, 83, 92, 93, 94, 95, 96, 97, 98, 99, 100, 101, 102, 62, 103, 74, 104, 105, 106, 107, 64, 108, 109, 110, 111, 112, 113, 114, 115, 116, 117, 118, 119, 120, 75, 121, 122, 123, 124, 73, 125, 126, 127, 128, 129, 130, 131, 132, 133, 134, 135, 136, 137, 138, 139, 140, 141, 142, 143, 144, 145, 146, 147, 148, 149, 150, 151, 152, 153, 154, 155, 156, 157, 158, 159, 160, 161, 162, 163, 164, 165, 166, 167, 168, 169, 170, 171, 172, 173, 174, 175, 176, 177, 178, 179, 180, 181, 182, 183, 184, 185, 186, 187, 76, 188, 189, 190, 191, 192, 193, 194, 195, 196, 197, 198, 199, 200, 201, 202, 203, 204, 205, 206, 207, 208, 209, 210, 211, 212, 213, 214, 215, 216, 217, 218, 77, 79, 219, 220, 221, 222, 65, 66, 67, 68, 233, 234, 235, 236, 237, 238, 239, 240, 241, 242, 243, 244, 245, 246, 247, 251, 252, 253, 254, 255, 256, 257, 258] (by decide +kernel) (by decide +kernel)) (goodIn_sub (fun _ h => List.mem_cons_of_mem _ (List.mem_append_right _ h)) (by decide +kernel))
set_option maxRecDepth 20000 in
theorem gX5_run_X5_carryOut : GoodIn wsX5_run (wsV RX5 228 RX5 yX5_carryOut wsX5_carryOut) := goodIn_app (goodIn_of _ (by decide +kernel)) ggX5_run_X5_carryOut
set_option maxRecDepth 20000 in
theorem ggX5_run_X1_takeBack : GoodIn wsX5_run wsX1_takeBack := goodIn_r _ [226, 53, 54, 55, 56, 57, 58, 59, 60, 61, 62, 63, 64, 65, 66, 67, 68, 69, 70, 71, 72, 73, 74, 75, 76, 77, 78, 79, 248, 249, 250, 251, 252, 253, 254, 255, 256, 257, 258] (by decide +kernel) (by decide +kernel)
set_option maxRecDepth 20000 in
theorem gX5_run_X1_takeBack : GoodIn wsX5_run (wsV RX5 231 RX1 yX1_takeBack wsX1_takeBack) := goodIn_app (goodIn_of _ (by decide +kernel)) ggX5_run_X1_takeBack
set_option maxRecDepth 20000 in
theorem ggX5_run_X1_keep : GoodIn wsX5_run wsX1_keep := goodIn_r _ [230, 54, 231, 232, 66, 67, 68, 248, 249, 250] (by decide +kernel) (by decide +kernel)
set_option maxRecDepth 20000 in
theorem gX5_run_X1_keep : GoodIn wsX5_run (wsV RX5 241 RX1 yX1_keep wsX1_keep) := goodIn_app (goodIn_of _ (by decide +kernel)) ggX5_run_X1_keep
theorem dX5_run_0 : decode cX5_run 0 = .ok (.aload_n 0, 1) := by decide +kernel
theorem dX5_run_1 : decode cX5_run 1 = .ok (.aload_n 0, 1) := by decide +kernel
theorem dX5_run_2 : decode cX5_run 2 = .ok (.getfield 32, 3) := by decide +kernel
theorem dX5_run_5 : decode cX5_run 5 = .ok (.invokevirtual 219, 3) := by decide +kernel
theorem dX5_run_8 : decode cX5_run 8 = .ok (.putfield 47, 3) := by decide +kernel
theorem dX5_run_11 : decode cX5_run 11 = .ok (.aload_n 0, 1) := by decide +kernel
theorem dX5_run_12 : decode cX5_run 12 = .ok (.getfield 32, 3) := by decide +kernel
theorem dX5_run_15 : decode cX5_run 15 = .ok (.invokevirtual 222, 3) := by decide +kernel
theorem dX5_run_18 : decode cX5_run 18 = .ok (.aload_n 0, 1) := by decide +kernel
theorem dX5_run_19 : decode cX5_run 19 = .ok (.getfield 47, 3) := by decide +kernel
theorem dX5_run_22 : decode cX5_run 22 = .ok (.iconst (-1), 1) := by decide +kernel
theorem dX5_run_23 : decode cX5_run 23 = .ok (.if_icmp .eq 13, 3) := by decide +kernel
theorem dX5_run_26 : decode cX5_run 26 = .ok (.new 86, 3) := by decide +kernel
theorem dX5_run_29 : decode cX5_run 29 = .ok (.dup, 1) := by decide +kernel
theorem dX5_run_30 : decode cX5_run 30 = .ok (.ldc 223, 2) := by decide +kernel
theorem dX5_run_32 : decode cX5_run 32 = .ok (.invokespecial 90, 3) := by decide +kernel
theorem dX5_run_35 : decode cX5_run 35 = .ok (.athrow, 1) := by decide +kernel
theorem dX5_run_36 : decode cX5_run 36 = .ok (.aload_n 0, 1) := by decide +kernel
theorem dX5_run_37 : decode cX5_run 37 = .ok (.getfield 25, 3) := by decide +kernel
theorem dX5_run_40 : decode cX5_run 40 = .ok (.aload_n 0, 1) := by decide +kernel
theorem dX5_run_41 : decode cX5_run 41 = .ok (.getfield 10, 3) := by decide +kernel
theorem dX5_run_44 : decode cX5_run 44 = .ok (.invokevirtual 57, 3) := by decide +kernel
theorem dX5_run_47 : decode cX5_run 47 = .ok (.iconst 0, 1) := by decide +kernel
theorem dX5_run_48 : decode cX5_run 48 = .ok (.istore_n 1, 1) := by decide +kernel
theorem dX5_run_49 : decode cX5_run 49 = .ok (.iconst 0, 1) := by decide +kernel
theorem dX5_run_50 : decode cX5_run 50 = .ok (.istore_n 2, 1) := by decide +kernel
theorem dX5_run_51 : decode cX5_run 51 = .ok (.iload_n 2, 1) := by decide +kernel
theorem dX5_run_52 : decode cX5_run 52 = .ok (.aload_n 0, 1) := by decide +kernel
theorem dX5_run_53 : decode cX5_run 53 = .ok (.getfield 32, 3) := by decide +kernel
theorem dX5_run_56 : decode cX5_run 56 = .ok (.getfield 225, 3) := by decide +kernel
theorem dX5_run_59 : decode cX5_run 59 = .ok (.if_icmp .ge 19, 3) := by decide +kernel
theorem dX5_run_62 : decode cX5_run 62 = .ok (.iload_n 1, 1) := by decide +kernel
theorem dX5_run_63 : decode cX5_run 63 = .ok (.ifCond .lt 15, 3) := by decide +kernel
theorem dX5_run_66 : decode cX5_run 66 = .ok (.aload_n 0, 1) := by decide +kernel
theorem dX5_run_67 : decode cX5_run 67 = .ok (.iload_n 2, 1) := by decide +kernel
theorem dX5_run_68 : decode cX5_run 68 = .ok (.invokevirtual 228, 3) := by decide +kernel
theorem dX5_run_71 : decode cX5_run 71 = .ok (.istore_n 1, 1) := by decide +kernel
theorem dX5_run_72 : decode cX5_run 72 = .ok (.iinc 2 1, 3) := by decide +kernel
theorem dX5_run_75 : decode cX5_run 75 = .ok (.goto (-24), 3) := by decide +kernel
theorem dX5_run_78 : decode cX5_run 78 = .ok (.iload_n 1, 1) := by decide +kernel
theorem dX5_run_79 : decode cX5_run 79 = .ok (.ifCond .ge 14, 3) := by decide +kernel
theorem dX5_run_82 : decode cX5_run 82 = .ok (.aload_n 0, 1) := by decide +kernel
theorem dX5_run_83 : decode cX5_run 83 = .ok (.getfield 25, 3) := by decide +kernel
theorem dX5_run_86 : decode cX5_run 86 = .ok (.aload_n 0, 1) := by decide +kernel
theorem dX5_run_87 : decode cX5_run 87 = .ok (.getfield 10, 3) := by decide +kernel
theorem dX5_run_90 : decode cX5_run 90 = .ok (.invokevirtual 231, 3) := by decide +kernel
theorem dX5_run_93 : decode cX5_run 93 = .ok (.iload_n 1, 1) := by decide +kernel
theorem dX5_run_94 : decode cX5_run 94 = .ok (.bipush (-3), 2) := by decide +kernel
theorem dX5_run_96 : decode cX5_run 96 = .ok (.if_icmp .ne 13, 3) := by decide +kernel
theorem dX5_run_99 : decode cX5_run 99 = .ok (.new 234, 3) := by decide +kernel
theorem dX5_run_102 : decode cX5_run 102 = .ok (.dup, 1) := by decide +kernel
theorem dX5_run_103 : decode cX5_run 103 = .ok (.ldc 236, 2) := by decide +kernel
theorem dX5_run_105 : decode cX5_run 105 = .ok (.invokespecial 238, 3) := by decide +kernel
theorem dX5_run_108 : decode cX5_run 108 = .ok (.athrow, 1) := by decide +kernel
theorem dX5_run_109 : decode cX5_run 109 = .ok (.iload_n 1, 1) := by decide +kernel
theorem dX5_run_110 : decode cX5_run 110 = .ok (.ifCond .ge 13, 3) := by decide +kernel
theorem dX5_run_113 : decode cX5_run 113 = .ok (.new 86, 3) := by decide +kernel
theorem dX5_run_116 : decode cX5_run 116 = .ok (.dup, 1) := by decide +kernel
theorem dX5_run_117 : decode cX5_run 117 = .ok (.ldc 239, 2) := by decide +kernel
theorem dX5_run_119 : decode cX5_run 119 = .ok (.invokespecial 90, 3) := by decide +kernel
theorem dX5_run_122 : decode cX5_run 122 = .ok (.athrow, 1) := by decide +kernel
theorem dX5_run_123 : decode cX5_run 123 = .ok (.aload_n 0, 1) := by decide +kernel
theorem dX5_run_124 : decode cX5_run 124 = .ok (.getfield 25, 3) := by decide +kernel
theorem dX5_run_127 : decode cX5_run 127 = .ok (.invokevirtual 241, 3) := by decide +kernel
theorem dX5_run_130 : decode cX5_run 130 = .ok (.aload_n 0, 1) := by decide +kernel
theorem dX5_run_131 : decode cX5_run 131 = .ok (.getfield 32, 3) := by decide +kernel
theorem dX5_run_134 : decode cX5_run 134 = .ok (.getfield 225, 3) := by decide +kernel
theorem dX5_run_137 : decode cX5_run 137 = .ok (.ireturn, 1) := by decide +kernel
theorem dX5_errorPosition_0 : decode cX5_errorPosition 0 = .ok (.aload_n 0, 1) := by decide +kernel
theorem dX5_errorPosition_1 : decode cX5_errorPosition 1 = .ok (.getfield 47, 3) := by decide +kernel
theorem dX5_errorPosition_4 : decode cX5_errorPosition 4 = .ok (.ireturn, 1) := by decide +kernel
theorem dX5_refusal_0 : decode cX5_refusal 0 = .ok (.aload_n 0, 1) := by decide +kernel
theorem dX5_refusal_1 : decode cX5_refusal 1 = .ok (.getfield 51, 3) := by decide +kernel
theorem dX5_refusal_4 : decode cX5_refusal 4 = .ok (.ifCond .ne 13, 3) := by decide +kernel
theorem dX5_refusal_7 : decode cX5_refusal 7 = .ok (.new 136, 3) := by decide +kernel
theorem dX5_refusal_10 : decode cX5_refusal 10 = .ok (.dup, 1) := by decide +kernel
theorem dX5_refusal_11 : decode cX5_refusal 11 = .ok (.ldc 244, 2) := by decide +kernel
theorem dX5_refusal_13 : decode cX5_refusal 13 = .ok (.invokespecial 140, 3) := by decide +kernel
theorem dX5_refusal_16 : decode cX5_refusal 16 = .ok (.athrow, 1) := by decide +kernel
theorem dX5_refusal_17 : decode cX5_refusal 17 = .ok (.iload_n 1, 1) := by decide +kernel
theorem dX5_refusal_18 : decode cX5_refusal 18 = .ok (.ifCond .eq 10, 3) := by decide +kernel
theorem dX5_refusal_21 : decode cX5_refusal 21 = .ok (.aload_n 0, 1) := by decide +kernel
theorem dX5_refusal_22 : decode cX5_refusal 22 = .ok (.getfield 54, 3) := by decide +kernel
theorem dX5_refusal_25 : decode cX5_refusal 25 = .ok (.goto 7, 3) := by decide +kernel
theorem dX5_refusal_28 : decode cX5_refusal 28 = .ok (.aload_n 0, 1) := by decide +kernel
theorem dX5_refusal_29 : decode cX5_refusal 29 = .ok (.getfield 51, 3) := by decide +kernel
theorem dX5_refusal_32 : decode cX5_refusal 32 = .ok (.ireturn, 1) := by decide +kernel
set_option maxRecDepth 20000 in
theorem ggX5_account_X3_sumOfStools : GoodIn wsX5_account wsX3_sumOfStools := goodIn_ca (goodIn_r _ [18, 19, 20, 21, 22, 17, 23, 24, 49, 50, 51, 52, 53, 54, 55, 56] (by decide +kernel) (by decide +kernel)) (goodIn_sub (fun _ h => List.mem_cons_of_mem _ (List.mem_append_right _ h)) (by decide +kernel))
set_option maxRecDepth 20000 in
theorem gX5_account_X3_sumOfStools : GoodIn wsX5_account (wsV RX5 246 RX3 yX3_sumOfStools wsX3_sumOfStools) := goodIn_app (goodIn_of _ (by decide +kernel)) ggX5_account_X3_sumOfStools
set_option maxRecDepth 20000 in
theorem ggX5_account_X3_cats : GoodIn wsX5_account wsX3_cats := goodIn_ca (goodIn_r _ [28, 29, 30, 31, 32, 17, 33, 34, 49, 50, 51, 52, 53, 54, 55, 56] (by decide +kernel) (by decide +kernel)) (goodIn_sub (fun _ h => List.mem_cons_of_mem _ (List.mem_append_right _ h)) (by decide +kernel))
set_option maxRecDepth 20000 in
theorem gX5_account_X3_cats : GoodIn wsX5_account (wsV RX5 252 RX3 yX3_cats wsX3_cats) := goodIn_app (goodIn_of _ (by decide +kernel)) ggX5_account_X3_cats
set_option maxRecDepth 20000 in
theorem ggX5_account_X3_takenStools : GoodIn wsX5_account wsX3_takenStools := goodIn_ca (goodIn_r _ [38, 19, 20, 21, 22, 17, 23, 24, 49, 50, 51, 52, 53, 54, 55, 56] (by decide +kernel) (by decide +kernel)) (goodIn_sub (fun _ h => List.mem_cons_of_mem _ (List.mem_append_right _ h)) (by decide +kernel))
set_option maxRecDepth 20000 in
theorem gX5_account_X3_takenStools : GoodIn wsX5_account (wsV RX5 255 RX3 yX3_takenStools wsX3_takenStools) := goodIn_app (goodIn_of _ (by decide +kernel)) ggX5_account_X3_takenStools
theorem dX5_account_0 : decode cX5_account 0 = .ok (.iload_n 1, 1) := by decide +kernel
theorem dX5_account_1 : decode cX5_account 1 = .ok (.tableswitch 184 0 12 #[67, 75, 84, 92, 100, 118, 126, 135, 143, 151, 159, 168, 176], 67) := by decide +kernel
theorem dX5_account_68 : decode cX5_account 68 = .ok (.aload_n 0, 1) := by decide +kernel
theorem dX5_account_69 : decode cX5_account 69 = .ok (.getfield 10, 3) := by decide +kernel
theorem dX5_account_72 : decode cX5_account 72 = .ok (.getfield 124, 3) := by decide +kernel
theorem dX5_account_75 : decode cX5_account 75 = .ok (.ireturn, 1) := by decide +kernel
theorem dX5_account_76 : decode cX5_account 76 = .ok (.aload_n 0, 1) := by decide +kernel
theorem dX5_account_77 : decode cX5_account 77 = .ok (.getfield 10, 3) := by decide +kernel
theorem dX5_account_80 : decode cX5_account 80 = .ok (.iconst 3, 1) := by decide +kernel
theorem dX5_account_81 : decode cX5_account 81 = .ok (.invokevirtual 246, 3) := by decide +kernel
theorem dX5_account_84 : decode cX5_account 84 = .ok (.ireturn, 1) := by decide +kernel
theorem dX5_account_85 : decode cX5_account 85 = .ok (.aload_n 0, 1) := by decide +kernel
theorem dX5_account_86 : decode cX5_account 86 = .ok (.getfield 10, 3) := by decide +kernel
theorem dX5_account_89 : decode cX5_account 89 = .ok (.getfield 249, 3) := by decide +kernel
theorem dX5_account_92 : decode cX5_account 92 = .ok (.ireturn, 1) := by decide +kernel
theorem dX5_account_93 : decode cX5_account 93 = .ok (.aload_n 0, 1) := by decide +kernel
theorem dX5_account_94 : decode cX5_account 94 = .ok (.getfield 10, 3) := by decide +kernel
theorem dX5_account_97 : decode cX5_account 97 = .ok (.invokevirtual 252, 3) := by decide +kernel
theorem dX5_account_100 : decode cX5_account 100 = .ok (.ireturn, 1) := by decide +kernel
theorem dX5_account_101 : decode cX5_account 101 = .ok (.aload_n 0, 1) := by decide +kernel
theorem dX5_account_102 : decode cX5_account 102 = .ok (.getfield 10, 3) := by decide +kernel
theorem dX5_account_105 : decode cX5_account 105 = .ok (.iconst 0, 1) := by decide +kernel
theorem dX5_account_106 : decode cX5_account 106 = .ok (.aload_n 0, 1) := by decide +kernel
theorem dX5_account_107 : decode cX5_account 107 = .ok (.getfield 10, 3) := by decide +kernel
theorem dX5_account_110 : decode cX5_account 110 = .ok (.getfield 124, 3) := by decide +kernel
theorem dX5_account_113 : decode cX5_account 113 = .ok (.iconst 1, 1) := by decide +kernel
theorem dX5_account_114 : decode cX5_account 114 = .ok (.isub, 1) := by decide +kernel
theorem dX5_account_115 : decode cX5_account 115 = .ok (.invokevirtual 255, 3) := by decide +kernel
theorem dX5_account_118 : decode cX5_account 118 = .ok (.ireturn, 1) := by decide +kernel
theorem dX5_account_119 : decode cX5_account 119 = .ok (.aload_n 0, 1) := by decide +kernel
theorem dX5_account_120 : decode cX5_account 120 = .ok (.getfield 10, 3) := by decide +kernel
theorem dX5_account_123 : decode cX5_account 123 = .ok (.getfield 258, 3) := by decide +kernel
theorem dX5_account_126 : decode cX5_account 126 = .ok (.ireturn, 1) := by decide +kernel
theorem dX5_account_127 : decode cX5_account 127 = .ok (.aload_n 0, 1) := by decide +kernel
theorem dX5_account_128 : decode cX5_account 128 = .ok (.getfield 10, 3) := by decide +kernel
theorem dX5_account_131 : decode cX5_account 131 = .ok (.iconst 4, 1) := by decide +kernel
theorem dX5_account_132 : decode cX5_account 132 = .ok (.invokevirtual 246, 3) := by decide +kernel
theorem dX5_account_135 : decode cX5_account 135 = .ok (.ireturn, 1) := by decide +kernel
theorem dX5_account_136 : decode cX5_account 136 = .ok (.aload_n 0, 1) := by decide +kernel
theorem dX5_account_137 : decode cX5_account 137 = .ok (.getfield 10, 3) := by decide +kernel
theorem dX5_account_140 : decode cX5_account 140 = .ok (.getfield 261, 3) := by decide +kernel
theorem dX5_account_143 : decode cX5_account 143 = .ok (.ireturn, 1) := by decide +kernel
theorem dX5_account_144 : decode cX5_account 144 = .ok (.aload_n 0, 1) := by decide +kernel
theorem dX5_account_145 : decode cX5_account 145 = .ok (.getfield 10, 3) := by decide +kernel
theorem dX5_account_148 : decode cX5_account 148 = .ok (.getfield 264, 3) := by decide +kernel
theorem dX5_account_151 : decode cX5_account 151 = .ok (.ireturn, 1) := by decide +kernel
theorem dX5_account_152 : decode cX5_account 152 = .ok (.aload_n 0, 1) := by decide +kernel
theorem dX5_account_153 : decode cX5_account 153 = .ok (.getfield 10, 3) := by decide +kernel
theorem dX5_account_156 : decode cX5_account 156 = .ok (.getfield 267, 3) := by decide +kernel
theorem dX5_account_159 : decode cX5_account 159 = .ok (.ireturn, 1) := by decide +kernel
theorem dX5_account_160 : decode cX5_account 160 = .ok (.aload_n 0, 1) := by decide +kernel
theorem dX5_account_161 : decode cX5_account 161 = .ok (.getfield 10, 3) := by decide +kernel
theorem dX5_account_164 : decode cX5_account 164 = .ok (.iconst 2, 1) := by decide +kernel
theorem dX5_account_165 : decode cX5_account 165 = .ok (.invokevirtual 246, 3) := by decide +kernel
theorem dX5_account_168 : decode cX5_account 168 = .ok (.ireturn, 1) := by decide +kernel
theorem dX5_account_169 : decode cX5_account 169 = .ok (.aload_n 0, 1) := by decide +kernel
theorem dX5_account_170 : decode cX5_account 170 = .ok (.getfield 32, 3) := by decide +kernel
theorem dX5_account_173 : decode cX5_account 173 = .ok (.getfield 212, 3) := by decide +kernel
theorem dX5_account_176 : decode cX5_account 176 = .ok (.ireturn, 1) := by decide +kernel
theorem dX5_account_177 : decode cX5_account 177 = .ok (.aload_n 0, 1) := by decide +kernel
theorem dX5_account_178 : decode cX5_account 178 = .ok (.getfield 25, 3) := by decide +kernel
theorem dX5_account_181 : decode cX5_account 181 = .ok (.getfield 270, 3) := by decide +kernel
theorem dX5_account_184 : decode cX5_account 184 = .ok (.ireturn, 1) := by decide +kernel
theorem dX5_account_185 : decode cX5_account 185 = .ok (.new 86, 3) := by decide +kernel
theorem dX5_account_188 : decode cX5_account 188 = .ok (.dup, 1) := by decide +kernel
theorem dX5_account_189 : decode cX5_account 189 = .ok (.ldc_w 273, 3) := by decide +kernel
theorem dX5_account_192 : decode cX5_account 192 = .ok (.invokespecial 90, 3) := by decide +kernel
theorem dX5_account_195 : decode cX5_account 195 = .ok (.athrow, 1) := by decide +kernel
set_option maxRecDepth 20000 in
theorem ggX5_isWell_X3_clashesByPairs : GoodIn wsX5_isWell wsX3_clashesByPairs := goodIn_ca (goodIn_r _ [8, 9, 10, 11, 12, 7, 13, 14, 15, 16, 17, 18, 19, 20, 21, 22, 23, 24, 25, 26, 27, 63, 64, 65, 66, 67, 68, 69, 70] (by decide +kernel) (by decide +kernel)) (goodIn_sub (fun _ h => List.mem_cons_of_mem _ (List.mem_append_right _ h)) (by decide +kernel))
set_option maxRecDepth 20000 in
theorem gX5_isWell_X3_clashesByPairs : GoodIn wsX5_isWell (wsV RX5 111 RX3 yX3_clashesByPairs wsX3_clashesByPairs) := goodIn_app (goodIn_of _ (by decide +kernel)) ggX5_isWell_X3_clashesByPairs
set_option maxRecDepth 20000 in
theorem ggX5_isWell_X3_clashesByStools : GoodIn wsX5_isWell wsX3_clashesByStools := goodIn_ca (goodIn_r _ [31, 32, 23, 24, 25, 7, 26, 27, 18, 19, 20, 21, 22, 33, 34, 35, 36, 63, 64, 65, 66, 67, 68, 69, 70] (by decide +kernel) (by decide +kernel)) (goodIn_sub (fun _ h => List.mem_cons_of_mem _ (List.mem_append_right _ h)) (by decide +kernel))
set_option maxRecDepth 20000 in
theorem gX5_isWell_X3_clashesByStools : GoodIn wsX5_isWell (wsV RX5 107 RX3 yX3_clashesByStools wsX3_clashesByStools) := goodIn_app (goodIn_of _ (by decide +kernel)) ggX5_isWell_X3_clashesByStools
set_option maxRecDepth 20000 in
theorem ggX5_isWell_X3_stoolsAreWell : GoodIn wsX5_isWell wsX3_stoolsAreWell := goodIn_ca (goodIn_r _ [40, 32, 23, 24, 25, 7, 26, 27, 18, 19, 20, 21, 22, 41, 42, 43, 44, 63, 64, 65, 66, 67, 68, 69, 70] (by decide +kernel) (by decide +kernel)) (goodIn_sub (fun _ h => List.mem_cons_of_mem _ (List.mem_append_right _ h)) (by decide +kernel))
set_option maxRecDepth 20000 in
theorem gX5_isWell_X3_stoolsAreWell : GoodIn wsX5_isWell (wsV RX5 275 RX3 yX3_stoolsAreWell wsX3_stoolsAreWell) := goodIn_app (goodIn_of _ (by decide +kernel)) ggX5_isWell_X3_stoolsAreWell
set_option maxRecDepth 20000 in
theorem ggX5_isWell_X3_sittersAreWell : GoodIn wsX5_isWell wsX3_sittersAreWell := goodIn_ca (goodIn_r _ [48, 9, 18, 19, 20, 7, 21, 22, 23, 24, 25, 26, 27, 63, 64, 65, 66, 67, 68, 69, 70] (by decide +kernel) (by decide +kernel)) (goodIn_sub (fun _ h => List.mem_cons_of_mem _ (List.mem_append_right _ h)) (by decide +kernel))
set_option maxRecDepth 20000 in
theorem gX5_isWell_X3_sittersAreWell : GoodIn wsX5_isWell (wsV RX5 279 RX3 yX3_sittersAreWell wsX3_sittersAreWell) := goodIn_app (goodIn_of _ (by decide +kernel)) ggX5_isWell_X3_sittersAreWell
set_option maxRecDepth 20000 in
theorem ggX5_isWell_X3_sumOfStools : GoodIn wsX5_isWell wsX3_sumOfStools := goodIn_ca (goodIn_r _ [52, 32, 23, 24, 25, 7, 26, 27, 63, 64, 65, 66, 67, 68, 69, 70] (by decide +kernel) (by decide +kernel)) (goodIn_sub (fun _ h => List.mem_cons_of_mem _ (List.mem_append_right _ h)) (by decide +kernel))
set_option maxRecDepth 20000 in
theorem gX5_isWell_X3_sumOfStools : GoodIn wsX5_isWell (wsV RX5 246 RX3 yX3_sumOfStools wsX3_sumOfStools) := goodIn_app (goodIn_of _ (by decide +kernel)) ggX5_isWell_X3_sumOfStools
theorem dX5_isWell_0 : decode cX5_isWell 0 = .ok (.aload_n 0, 1) := by decide +kernel
theorem dX5_isWell_1 : decode cX5_isWell 1 = .ok (.getfield 10, 3) := by decide +kernel
theorem dX5_isWell_4 : decode cX5_isWell 4 = .ok (.invokevirtual 111, 3) := by decide +kernel
theorem dX5_isWell_7 : decode cX5_isWell 7 = .ok (.aload_n 0, 1) := by decide +kernel
theorem dX5_isWell_8 : decode cX5_isWell 8 = .ok (.getfield 10, 3) := by decide +kernel
theorem dX5_isWell_11 : decode cX5_isWell 11 = .ok (.invokevirtual 107, 3) := by decide +kernel
theorem dX5_isWell_14 : decode cX5_isWell 14 = .ok (.if_icmp .ne 56, 3) := by decide +kernel
theorem dX5_isWell_17 : decode cX5_isWell 17 = .ok (.aload_n 0, 1) := by decide +kernel
theorem dX5_isWell_18 : decode cX5_isWell 18 = .ok (.getfield 10, 3) := by decide +kernel
theorem dX5_isWell_21 : decode cX5_isWell 21 = .ok (.invokevirtual 275, 3) := by decide +kernel
theorem dX5_isWell_24 : decode cX5_isWell 24 = .ok (.ifCond .eq 46, 3) := by decide +kernel
theorem dX5_isWell_27 : decode cX5_isWell 27 = .ok (.aload_n 0, 1) := by decide +kernel
theorem dX5_isWell_28 : decode cX5_isWell 28 = .ok (.getfield 10, 3) := by decide +kernel
theorem dX5_isWell_31 : decode cX5_isWell 31 = .ok (.invokevirtual 279, 3) := by decide +kernel
theorem dX5_isWell_34 : decode cX5_isWell 34 = .ok (.ifCond .eq 36, 3) := by decide +kernel
theorem dX5_isWell_37 : decode cX5_isWell 37 = .ok (.aload_n 0, 1) := by decide +kernel
theorem dX5_isWell_38 : decode cX5_isWell 38 = .ok (.getfield 10, 3) := by decide +kernel
theorem dX5_isWell_41 : decode cX5_isWell 41 = .ok (.getfield 258, 3) := by decide +kernel
theorem dX5_isWell_44 : decode cX5_isWell 44 = .ok (.aload_n 0, 1) := by decide +kernel
theorem dX5_isWell_45 : decode cX5_isWell 45 = .ok (.getfield 10, 3) := by decide +kernel
theorem dX5_isWell_48 : decode cX5_isWell 48 = .ok (.iconst 4, 1) := by decide +kernel
theorem dX5_isWell_49 : decode cX5_isWell 49 = .ok (.invokevirtual 246, 3) := by decide +kernel
theorem dX5_isWell_52 : decode cX5_isWell 52 = .ok (.iadd, 1) := by decide +kernel
theorem dX5_isWell_53 : decode cX5_isWell 53 = .ok (.bipush 6, 2) := by decide +kernel
theorem dX5_isWell_55 : decode cX5_isWell 55 = .ok (.aload_n 0, 1) := by decide +kernel
theorem dX5_isWell_56 : decode cX5_isWell 56 = .ok (.getfield 10, 3) := by decide +kernel
theorem dX5_isWell_59 : decode cX5_isWell 59 = .ok (.getfield 267, 3) := by decide +kernel
theorem dX5_isWell_62 : decode cX5_isWell 62 = .ok (.iadd, 1) := by decide +kernel
theorem dX5_isWell_63 : decode cX5_isWell 63 = .ok (.if_icmp .ne 7, 3) := by decide +kernel
theorem dX5_isWell_66 : decode cX5_isWell 66 = .ok (.iconst 1, 1) := by decide +kernel
theorem dX5_isWell_67 : decode cX5_isWell 67 = .ok (.goto 4, 3) := by decide +kernel
theorem dX5_isWell_70 : decode cX5_isWell 70 = .ok (.iconst 0, 1) := by decide +kernel
theorem dX5_isWell_71 : decode cX5_isWell 71 = .ok (.ireturn, 1) := by decide +kernel
set_option maxRecDepth 20000 in
theorem ggX5_meanHeight_X3_takenStools : GoodIn wsX5_meanHeight wsX3_takenStools := goodIn_ca (goodIn_r _ [9, 10, 11, 12, 13, 8, 14, 15, 30, 31, 32, 33, 34, 35, 36, 37] (by decide +kernel) (by decide +kernel)) (goodIn_sub (fun _ h => List.mem_cons_of_mem _ (List.mem_append_right _ h)) (by decide +kernel))
set_option maxRecDepth 20000 in
theorem gX5_meanHeight_X3_takenStools : GoodIn wsX5_meanHeight (wsV RX5 255 RX3 yX3_takenStools wsX3_takenStools) := goodIn_app (goodIn_of _ (by decide +kernel)) ggX5_meanHeight_X3_takenStools
set_option maxRecDepth 20000 in
theorem ggX5_meanHeight_X3_sumOfTakenHeights : GoodIn wsX5_meanHeight wsX3_sumOfTakenHeights := goodIn_ca (goodIn_r _ [19, 10, 11, 12, 13, 8, 14, 15, 30, 31, 32, 33, 34, 35, 36, 37] (by decide +kernel) (by decide +kernel)) (goodIn_sub (fun _ h => List.mem_cons_of_mem _ (List.mem_append_right _ h)) (by decide +kernel))
set_option maxRecDepth 20000 in
theorem gX5_meanHeight_X3_sumOfTakenHeights : GoodIn wsX5_meanHeight (wsV RX5 287 RX3 yX3_sumOfTakenHeights wsX3_sumOfTakenHeights) := goodIn_app (goodIn_of _ (by decide +kernel)) ggX5_meanHeight_X3_sumOfTakenHeights
theorem dX5_meanHeight_0 : decode cX5_meanHeight 0 = .ok (.aload_n 0, 1) := by decide +kernel
theorem dX5_meanHeight_1 : decode cX5_meanHeight 1 = .ok (.getfield 10, 3) := by decide +kernel
theorem dX5_meanHeight_4 : decode cX5_meanHeight 4 = .ok (.iconst 0, 1) := by decide +kernel
theorem dX5_meanHeight_5 : decode cX5_meanHeight 5 = .ok (.aload_n 0, 1) := by decide +kernel
theorem dX5_meanHeight_6 : decode cX5_meanHeight 6 = .ok (.getfield 10, 3) := by decide +kernel
theorem dX5_meanHeight_9 : decode cX5_meanHeight 9 = .ok (.getfield 124, 3) := by decide +kernel
theorem dX5_meanHeight_12 : decode cX5_meanHeight 12 = .ok (.iconst 1, 1) := by decide +kernel
theorem dX5_meanHeight_13 : decode cX5_meanHeight 13 = .ok (.isub, 1) := by decide +kernel
theorem dX5_meanHeight_14 : decode cX5_meanHeight 14 = .ok (.invokevirtual 255, 3) := by decide +kernel
theorem dX5_meanHeight_17 : decode cX5_meanHeight 17 = .ok (.istore_n 1, 1) := by decide +kernel
theorem dX5_meanHeight_18 : decode cX5_meanHeight 18 = .ok (.iload_n 1, 1) := by decide +kernel
theorem dX5_meanHeight_19 : decode cX5_meanHeight 19 = .ok (.iconst 1, 1) := by decide +kernel
theorem dX5_meanHeight_20 : decode cX5_meanHeight 20 = .ok (.if_icmp .ge 14, 3) := by decide +kernel
theorem dX5_meanHeight_23 : decode cX5_meanHeight 23 = .ok (.new 282, 3) := by decide +kernel
theorem dX5_meanHeight_26 : decode cX5_meanHeight 26 = .ok (.dup, 1) := by decide +kernel
theorem dX5_meanHeight_27 : decode cX5_meanHeight 27 = .ok (.ldc_w 284, 3) := by decide +kernel
theorem dX5_meanHeight_30 : decode cX5_meanHeight 30 = .ok (.invokespecial 286, 3) := by decide +kernel
theorem dX5_meanHeight_33 : decode cX5_meanHeight 33 = .ok (.athrow, 1) := by decide +kernel
theorem dX5_meanHeight_34 : decode cX5_meanHeight 34 = .ok (.aload_n 0, 1) := by decide +kernel
theorem dX5_meanHeight_35 : decode cX5_meanHeight 35 = .ok (.getfield 10, 3) := by decide +kernel
theorem dX5_meanHeight_38 : decode cX5_meanHeight 38 = .ok (.invokevirtual 287, 3) := by decide +kernel
theorem dX5_meanHeight_41 : decode cX5_meanHeight 41 = .ok (.i2d, 1) := by decide +kernel
theorem dX5_meanHeight_42 : decode cX5_meanHeight 42 = .ok (.iload_n 1, 1) := by decide +kernel
theorem dX5_meanHeight_43 : decode cX5_meanHeight 43 = .ok (.i2d, 1) := by decide +kernel
theorem dX5_meanHeight_44 : decode cX5_meanHeight 44 = .ok (.ddiv, 1) := by decide +kernel
theorem dX5_meanHeight_45 : decode cX5_meanHeight 45 = .ok (.dreturn, 1) := by decide +kernel
set_option maxRecDepth 20000 in
theorem ggX5_undo_X1_stepBack : GoodIn wsX5_undo wsX1_stepBack := goodIn_r _ [10, 11, 12, 13, 14, 15, 9, 16, 17, 18, 19, 20, 21, 22, 23, 24, 25, 26, 27, 28, 29, 30, 31, 32, 33, 34, 35, 36, 37, 38, 39, 40, 41, 42, 53, 54, 55, 56, 57, 58, 59, 60, 61, 62, 63] (by decide +kernel) (by decide +kernel)
set_option maxRecDepth 20000 in
theorem gX5_undo_X1_stepBack : GoodIn wsX5_undo (wsV RX5 292 RX1 yX1_stepBack wsX1_stepBack) := goodIn_app (goodIn_of _ (by decide +kernel)) ggX5_undo_X1_stepBack
theorem dX5_undo_0 : decode cX5_undo 0 = .ok (.aload_n 0, 1) := by decide +kernel
theorem dX5_undo_1 : decode cX5_undo 1 = .ok (.getfield 25, 3) := by decide +kernel
theorem dX5_undo_4 : decode cX5_undo 4 = .ok (.getfield 270, 3) := by decide +kernel
theorem dX5_undo_7 : decode cX5_undo 7 = .ok (.iconst 1, 1) := by decide +kernel
theorem dX5_undo_8 : decode cX5_undo 8 = .ok (.if_icmp .ge 14, 3) := by decide +kernel
theorem dX5_undo_11 : decode cX5_undo 11 = .ok (.new 213, 3) := by decide +kernel
theorem dX5_undo_14 : decode cX5_undo 14 = .ok (.dup, 1) := by decide +kernel
theorem dX5_undo_15 : decode cX5_undo 15 = .ok (.ldc_w 290, 3) := by decide +kernel
theorem dX5_undo_18 : decode cX5_undo 18 = .ok (.invokespecial 217, 3) := by decide +kernel
theorem dX5_undo_21 : decode cX5_undo 21 = .ok (.athrow, 1) := by decide +kernel
theorem dX5_undo_22 : decode cX5_undo 22 = .ok (.aload_n 0, 1) := by decide +kernel
theorem dX5_undo_23 : decode cX5_undo 23 = .ok (.getfield 25, 3) := by decide +kernel
theorem dX5_undo_26 : decode cX5_undo 26 = .ok (.aload_n 0, 1) := by decide +kernel
theorem dX5_undo_27 : decode cX5_undo 27 = .ok (.getfield 10, 3) := by decide +kernel
theorem dX5_undo_30 : decode cX5_undo 30 = .ok (.invokevirtual 292, 3) := by decide +kernel
theorem dX5_undo_33 : decode cX5_undo 33 = .ok (.aload_n 0, 1) := by decide +kernel
theorem dX5_undo_34 : decode cX5_undo 34 = .ok (.getfield 25, 3) := by decide +kernel
theorem dX5_undo_37 : decode cX5_undo 37 = .ok (.getfield 270, 3) := by decide +kernel
theorem dX5_undo_40 : decode cX5_undo 40 = .ok (.ireturn, 1) := by decide +kernel
set_option maxRecDepth 20000 in
theorem ggX5_save_X3_copy : GoodIn wsX5_save wsX3_copy := goodIn_r _ [9, 10, 11, 12, 13, 14, 15, 16, 17, 18, 19, 20, 21, 22, 23, 24, 25, 36, 37, 38, 39, 40, 41, 42, 43] (by decide +kernel) (by decide +kernel)
set_option maxRecDepth 20000 in
theorem gX5_save_X3_copy : GoodIn wsX5_save (wsV RX5 121 RX3 yX3_copy wsX3_copy) := goodIn_app (goodIn_of _ (by decide +kernel)) ggX5_save_X3_copy
theorem dX5_save_0 : decode cX5_save 0 = .ok (.aload_n 0, 1) := by decide +kernel
theorem dX5_save_1 : decode cX5_save 1 = .ok (.getfield 19, 3) := by decide +kernel
theorem dX5_save_4 : decode cX5_save 4 = .ok (.aload_n 0, 1) := by decide +kernel
theorem dX5_save_5 : decode cX5_save 5 = .ok (.getfield 10, 3) := by decide +kernel
theorem dX5_save_8 : decode cX5_save 8 = .ok (.invokevirtual 121, 3) := by decide +kernel
theorem dX5_save_11 : decode cX5_save 11 = .ok (.aload_n 0, 1) := by decide +kernel
theorem dX5_save_12 : decode cX5_save 12 = .ok (.iconst 1, 1) := by decide +kernel
theorem dX5_save_13 : decode cX5_save 13 = .ok (.putfield 43, 3) := by decide +kernel
theorem dX5_save_16 : decode cX5_save 16 = .ok (.aload_n 0, 1) := by decide +kernel
theorem dX5_save_17 : decode cX5_save 17 = .ok (.getfield 10, 3) := by decide +kernel
theorem dX5_save_20 : decode cX5_save 20 = .ok (.getfield 249, 3) := by decide +kernel
theorem dX5_save_23 : decode cX5_save 23 = .ok (.ireturn, 1) := by decide +kernel
set_option maxRecDepth 20000 in
theorem ggX5_restore_X3_copy : GoodIn wsX5_restore wsX3_copy := goodIn_r _ [12, 13, 14, 15, 16, 17, 18, 19, 20, 21, 22, 23, 24, 25, 26, 27, 28, 45, 46, 47, 48, 49, 50, 51, 52] (by decide +kernel) (by decide +kernel)
set_option maxRecDepth 20000 in
theorem gX5_restore_X3_copy : GoodIn wsX5_restore (wsV RX5 121 RX3 yX3_copy wsX3_copy) := goodIn_app (goodIn_of _ (by decide +kernel)) ggX5_restore_X3_copy
set_option maxRecDepth 20000 in
theorem ggX5_restore_X1_forget : GoodIn wsX5_restore wsX1_forget := goodIn_r _ [33, 34, 53, 54, 55] (by decide +kernel) (by decide +kernel)
set_option maxRecDepth 20000 in
theorem gX5_restore_X1_forget : GoodIn wsX5_restore (wsV RX5 297 RX1 yX1_forget wsX1_forget) := goodIn_app (goodIn_of _ (by decide +kernel)) ggX5_restore_X1_forget
theorem dX5_restore_0 : decode cX5_restore 0 = .ok (.aload_n 0, 1) := by decide +kernel
theorem dX5_restore_1 : decode cX5_restore 1 = .ok (.getfield 43, 3) := by decide +kernel
theorem dX5_restore_4 : decode cX5_restore 4 = .ok (.ifCond .ne 14, 3) := by decide +kernel
theorem dX5_restore_7 : decode cX5_restore 7 = .ok (.new 213, 3) := by decide +kernel
theorem dX5_restore_10 : decode cX5_restore 10 = .ok (.dup, 1) := by decide +kernel
theorem dX5_restore_11 : decode cX5_restore 11 = .ok (.ldc_w 295, 3) := by decide +kernel
theorem dX5_restore_14 : decode cX5_restore 14 = .ok (.invokespecial 217, 3) := by decide +kernel
theorem dX5_restore_17 : decode cX5_restore 17 = .ok (.athrow, 1) := by decide +kernel
theorem dX5_restore_18 : decode cX5_restore 18 = .ok (.aload_n 0, 1) := by decide +kernel
theorem dX5_restore_19 : decode cX5_restore 19 = .ok (.getfield 10, 3) := by decide +kernel
theorem dX5_restore_22 : decode cX5_restore 22 = .ok (.aload_n 0, 1) := by decide +kernel
theorem dX5_restore_23 : decode cX5_restore 23 = .ok (.getfield 19, 3) := by decide +kernel
theorem dX5_restore_26 : decode cX5_restore 26 = .ok (.invokevirtual 121, 3) := by decide +kernel
theorem dX5_restore_29 : decode cX5_restore 29 = .ok (.aload_n 0, 1) := by decide +kernel
theorem dX5_restore_30 : decode cX5_restore 30 = .ok (.getfield 25, 3) := by decide +kernel
theorem dX5_restore_33 : decode cX5_restore 33 = .ok (.invokevirtual 297, 3) := by decide +kernel
theorem dX5_restore_36 : decode cX5_restore 36 = .ok (.aload_n 0, 1) := by decide +kernel
theorem dX5_restore_37 : decode cX5_restore 37 = .ok (.getfield 10, 3) := by decide +kernel
theorem dX5_restore_40 : decode cX5_restore 40 = .ok (.getfield 249, 3) := by decide +kernel
theorem dX5_restore_43 : decode cX5_restore 43 = .ok (.ireturn, 1) := by decide +kernel
set_option maxRecDepth 20000 in
theorem ggX5_requireStool_X3_hasStool : GoodIn wsX5_requireStool wsX3_hasStool := goodIn_r _ [8, 9, 20, 21, 22, 23, 24, 25, 26, 27] (by decide +kernel) (by decide +kernel)
set_option maxRecDepth 20000 in
theorem gX5_requireStool_X3_hasStool : GoodIn wsX5_requireStool (wsV RX5 300 RX3 yX3_hasStool wsX3_hasStool) := goodIn_app (goodIn_of _ (by decide +kernel)) ggX5_requireStool_X3_hasStool
theorem dX5_requireStool_0 : decode cX5_requireStool 0 = .ok (.aload_n 0, 1) := by decide +kernel
theorem dX5_requireStool_1 : decode cX5_requireStool 1 = .ok (.getfield 10, 3) := by decide +kernel
theorem dX5_requireStool_4 : decode cX5_requireStool 4 = .ok (.iload_n 1, 1) := by decide +kernel
theorem dX5_requireStool_5 : decode cX5_requireStool 5 = .ok (.invokevirtual 300, 3) := by decide +kernel
theorem dX5_requireStool_8 : decode cX5_requireStool 8 = .ok (.ifCond .ne 14, 3) := by decide +kernel
theorem dX5_requireStool_11 : decode cX5_requireStool 11 = .ok (.new 203, 3) := by decide +kernel
theorem dX5_requireStool_14 : decode cX5_requireStool 14 = .ok (.dup, 1) := by decide +kernel
theorem dX5_requireStool_15 : decode cX5_requireStool 15 = .ok (.ldc_w 304, 3) := by decide +kernel
theorem dX5_requireStool_18 : decode cX5_requireStool 18 = .ok (.invokespecial 207, 3) := by decide +kernel
theorem dX5_requireStool_21 : decode cX5_requireStool 21 = .ok (.athrow, 1) := by decide +kernel
theorem dX5_requireStool_22 : decode cX5_requireStool 22 = .ok (.return_, 1) := by decide +kernel
set_option maxRecDepth 20000 in
theorem ggX5_requireSitter_X3_hasSitter : GoodIn wsX5_requireSitter wsX3_hasSitter := goodIn_r _ [8, 9, 20, 21, 22, 23, 24, 25, 26, 27] (by decide +kernel) (by decide +kernel)
set_option maxRecDepth 20000 in
theorem gX5_requireSitter_X3_hasSitter : GoodIn wsX5_requireSitter (wsV RX5 306 RX3 yX3_hasSitter wsX3_hasSitter) := goodIn_app (goodIn_of _ (by decide +kernel)) ggX5_requireSitter_X3_hasSitter
theorem dX5_requireSitter_0 : decode cX5_requireSitter 0 = .ok (.aload_n 0, 1) := by decide +kernel
theorem dX5_requireSitter_1 : decode cX5_requireSitter 1 = .ok (.getfield 10, 3) := by decide +kernel
theorem dX5_requireSitter_4 : decode cX5_requireSitter 4 = .ok (.iload_n 1, 1) := by decide +kernel
theorem dX5_requireSitter_5 : decode cX5_requireSitter 5 = .ok (.invokevirtual 306, 3) := by decide +kernel
theorem dX5_requireSitter_8 : decode cX5_requireSitter 8 = .ok (.ifCond .ne 14, 3) := by decide +kernel
theorem dX5_requireSitter_11 : decode cX5_requireSitter 11 = .ok (.new 203, 3) := by decide +kernel
theorem dX5_requireSitter_14 : decode cX5_requireSitter 14 = .ok (.dup, 1) := by decide +kernel
theorem dX5_requireSitter_15 : decode cX5_requireSitter 15 = .ok (.ldc_w 309, 3) := by decide +kernel
theorem dX5_requireSitter_18 : decode cX5_requireSitter 18 = .ok (.invokespecial 207, 3) := by decide +kernel
theorem dX5_requireSitter_21 : decode cX5_requireSitter 21 = .ok (.athrow, 1) := by decide +kernel
theorem dX5_requireSitter_22 : decode cX5_requireSitter 22 = .ok (.return_, 1) := by decide +kernel
set_option maxRecDepth 20000 in
theorem ggX5_settled_X1_keep : GoodIn wsX5_settled wsX1_keep := goodIn_r _ [12, 13, 14, 15, 16, 17, 18, 29, 30, 31] (by decide +kernel) (by decide +kernel)
set_option maxRecDepth 20000 in
theorem gX5_settled_X1_keep : GoodIn wsX5_settled (wsV RX5 241 RX1 yX1_keep wsX1_keep) := goodIn_app (goodIn_of _ (by decide +kernel)) ggX5_settled_X1_keep
theorem dX5_settled_0 : decode cX5_settled 0 = .ok (.iload_n 1, 1) := by decide +kernel
theorem dX5_settled_1 : decode cX5_settled 1 = .ok (.iconst (-1), 1) := by decide +kernel
theorem dX5_settled_2 : decode cX5_settled 2 = .ok (.if_icmp .ne 14, 3) := by decide +kernel
theorem dX5_settled_5 : decode cX5_settled 5 = .ok (.new 203, 3) := by decide +kernel
theorem dX5_settled_8 : decode cX5_settled 8 = .ok (.dup, 1) := by decide +kernel
theorem dX5_settled_9 : decode cX5_settled 9 = .ok (.ldc_w 311, 3) := by decide +kernel
theorem dX5_settled_12 : decode cX5_settled 12 = .ok (.invokespecial 207, 3) := by decide +kernel
theorem dX5_settled_15 : decode cX5_settled 15 = .ok (.athrow, 1) := by decide +kernel
theorem dX5_settled_16 : decode cX5_settled 16 = .ok (.iload_n 1, 1) := by decide +kernel
theorem dX5_settled_17 : decode cX5_settled 17 = .ok (.bipush (-2), 2) := by decide +kernel
theorem dX5_settled_19 : decode cX5_settled 19 = .ok (.if_icmp .ne 14, 3) := by decide +kernel
theorem dX5_settled_22 : decode cX5_settled 22 = .ok (.new 86, 3) := by decide +kernel
theorem dX5_settled_25 : decode cX5_settled 25 = .ok (.dup, 1) := by decide +kernel
theorem dX5_settled_26 : decode cX5_settled 26 = .ok (.ldc_w 313, 3) := by decide +kernel
theorem dX5_settled_29 : decode cX5_settled 29 = .ok (.invokespecial 90, 3) := by decide +kernel
theorem dX5_settled_32 : decode cX5_settled 32 = .ok (.athrow, 1) := by decide +kernel
theorem dX5_settled_33 : decode cX5_settled 33 = .ok (.iload_n 1, 1) := by decide +kernel
theorem dX5_settled_34 : decode cX5_settled 34 = .ok (.bipush (-3), 2) := by decide +kernel
theorem dX5_settled_36 : decode cX5_settled 36 = .ok (.if_icmp .ne 14, 3) := by decide +kernel
theorem dX5_settled_39 : decode cX5_settled 39 = .ok (.new 234, 3) := by decide +kernel
theorem dX5_settled_42 : decode cX5_settled 42 = .ok (.dup, 1) := by decide +kernel
theorem dX5_settled_43 : decode cX5_settled 43 = .ok (.ldc_w 315, 3) := by decide +kernel
theorem dX5_settled_46 : decode cX5_settled 46 = .ok (.invokespecial 238, 3) := by decide +kernel
theorem dX5_settled_49 : decode cX5_settled 49 = .ok (.athrow, 1) := by decide +kernel
theorem dX5_settled_50 : decode cX5_settled 50 = .ok (.aload_n 0, 1) := by decide +kernel
theorem dX5_settled_51 : decode cX5_settled 51 = .ok (.getfield 25, 3) := by decide +kernel
theorem dX5_settled_54 : decode cX5_settled 54 = .ok (.invokevirtual 241, 3) := by decide +kernel
theorem dX5_settled_57 : decode cX5_settled 57 = .ok (.iload_n 1, 1) := by decide +kernel
theorem dX5_settled_58 : decode cX5_settled 58 = .ok (.ireturn, 1) := by decide +kernel
theorem dX5_refuse_0 : decode cX5_refuse 0 = .ok (.aload_n 0, 1) := by decide +kernel
theorem dX5_refuse_1 : decode cX5_refuse 1 = .ok (.iload_n 1, 1) := by decide +kernel
theorem dX5_refuse_2 : decode cX5_refuse 2 = .ok (.putfield 51, 3) := by decide +kernel
theorem dX5_refuse_5 : decode cX5_refuse 5 = .ok (.aload_n 0, 1) := by decide +kernel
theorem dX5_refuse_6 : decode cX5_refuse 6 = .ok (.iload_n 2, 1) := by decide +kernel
theorem dX5_refuse_7 : decode cX5_refuse 7 = .ok (.putfield 54, 3) := by decide +kernel
theorem dX5_refuse_10 : decode cX5_refuse 10 = .ok (.bipush (-3), 2) := by decide +kernel
theorem dX5_refuse_12 : decode cX5_refuse 12 = .ok (.ireturn, 1) := by decide +kernel
set_option maxRecDepth 20000 in
theorem ggX5_setUpStool_X5_refuse : GoodIn wsX5_setUpStool wsX5_refuse := goodIn_r _ [7, 8, 9, 21, 22, 23, 24, 25, 26, 27, 28, 29, 30] (by decide +kernel) (by decide +kernel)
set_option maxRecDepth 20000 in
theorem gX5_setUpStool_X5_refuse : GoodIn wsX5_setUpStool (wsV RX5 317 RX5 yX5_refuse wsX5_refuse) := goodIn_app (goodIn_of _ (by decide +kernel)) ggX5_setUpStool_X5_refuse
set_option maxRecDepth 20000 in
theorem ggX5_setUpStool_X3_addStool : GoodIn wsX5_setUpStool wsX3_addStool := goodIn_ca (goodIn_r _ [14, 15, 16, 17, 18, 13, 19, 20, 31, 32, 33, 34, 35, 36, 37, 38] (by decide +kernel) (by decide +kernel)) (goodIn_sub (fun _ h => List.mem_cons_of_mem _ (List.mem_append_right _ h)) (by decide +kernel))
set_option maxRecDepth 20000 in
theorem gX5_setUpStool_X3_addStool : GoodIn wsX5_setUpStool (wsV RX5 320 RX3 yX3_addStool wsX3_addStool) := goodIn_app (goodIn_of _ (by decide +kernel)) ggX5_setUpStool_X3_addStool
theorem dX5_setUpStool_0 : decode cX5_setUpStool 0 = .ok (.iload_n 1, 1) := by decide +kernel
theorem dX5_setUpStool_1 : decode cX5_setUpStool 1 = .ok (.iconst 1, 1) := by decide +kernel
theorem dX5_setUpStool_2 : decode cX5_setUpStool 2 = .ok (.if_icmp .lt 29, 3) := by decide +kernel
theorem dX5_setUpStool_5 : decode cX5_setUpStool 5 = .ok (.iload_n 1, 1) := by decide +kernel
theorem dX5_setUpStool_6 : decode cX5_setUpStool 6 = .ok (.bipush 40, 2) := by decide +kernel
theorem dX5_setUpStool_8 : decode cX5_setUpStool 8 = .ok (.if_icmp .gt 23, 3) := by decide +kernel
theorem dX5_setUpStool_11 : decode cX5_setUpStool 11 = .ok (.iload_n 2, 1) := by decide +kernel
theorem dX5_setUpStool_12 : decode cX5_setUpStool 12 = .ok (.ifCond .lt 19, 3) := by decide +kernel
theorem dX5_setUpStool_15 : decode cX5_setUpStool 15 = .ok (.iload_n 2, 1) := by decide +kernel
theorem dX5_setUpStool_16 : decode cX5_setUpStool 16 = .ok (.bipush 9, 2) := by decide +kernel
theorem dX5_setUpStool_18 : decode cX5_setUpStool 18 = .ok (.if_icmp .gt 13, 3) := by decide +kernel
theorem dX5_setUpStool_21 : decode cX5_setUpStool 21 = .ok (.iload_n 3, 1) := by decide +kernel
theorem dX5_setUpStool_22 : decode cX5_setUpStool 22 = .ok (.ifCond .lt 9, 3) := by decide +kernel
theorem dX5_setUpStool_25 : decode cX5_setUpStool 25 = .ok (.iload_n 3, 1) := by decide +kernel
theorem dX5_setUpStool_26 : decode cX5_setUpStool 26 = .ok (.bipush 9, 2) := by decide +kernel
theorem dX5_setUpStool_28 : decode cX5_setUpStool 28 = .ok (.if_icmp .le 6, 3) := by decide +kernel
theorem dX5_setUpStool_31 : decode cX5_setUpStool 31 = .ok (.bipush (-2), 2) := by decide +kernel
theorem dX5_setUpStool_33 : decode cX5_setUpStool 33 = .ok (.ireturn, 1) := by decide +kernel
theorem dX5_setUpStool_34 : decode cX5_setUpStool 34 = .ok (.aload_n 0, 1) := by decide +kernel
theorem dX5_setUpStool_35 : decode cX5_setUpStool 35 = .ok (.getfield 10, 3) := by decide +kernel
theorem dX5_setUpStool_38 : decode cX5_setUpStool 38 = .ok (.getfield 124, 3) := by decide +kernel
theorem dX5_setUpStool_41 : decode cX5_setUpStool 41 = .ok (.bipush 12, 2) := by decide +kernel
theorem dX5_setUpStool_43 : decode cX5_setUpStool 43 = .ok (.if_icmp .lt 16, 3) := by decide +kernel
theorem dX5_setUpStool_46 : decode cX5_setUpStool 46 = .ok (.aload_n 0, 1) := by decide +kernel
theorem dX5_setUpStool_47 : decode cX5_setUpStool 47 = .ok (.iconst 1, 1) := by decide +kernel
theorem dX5_setUpStool_48 : decode cX5_setUpStool 48 = .ok (.aload_n 0, 1) := by decide +kernel
theorem dX5_setUpStool_49 : decode cX5_setUpStool 49 = .ok (.getfield 10, 3) := by decide +kernel
theorem dX5_setUpStool_52 : decode cX5_setUpStool 52 = .ok (.getfield 124, 3) := by decide +kernel
theorem dX5_setUpStool_55 : decode cX5_setUpStool 55 = .ok (.invokevirtual 317, 3) := by decide +kernel
theorem dX5_setUpStool_58 : decode cX5_setUpStool 58 = .ok (.ireturn, 1) := by decide +kernel
theorem dX5_setUpStool_59 : decode cX5_setUpStool 59 = .ok (.aload_n 0, 1) := by decide +kernel
theorem dX5_setUpStool_60 : decode cX5_setUpStool 60 = .ok (.getfield 10, 3) := by decide +kernel
theorem dX5_setUpStool_63 : decode cX5_setUpStool 63 = .ok (.iload_n 1, 1) := by decide +kernel
theorem dX5_setUpStool_64 : decode cX5_setUpStool 64 = .ok (.iload_n 2, 1) := by decide +kernel
theorem dX5_setUpStool_65 : decode cX5_setUpStool 65 = .ok (.iload_n 3, 1) := by decide +kernel
theorem dX5_setUpStool_66 : decode cX5_setUpStool 66 = .ok (.iload 4, 2) := by decide +kernel
theorem dX5_setUpStool_68 : decode cX5_setUpStool 68 = .ok (.invokevirtual 320, 3) := by decide +kernel
theorem dX5_setUpStool_71 : decode cX5_setUpStool 71 = .ok (.ireturn, 1) := by decide +kernel
set_option maxRecDepth 20000 in
theorem ggX5_letGuestCome_X5_letSitterCome : GoodIn wsX5_letGuestCome wsX5_letSitterCome := goodIn_ca (goodIn_r _ [5, 6, 7, 8, 9, 10, 4, 11, 12, 13, 14, 15, 16, 17, 18, 19, 20, 21, 22, 23, 24, 25, 26, 27, 28, 29, 30, 31, 32, 33, 34, 35, 36, 37, 38, 39, 40, 41, 42] (by decide +kernel) (by decide +kernel)) (goodIn_sub (fun _ h => List.mem_cons_of_mem _ (List.mem_append_right _ h)) (by decide +kernel))
set_option maxRecDepth 20000 in
theorem gX5_letGuestCome_X5_letSitterCome : GoodIn wsX5_letGuestCome (wsV RX5 73 RX5 yX5_letSitterCome wsX5_letSitterCome) := goodIn_app (goodIn_of _ (by decide +kernel)) ggX5_letGuestCome_X5_letSitterCome
theorem dX5_letGuestCome_0 : decode cX5_letGuestCome 0 = .ok (.iload_n 1, 1) := by decide +kernel
theorem dX5_letGuestCome_1 : decode cX5_letGuestCome 1 = .ok (.iconst 1, 1) := by decide +kernel
theorem dX5_letGuestCome_2 : decode cX5_letGuestCome 2 = .ok (.if_icmp .lt 9, 3) := by decide +kernel
theorem dX5_letGuestCome_5 : decode cX5_letGuestCome 5 = .ok (.iload_n 1, 1) := by decide +kernel
theorem dX5_letGuestCome_6 : decode cX5_letGuestCome 6 = .ok (.bipush 9, 2) := by decide +kernel
theorem dX5_letGuestCome_8 : decode cX5_letGuestCome 8 = .ok (.if_icmp .le 8, 3) := by decide +kernel
theorem dX5_letGuestCome_11 : decode cX5_letGuestCome 11 = .ok (.bipush (-2), 2) := by decide +kernel
theorem dX5_letGuestCome_13 : decode cX5_letGuestCome 13 = .ok (.goto 9, 3) := by decide +kernel
theorem dX5_letGuestCome_16 : decode cX5_letGuestCome 16 = .ok (.aload_n 0, 1) := by decide +kernel
theorem dX5_letGuestCome_17 : decode cX5_letGuestCome 17 = .ok (.iload_n 1, 1) := by decide +kernel
theorem dX5_letGuestCome_18 : decode cX5_letGuestCome 18 = .ok (.iload_n 2, 1) := by decide +kernel
theorem dX5_letGuestCome_19 : decode cX5_letGuestCome 19 = .ok (.invokevirtual 73, 3) := by decide +kernel
theorem dX5_letGuestCome_22 : decode cX5_letGuestCome 22 = .ok (.ireturn, 1) := by decide +kernel
set_option maxRecDepth 20000 in
theorem ggX5_letSitterCome_X5_refuse : GoodIn wsX5_letSitterCome wsX5_refuse := goodIn_r _ [7, 8, 9, 21, 22, 23, 24, 25, 26, 27, 28, 29, 30] (by decide +kernel) (by decide +kernel)
set_option maxRecDepth 20000 in
theorem gX5_letSitterCome_X5_refuse : GoodIn wsX5_letSitterCome (wsV RX5 317 RX5 yX5_refuse wsX5_refuse) := goodIn_app (goodIn_of _ (by decide +kernel)) ggX5_letSitterCome_X5_refuse
set_option maxRecDepth 20000 in
theorem ggX5_letSitterCome_X3_addSitter : GoodIn wsX5_letSitterCome wsX3_addSitter := goodIn_ca (goodIn_r _ [14, 15, 16, 17, 18, 13, 19, 20, 31, 32, 33, 34, 35, 36, 37, 38] (by decide +kernel) (by decide +kernel)) (goodIn_sub (fun _ h => List.mem_cons_of_mem _ (List.mem_append_right _ h)) (by decide +kernel))
set_option maxRecDepth 20000 in
theorem gX5_letSitterCome_X3_addSitter : GoodIn wsX5_letSitterCome (wsV RX5 323 RX3 yX3_addSitter wsX3_addSitter) := goodIn_app (goodIn_of _ (by decide +kernel)) ggX5_letSitterCome_X3_addSitter
theorem dX5_letSitterCome_0 : decode cX5_letSitterCome 0 = .ok (.iload_n 2, 1) := by decide +kernel
theorem dX5_letSitterCome_1 : decode cX5_letSitterCome 1 = .ok (.iconst 1, 1) := by decide +kernel
theorem dX5_letSitterCome_2 : decode cX5_letSitterCome 2 = .ok (.if_icmp .lt 10, 3) := by decide +kernel
theorem dX5_letSitterCome_5 : decode cX5_letSitterCome 5 = .ok (.iload_n 2, 1) := by decide +kernel
theorem dX5_letSitterCome_6 : decode cX5_letSitterCome 6 = .ok (.sipush 200, 3) := by decide +kernel
theorem dX5_letSitterCome_9 : decode cX5_letSitterCome 9 = .ok (.if_icmp .le 6, 3) := by decide +kernel
theorem dX5_letSitterCome_12 : decode cX5_letSitterCome 12 = .ok (.bipush (-2), 2) := by decide +kernel
theorem dX5_letSitterCome_14 : decode cX5_letSitterCome 14 = .ok (.ireturn, 1) := by decide +kernel
theorem dX5_letSitterCome_15 : decode cX5_letSitterCome 15 = .ok (.aload_n 0, 1) := by decide +kernel
theorem dX5_letSitterCome_16 : decode cX5_letSitterCome 16 = .ok (.getfield 10, 3) := by decide +kernel
theorem dX5_letSitterCome_19 : decode cX5_letSitterCome 19 = .ok (.getfield 249, 3) := by decide +kernel
theorem dX5_letSitterCome_22 : decode cX5_letSitterCome 22 = .ok (.bipush 12, 2) := by decide +kernel
theorem dX5_letSitterCome_24 : decode cX5_letSitterCome 24 = .ok (.if_icmp .lt 16, 3) := by decide +kernel
theorem dX5_letSitterCome_27 : decode cX5_letSitterCome 27 = .ok (.aload_n 0, 1) := by decide +kernel
theorem dX5_letSitterCome_28 : decode cX5_letSitterCome 28 = .ok (.iconst 1, 1) := by decide +kernel
theorem dX5_letSitterCome_29 : decode cX5_letSitterCome 29 = .ok (.aload_n 0, 1) := by decide +kernel
theorem dX5_letSitterCome_30 : decode cX5_letSitterCome 30 = .ok (.getfield 10, 3) := by decide +kernel
theorem dX5_letSitterCome_33 : decode cX5_letSitterCome 33 = .ok (.getfield 249, 3) := by decide +kernel
theorem dX5_letSitterCome_36 : decode cX5_letSitterCome 36 = .ok (.invokevirtual 317, 3) := by decide +kernel
theorem dX5_letSitterCome_39 : decode cX5_letSitterCome 39 = .ok (.ireturn, 1) := by decide +kernel
theorem dX5_letSitterCome_40 : decode cX5_letSitterCome 40 = .ok (.aload_n 0, 1) := by decide +kernel
theorem dX5_letSitterCome_41 : decode cX5_letSitterCome 41 = .ok (.getfield 10, 3) := by decide +kernel
theorem dX5_letSitterCome_44 : decode cX5_letSitterCome 44 = .ok (.iload_n 1, 1) := by decide +kernel
theorem dX5_letSitterCome_45 : decode cX5_letSitterCome 45 = .ok (.iload_n 2, 1) := by decide +kernel
theorem dX5_letSitterCome_46 : decode cX5_letSitterCome 46 = .ok (.invokevirtual 323, 3) := by decide +kernel
theorem dX5_letSitterCome_49 : decode cX5_letSitterCome 49 = .ok (.ireturn, 1) := by decide +kernel
set_option maxRecDepth 20000 in
theorem ggX5_seat_X3_hasSitter : GoodIn wsX5_seat wsX3_hasSitter := goodIn_r _ [6, 7, 73, 74, 75, 76, 77, 78, 79, 80] (by decide +kernel) (by decide +kernel)
set_option maxRecDepth 20000 in
theorem gX5_seat_X3_hasSitter : GoodIn wsX5_seat (wsV RX5 306 RX3 yX3_hasSitter wsX3_hasSitter) := goodIn_app (goodIn_of _ (by decide +kernel)) ggX5_seat_X3_hasSitter
set_option maxRecDepth 20000 in
theorem ggX5_seat_X3_hasStool : GoodIn wsX5_seat wsX3_hasStool := goodIn_r _ [11, 12, 73, 74, 75, 76, 77, 78, 79, 80] (by decide +kernel) (by decide +kernel)
set_option maxRecDepth 20000 in
theorem gX5_seat_X3_hasStool : GoodIn wsX5_seat (wsV RX5 300 RX3 yX3_hasStool wsX3_hasStool) := goodIn_app (goodIn_of _ (by decide +kernel)) ggX5_seat_X3_hasStool
set_option maxRecDepth 20000 in
theorem ggX5_seat_X3_ofStool : GoodIn wsX5_seat wsX3_ofStool := goodIn_ca (goodIn_r _ [16, 17, 73, 74, 75, 76, 77, 78, 79, 80] (by decide +kernel) (by decide +kernel)) (goodIn_sub (fun _ h => List.mem_cons_of_mem _ (List.mem_append_right _ h)) (by decide +kernel))
set_option maxRecDepth 20000 in
theorem gX5_seat_X3_ofStool : GoodIn wsX5_seat (wsV RX5 93 RX3 yX3_ofStool wsX3_ofStool) := goodIn_app (goodIn_of _ (by decide +kernel)) ggX5_seat_X3_ofStool
set_option maxRecDepth 20000 in
theorem ggX5_seat_X5_refuse : GoodIn wsX5_seat wsX5_refuse := goodIn_r _ [22, 23, 24, 63, 64, 65, 66, 67, 68, 69, 70, 71, 72] (by decide +kernel) (by decide +kernel)
set_option maxRecDepth 20000 in
theorem gX5_seat_X5_refuse : GoodIn wsX5_seat (wsV RX5 317 RX5 yX5_refuse wsX5_refuse) := goodIn_app (goodIn_of _ (by decide +kernel)) ggX5_seat_X5_refuse
set_option maxRecDepth 20000 in
theorem ggX5_seat_X3_maySit : GoodIn wsX5_seat wsX3_maySit := goodIn_ca (goodIn_r _ [28, 29, 30, 31, 5, 32, 33, 34, 14, 15, 16, 17, 73, 74, 75, 76, 77, 78, 79, 80] (by decide +kernel) (by decide +kernel)) (goodIn_sub (fun _ h => List.mem_cons_of_mem _ (List.mem_append_right _ h)) (by decide +kernel))
set_option maxRecDepth 20000 in
theorem gX5_seat_X3_maySit : GoodIn wsX5_seat (wsV RX5 326 RX3 yX3_maySit wsX3_maySit) := goodIn_app (goodIn_of _ (by decide +kernel)) ggX5_seat_X3_maySit
set_option maxRecDepth 20000 in
theorem ggX5_seat_X3_leave : GoodIn wsX5_seat wsX3_leave := goodIn_ca (goodIn_r _ [38, 29, 30, 31, 5, 32, 33, 39, 40, 41, 42, 17, 43, 44, 45, 46, 73, 74, 75, 76, 77, 78, 79, 80] (by decide +kernel) (by decide +kernel)) (goodIn_sub (fun _ h => List.mem_cons_of_mem _ (List.mem_append_right _ h)) (by decide +kernel))
set_option maxRecDepth 20000 in
theorem gX5_seat_X3_leave : GoodIn wsX5_seat (wsV RX5 329 RX3 yX3_leave wsX3_leave) := goodIn_app (goodIn_of _ (by decide +kernel)) ggX5_seat_X3_leave
set_option maxRecDepth 20000 in
theorem ggX5_seat_X3_take : GoodIn wsX5_seat wsX3_take := goodIn_ca (goodIn_r _ [50, 43, 44, 45, 5, 46, 33, 39, 40, 41, 42, 17, 73, 74, 75, 76, 77, 78, 79, 80] (by decide +kernel) (by decide +kernel)) (goodIn_sub (fun _ h => List.mem_cons_of_mem _ (List.mem_append_right _ h)) (by decide +kernel))
set_option maxRecDepth 20000 in
theorem gX5_seat_X3_take : GoodIn wsX5_seat (wsV RX5 332 RX3 yX3_take wsX3_take) := goodIn_app (goodIn_of _ (by decide +kernel)) ggX5_seat_X3_take
set_option maxRecDepth 20000 in
theorem ggX5_seat_X3_clashesWith : GoodIn wsX5_seat wsX3_clashesWith := goodIn_ca (goodIn_r _ [54, 7, 55, 56, 57, 5, 58, 59, 60, 61, 62, 29, 30, 31, 32, 33, 34, 14, 15, 16, 17, 73, 74, 75, 76, 77, 78, 79, 80] (by decide +kernel) (by decide +kernel)) (goodIn_sub (fun _ h => List.mem_cons_of_mem _ (List.mem_append_right _ h)) (by decide +kernel))
set_option maxRecDepth 20000 in
theorem gX5_seat_X3_clashesWith : GoodIn wsX5_seat (wsV RX5 102 RX3 yX3_clashesWith wsX3_clashesWith) := goodIn_app (goodIn_of _ (by decide +kernel)) ggX5_seat_X3_clashesWith
theorem dX5_seat_0 : decode cX5_seat 0 = .ok (.aload_n 0, 1) := by decide +kernel
theorem dX5_seat_1 : decode cX5_seat 1 = .ok (.getfield 10, 3) := by decide +kernel
theorem dX5_seat_4 : decode cX5_seat 4 = .ok (.iload_n 1, 1) := by decide +kernel
theorem dX5_seat_5 : decode cX5_seat 5 = .ok (.invokevirtual 306, 3) := by decide +kernel
theorem dX5_seat_8 : decode cX5_seat 8 = .ok (.ifCond .eq 14, 3) := by decide +kernel
theorem dX5_seat_11 : decode cX5_seat 11 = .ok (.aload_n 0, 1) := by decide +kernel
theorem dX5_seat_12 : decode cX5_seat 12 = .ok (.getfield 10, 3) := by decide +kernel
theorem dX5_seat_15 : decode cX5_seat 15 = .ok (.iload_n 2, 1) := by decide +kernel
theorem dX5_seat_16 : decode cX5_seat 16 = .ok (.invokevirtual 300, 3) := by decide +kernel
theorem dX5_seat_19 : decode cX5_seat 19 = .ok (.ifCond .ne 5, 3) := by decide +kernel
theorem dX5_seat_22 : decode cX5_seat 22 = .ok (.iconst (-1), 1) := by decide +kernel
theorem dX5_seat_23 : decode cX5_seat 23 = .ok (.ireturn, 1) := by decide +kernel
theorem dX5_seat_24 : decode cX5_seat 24 = .ok (.aload_n 0, 1) := by decide +kernel
theorem dX5_seat_25 : decode cX5_seat 25 = .ok (.getfield 10, 3) := by decide +kernel
theorem dX5_seat_28 : decode cX5_seat 28 = .ok (.iload_n 2, 1) := by decide +kernel
theorem dX5_seat_29 : decode cX5_seat 29 = .ok (.iconst 5, 1) := by decide +kernel
theorem dX5_seat_30 : decode cX5_seat 30 = .ok (.invokevirtual 93, 3) := by decide +kernel
theorem dX5_seat_33 : decode cX5_seat 33 = .ok (.istore_n 3, 1) := by decide +kernel
theorem dX5_seat_34 : decode cX5_seat 34 = .ok (.iload_n 3, 1) := by decide +kernel
theorem dX5_seat_35 : decode cX5_seat 35 = .ok (.iload_n 1, 1) := by decide +kernel
theorem dX5_seat_36 : decode cX5_seat 36 = .ok (.if_icmp .ne 10, 3) := by decide +kernel
theorem dX5_seat_39 : decode cX5_seat 39 = .ok (.aload_n 0, 1) := by decide +kernel
theorem dX5_seat_40 : decode cX5_seat 40 = .ok (.iconst 4, 1) := by decide +kernel
theorem dX5_seat_41 : decode cX5_seat 41 = .ok (.iload_n 1, 1) := by decide +kernel
theorem dX5_seat_42 : decode cX5_seat 42 = .ok (.invokevirtual 317, 3) := by decide +kernel
theorem dX5_seat_45 : decode cX5_seat 45 = .ok (.ireturn, 1) := by decide +kernel
theorem dX5_seat_46 : decode cX5_seat 46 = .ok (.iload_n 3, 1) := by decide +kernel
theorem dX5_seat_47 : decode cX5_seat 47 = .ok (.iconst (-1), 1) := by decide +kernel
theorem dX5_seat_48 : decode cX5_seat 48 = .ok (.if_icmp .eq 10, 3) := by decide +kernel
theorem dX5_seat_51 : decode cX5_seat 51 = .ok (.aload_n 0, 1) := by decide +kernel
theorem dX5_seat_52 : decode cX5_seat 52 = .ok (.iconst 2, 1) := by decide +kernel
theorem dX5_seat_53 : decode cX5_seat 53 = .ok (.iload_n 3, 1) := by decide +kernel
theorem dX5_seat_54 : decode cX5_seat 54 = .ok (.invokevirtual 317, 3) := by decide +kernel
theorem dX5_seat_57 : decode cX5_seat 57 = .ok (.ireturn, 1) := by decide +kernel
theorem dX5_seat_58 : decode cX5_seat 58 = .ok (.aload_n 0, 1) := by decide +kernel
theorem dX5_seat_59 : decode cX5_seat 59 = .ok (.getfield 10, 3) := by decide +kernel
theorem dX5_seat_62 : decode cX5_seat 62 = .ok (.iload_n 1, 1) := by decide +kernel
theorem dX5_seat_63 : decode cX5_seat 63 = .ok (.iload_n 2, 1) := by decide +kernel
theorem dX5_seat_64 : decode cX5_seat 64 = .ok (.invokevirtual 326, 3) := by decide +kernel
theorem dX5_seat_67 : decode cX5_seat 67 = .ok (.ifCond .ne 10, 3) := by decide +kernel
theorem dX5_seat_70 : decode cX5_seat 70 = .ok (.aload_n 0, 1) := by decide +kernel
theorem dX5_seat_71 : decode cX5_seat 71 = .ok (.iconst 3, 1) := by decide +kernel
theorem dX5_seat_72 : decode cX5_seat 72 = .ok (.iload_n 2, 1) := by decide +kernel
theorem dX5_seat_73 : decode cX5_seat 73 = .ok (.invokevirtual 317, 3) := by decide +kernel
theorem dX5_seat_76 : decode cX5_seat 76 = .ok (.ireturn, 1) := by decide +kernel
theorem dX5_seat_77 : decode cX5_seat 77 = .ok (.aload_n 0, 1) := by decide +kernel
theorem dX5_seat_78 : decode cX5_seat 78 = .ok (.getfield 10, 3) := by decide +kernel
theorem dX5_seat_81 : decode cX5_seat 81 = .ok (.iload_n 1, 1) := by decide +kernel
theorem dX5_seat_82 : decode cX5_seat 82 = .ok (.invokevirtual 329, 3) := by decide +kernel
theorem dX5_seat_85 : decode cX5_seat 85 = .ok (.pop, 1) := by decide +kernel
theorem dX5_seat_86 : decode cX5_seat 86 = .ok (.aload_n 0, 1) := by decide +kernel
theorem dX5_seat_87 : decode cX5_seat 87 = .ok (.getfield 10, 3) := by decide +kernel
theorem dX5_seat_90 : decode cX5_seat 90 = .ok (.iload_n 1, 1) := by decide +kernel
theorem dX5_seat_91 : decode cX5_seat 91 = .ok (.iload_n 2, 1) := by decide +kernel
theorem dX5_seat_92 : decode cX5_seat 92 = .ok (.invokevirtual 332, 3) := by decide +kernel
theorem dX5_seat_95 : decode cX5_seat 95 = .ok (.aload_n 0, 1) := by decide +kernel
theorem dX5_seat_96 : decode cX5_seat 96 = .ok (.getfield 10, 3) := by decide +kernel
theorem dX5_seat_99 : decode cX5_seat 99 = .ok (.iload_n 1, 1) := by decide +kernel
theorem dX5_seat_100 : decode cX5_seat 100 = .ok (.invokevirtual 102, 3) := by decide +kernel
theorem dX5_seat_103 : decode cX5_seat 103 = .ok (.ireturn, 1) := by decide +kernel
set_option maxRecDepth 20000 in
theorem ggX5_letGetUp_X3_hasSitter : GoodIn wsX5_letGetUp wsX3_hasSitter := goodIn_r _ [6, 7, 47, 48, 49, 50, 51, 52, 53, 54] (by decide +kernel) (by decide +kernel)
set_option maxRecDepth 20000 in
theorem gX5_letGetUp_X3_hasSitter : GoodIn wsX5_letGetUp (wsV RX5 306 RX3 yX3_hasSitter wsX3_hasSitter) := goodIn_app (goodIn_of _ (by decide +kernel)) ggX5_letGetUp_X3_hasSitter
set_option maxRecDepth 20000 in
theorem ggX5_letGetUp_X3_sits : GoodIn wsX5_letGetUp wsX3_sits := goodIn_ca (goodIn_r _ [11, 12, 13, 14, 5, 15, 16, 47, 48, 49, 50, 51, 52, 53, 54] (by decide +kernel) (by decide +kernel)) (goodIn_sub (fun _ h => List.mem_cons_of_mem _ (List.mem_append_right _ h)) (by decide +kernel))
set_option maxRecDepth 20000 in
theorem gX5_letGetUp_X3_sits : GoodIn wsX5_letGetUp (wsV RX5 336 RX3 yX3_sits wsX3_sits) := goodIn_app (goodIn_of _ (by decide +kernel)) ggX5_letGetUp_X3_sits
set_option maxRecDepth 20000 in
theorem ggX5_letGetUp_X5_refuse : GoodIn wsX5_letGetUp wsX5_refuse := goodIn_r _ [21, 22, 23, 37, 38, 39, 40, 41, 42, 43, 44, 45, 46] (by decide +kernel) (by decide +kernel)
set_option maxRecDepth 20000 in
theorem gX5_letGetUp_X5_refuse : GoodIn wsX5_letGetUp (wsV RX5 317 RX5 yX5_refuse wsX5_refuse) := goodIn_app (goodIn_of _ (by decide +kernel)) ggX5_letGetUp_X5_refuse
set_option maxRecDepth 20000 in
theorem ggX5_letGetUp_X3_leave : GoodIn wsX5_letGetUp wsX3_leave := goodIn_ca (goodIn_r _ [27, 12, 13, 14, 5, 15, 16, 28, 29, 30, 31, 32, 33, 34, 35, 36, 47, 48, 49, 50, 51, 52, 53, 54] (by decide +kernel) (by decide +kernel)) (goodIn_sub (fun _ h => List.mem_cons_of_mem _ (List.mem_append_right _ h)) (by decide +kernel))
set_option maxRecDepth 20000 in
theorem gX5_letGetUp_X3_leave : GoodIn wsX5_letGetUp (wsV RX5 329 RX3 yX3_leave wsX3_leave) := goodIn_app (goodIn_of _ (by decide +kernel)) ggX5_letGetUp_X3_leave
theorem dX5_letGetUp_0 : decode cX5_letGetUp 0 = .ok (.aload_n 0, 1) := by decide +kernel
theorem dX5_letGetUp_1 : decode cX5_letGetUp 1 = .ok (.getfield 10, 3) := by decide +kernel
theorem dX5_letGetUp_4 : decode cX5_letGetUp 4 = .ok (.iload_n 1, 1) := by decide +kernel
theorem dX5_letGetUp_5 : decode cX5_letGetUp 5 = .ok (.invokevirtual 306, 3) := by decide +kernel
theorem dX5_letGetUp_8 : decode cX5_letGetUp 8 = .ok (.ifCond .ne 5, 3) := by decide +kernel
theorem dX5_letGetUp_11 : decode cX5_letGetUp 11 = .ok (.iconst (-1), 1) := by decide +kernel
theorem dX5_letGetUp_12 : decode cX5_letGetUp 12 = .ok (.ireturn, 1) := by decide +kernel
theorem dX5_letGetUp_13 : decode cX5_letGetUp 13 = .ok (.aload_n 0, 1) := by decide +kernel
theorem dX5_letGetUp_14 : decode cX5_letGetUp 14 = .ok (.getfield 10, 3) := by decide +kernel
theorem dX5_letGetUp_17 : decode cX5_letGetUp 17 = .ok (.iload_n 1, 1) := by decide +kernel
theorem dX5_letGetUp_18 : decode cX5_letGetUp 18 = .ok (.invokevirtual 336, 3) := by decide +kernel
theorem dX5_letGetUp_21 : decode cX5_letGetUp 21 = .ok (.ifCond .ne 10, 3) := by decide +kernel
theorem dX5_letGetUp_24 : decode cX5_letGetUp 24 = .ok (.aload_n 0, 1) := by decide +kernel
theorem dX5_letGetUp_25 : decode cX5_letGetUp 25 = .ok (.iconst 4, 1) := by decide +kernel
theorem dX5_letGetUp_26 : decode cX5_letGetUp 26 = .ok (.iload_n 1, 1) := by decide +kernel
theorem dX5_letGetUp_27 : decode cX5_letGetUp 27 = .ok (.invokevirtual 317, 3) := by decide +kernel
theorem dX5_letGetUp_30 : decode cX5_letGetUp 30 = .ok (.ireturn, 1) := by decide +kernel
theorem dX5_letGetUp_31 : decode cX5_letGetUp 31 = .ok (.aload_n 0, 1) := by decide +kernel
theorem dX5_letGetUp_32 : decode cX5_letGetUp 32 = .ok (.getfield 10, 3) := by decide +kernel
theorem dX5_letGetUp_35 : decode cX5_letGetUp 35 = .ok (.iload_n 1, 1) := by decide +kernel
theorem dX5_letGetUp_36 : decode cX5_letGetUp 36 = .ok (.invokevirtual 329, 3) := by decide +kernel
theorem dX5_letGetUp_39 : decode cX5_letGetUp 39 = .ok (.ireturn, 1) := by decide +kernel
set_option maxRecDepth 20000 in
theorem ggX5_letBrawl_X3_hasStool : GoodIn wsX5_letBrawl wsX3_hasStool := goodIn_r _ [8, 9, 74, 75, 76, 77, 78, 79, 80, 81] (by decide +kernel) (by decide +kernel)
set_option maxRecDepth 20000 in
theorem gX5_letBrawl_X3_hasStool : GoodIn wsX5_letBrawl (wsV RX5 300 RX3 yX3_hasStool wsX3_hasStool) := goodIn_app (goodIn_of _ (by decide +kernel)) ggX5_letBrawl_X3_hasStool
set_option maxRecDepth 20000 in
theorem ggX5_letBrawl_X3_takenStools : GoodIn wsX5_letBrawl wsX3_takenStools := goodIn_ca (goodIn_r _ [13, 9, 14, 15, 16, 7, 17, 18, 74, 75, 76, 77, 78, 79, 80, 81] (by decide +kernel) (by decide +kernel)) (goodIn_sub (fun _ h => List.mem_cons_of_mem _ (List.mem_append_right _ h)) (by decide +kernel))
set_option maxRecDepth 20000 in
theorem gX5_letBrawl_X3_takenStools : GoodIn wsX5_letBrawl (wsV RX5 255 RX3 yX3_takenStools wsX3_takenStools) := goodIn_app (goodIn_of _ (by decide +kernel)) ggX5_letBrawl_X3_takenStools
set_option maxRecDepth 20000 in
theorem ggX5_letBrawl_X5_refuse : GoodIn wsX5_letBrawl wsX5_refuse := goodIn_r _ [23, 24, 25, 64, 65, 66, 67, 68, 69, 70, 71, 72, 73] (by decide +kernel) (by decide +kernel)
set_option maxRecDepth 20000 in
theorem gX5_letBrawl_X5_refuse : GoodIn wsX5_letBrawl (wsV RX5 317 RX5 yX5_refuse wsX5_refuse) := goodIn_app (goodIn_of _ (by decide +kernel)) ggX5_letBrawl_X5_refuse
set_option maxRecDepth 20000 in
theorem ggX5_letBrawl_X3_seatAnew : GoodIn wsX5_letBrawl wsX3_seatAnew := goodIn_ca (goodIn_r _ [29, 9, 30, 31, 32, 33, 7, 34, 18, 35, 36, 37, 38, 39, 40, 41, 42, 43, 44, 45, 46, 47, 48, 49, 50, 51, 14, 15, 16, 17, 52, 53, 54, 55, 56, 57, 58, 59, 60, 61, 62, 63, 74, 75, 76, 77, 78, 79, 80, 81] (by decide +kernel) (by decide +kernel)) (goodIn_sub (fun _ h => List.mem_cons_of_mem _ (List.mem_append_right _ h)) (by decide +kernel))
set_option maxRecDepth 20000 in
theorem gX5_letBrawl_X3_seatAnew : GoodIn wsX5_letBrawl (wsV RX5 127 RX3 yX3_seatAnew wsX3_seatAnew) := goodIn_app (goodIn_of _ (by decide +kernel)) ggX5_letBrawl_X3_seatAnew
theorem dX5_letBrawl_0 : decode cX5_letBrawl 0 = .ok (.aload_n 0, 1) := by decide +kernel
theorem dX5_letBrawl_1 : decode cX5_letBrawl 1 = .ok (.getfield 10, 3) := by decide +kernel
theorem dX5_letBrawl_4 : decode cX5_letBrawl 4 = .ok (.iload_n 1, 1) := by decide +kernel
theorem dX5_letBrawl_5 : decode cX5_letBrawl 5 = .ok (.invokevirtual 300, 3) := by decide +kernel
theorem dX5_letBrawl_8 : decode cX5_letBrawl 8 = .ok (.ifCond .eq 14, 3) := by decide +kernel
theorem dX5_letBrawl_11 : decode cX5_letBrawl 11 = .ok (.aload_n 0, 1) := by decide +kernel
theorem dX5_letBrawl_12 : decode cX5_letBrawl 12 = .ok (.getfield 10, 3) := by decide +kernel
theorem dX5_letBrawl_15 : decode cX5_letBrawl 15 = .ok (.iload_n 2, 1) := by decide +kernel
theorem dX5_letBrawl_16 : decode cX5_letBrawl 16 = .ok (.invokevirtual 300, 3) := by decide +kernel
theorem dX5_letBrawl_19 : decode cX5_letBrawl 19 = .ok (.ifCond .ne 5, 3) := by decide +kernel
theorem dX5_letBrawl_22 : decode cX5_letBrawl 22 = .ok (.iconst (-1), 1) := by decide +kernel
theorem dX5_letBrawl_23 : decode cX5_letBrawl 23 = .ok (.ireturn, 1) := by decide +kernel
theorem dX5_letBrawl_24 : decode cX5_letBrawl 24 = .ok (.iload_n 2, 1) := by decide +kernel
theorem dX5_letBrawl_25 : decode cX5_letBrawl 25 = .ok (.iload_n 1, 1) := by decide +kernel
theorem dX5_letBrawl_26 : decode cX5_letBrawl 26 = .ok (.if_icmp .ge 6, 3) := by decide +kernel
theorem dX5_letBrawl_29 : decode cX5_letBrawl 29 = .ok (.bipush (-2), 2) := by decide +kernel
theorem dX5_letBrawl_31 : decode cX5_letBrawl 31 = .ok (.ireturn, 1) := by decide +kernel
theorem dX5_letBrawl_32 : decode cX5_letBrawl 32 = .ok (.aload_n 0, 1) := by decide +kernel
theorem dX5_letBrawl_33 : decode cX5_letBrawl 33 = .ok (.getfield 10, 3) := by decide +kernel
theorem dX5_letBrawl_36 : decode cX5_letBrawl 36 = .ok (.iload_n 1, 1) := by decide +kernel
theorem dX5_letBrawl_37 : decode cX5_letBrawl 37 = .ok (.iload_n 2, 1) := by decide +kernel
theorem dX5_letBrawl_38 : decode cX5_letBrawl 38 = .ok (.invokevirtual 255, 3) := by decide +kernel
theorem dX5_letBrawl_41 : decode cX5_letBrawl 41 = .ok (.ifCond .ne 27, 3) := by decide +kernel
theorem dX5_letBrawl_44 : decode cX5_letBrawl 44 = .ok (.aload_n 0, 1) := by decide +kernel
theorem dX5_letBrawl_45 : decode cX5_letBrawl 45 = .ok (.bipush 8, 2) := by decide +kernel
theorem dX5_letBrawl_47 : decode cX5_letBrawl 47 = .ok (.aload_n 0, 1) := by decide +kernel
theorem dX5_letBrawl_48 : decode cX5_letBrawl 48 = .ok (.getfield 10, 3) := by decide +kernel
theorem dX5_letBrawl_51 : decode cX5_letBrawl 51 = .ok (.iconst 0, 1) := by decide +kernel
theorem dX5_letBrawl_52 : decode cX5_letBrawl 52 = .ok (.aload_n 0, 1) := by decide +kernel
theorem dX5_letBrawl_53 : decode cX5_letBrawl 53 = .ok (.getfield 10, 3) := by decide +kernel
theorem dX5_letBrawl_56 : decode cX5_letBrawl 56 = .ok (.getfield 124, 3) := by decide +kernel
theorem dX5_letBrawl_59 : decode cX5_letBrawl 59 = .ok (.iconst 1, 1) := by decide +kernel
theorem dX5_letBrawl_60 : decode cX5_letBrawl 60 = .ok (.isub, 1) := by decide +kernel
theorem dX5_letBrawl_61 : decode cX5_letBrawl 61 = .ok (.invokevirtual 255, 3) := by decide +kernel
theorem dX5_letBrawl_64 : decode cX5_letBrawl 64 = .ok (.invokevirtual 317, 3) := by decide +kernel
theorem dX5_letBrawl_67 : decode cX5_letBrawl 67 = .ok (.ireturn, 1) := by decide +kernel
theorem dX5_letBrawl_68 : decode cX5_letBrawl 68 = .ok (.aload_n 0, 1) := by decide +kernel
theorem dX5_letBrawl_69 : decode cX5_letBrawl 69 = .ok (.getfield 10, 3) := by decide +kernel
theorem dX5_letBrawl_72 : decode cX5_letBrawl 72 = .ok (.dup, 1) := by decide +kernel
theorem dX5_letBrawl_73 : decode cX5_letBrawl 73 = .ok (.getfield 264, 3) := by decide +kernel
theorem dX5_letBrawl_76 : decode cX5_letBrawl 76 = .ok (.iconst 1, 1) := by decide +kernel
theorem dX5_letBrawl_77 : decode cX5_letBrawl 77 = .ok (.iadd, 1) := by decide +kernel
theorem dX5_letBrawl_78 : decode cX5_letBrawl 78 = .ok (.putfield 264, 3) := by decide +kernel
theorem dX5_letBrawl_81 : decode cX5_letBrawl 81 = .ok (.aload_n 0, 1) := by decide +kernel
theorem dX5_letBrawl_82 : decode cX5_letBrawl 82 = .ok (.getfield 10, 3) := by decide +kernel
theorem dX5_letBrawl_85 : decode cX5_letBrawl 85 = .ok (.iload_n 1, 1) := by decide +kernel
theorem dX5_letBrawl_86 : decode cX5_letBrawl 86 = .ok (.iload_n 2, 1) := by decide +kernel
theorem dX5_letBrawl_87 : decode cX5_letBrawl 87 = .ok (.invokevirtual 127, 3) := by decide +kernel
theorem dX5_letBrawl_90 : decode cX5_letBrawl 90 = .ok (.ireturn, 1) := by decide +kernel
set_option maxRecDepth 20000 in
theorem ggX5_letSwap_X3_hasSitter : GoodIn wsX5_letSwap wsX3_hasSitter := goodIn_r _ [6, 7, 69, 70, 71, 72, 73, 74, 75, 76] (by decide +kernel) (by decide +kernel)
set_option maxRecDepth 20000 in
theorem gX5_letSwap_X3_hasSitter : GoodIn wsX5_letSwap (wsV RX5 306 RX3 yX3_hasSitter wsX3_hasSitter) := goodIn_app (goodIn_of _ (by decide +kernel)) ggX5_letSwap_X3_hasSitter
set_option maxRecDepth 20000 in
theorem ggX5_letSwap_X3_sits : GoodIn wsX5_letSwap wsX3_sits := goodIn_ca (goodIn_r _ [11, 12, 13, 14, 5, 15, 16, 69, 70, 71, 72, 73, 74, 75, 76] (by decide +kernel) (by decide +kernel)) (goodIn_sub (fun _ h => List.mem_cons_of_mem _ (List.mem_append_right _ h)) (by decide +kernel))
set_option maxRecDepth 20000 in
theorem gX5_letSwap_X3_sits : GoodIn wsX5_letSwap (wsV RX5 336 RX3 yX3_sits wsX3_sits) := goodIn_app (goodIn_of _ (by decide +kernel)) ggX5_letSwap_X3_sits
set_option maxRecDepth 20000 in
theorem ggX5_letSwap_X5_refuse : GoodIn wsX5_letSwap wsX5_refuse := goodIn_r _ [21, 22, 23, 59, 60, 61, 62, 63, 64, 65, 66, 67, 68] (by decide +kernel) (by decide +kernel)
set_option maxRecDepth 20000 in
theorem gX5_letSwap_X5_refuse : GoodIn wsX5_letSwap (wsV RX5 317 RX5 yX5_refuse wsX5_refuse) := goodIn_app (goodIn_of _ (by decide +kernel)) ggX5_letSwap_X5_refuse
set_option maxRecDepth 20000 in
theorem ggX5_letSwap_X3_ofSitter : GoodIn wsX5_letSwap wsX3_ofSitter := goodIn_ca (goodIn_r _ [15, 16, 69, 70, 71, 72, 73, 74, 75, 76] (by decide +kernel) (by decide +kernel)) (goodIn_sub (fun _ h => List.mem_cons_of_mem _ (List.mem_append_right _ h)) (by decide +kernel))
set_option maxRecDepth 20000 in
theorem gX5_letSwap_X3_ofSitter : GoodIn wsX5_letSwap (wsV RX5 99 RX3 yX3_ofSitter wsX3_ofSitter) := goodIn_app (goodIn_of _ (by decide +kernel)) ggX5_letSwap_X3_ofSitter
set_option maxRecDepth 20000 in
theorem ggX5_letSwap_X3_maySit : GoodIn wsX5_letSwap wsX3_maySit := goodIn_ca (goodIn_r _ [28, 12, 13, 14, 5, 15, 16, 29, 30, 31, 32, 33, 69, 70, 71, 72, 73, 74, 75, 76] (by decide +kernel) (by decide +kernel)) (goodIn_sub (fun _ h => List.mem_cons_of_mem _ (List.mem_append_right _ h)) (by decide +kernel))
set_option maxRecDepth 20000 in
theorem gX5_letSwap_X3_maySit : GoodIn wsX5_letSwap (wsV RX5 326 RX3 yX3_maySit wsX3_maySit) := goodIn_app (goodIn_of _ (by decide +kernel)) ggX5_letSwap_X3_maySit
set_option maxRecDepth 20000 in
theorem ggX5_letSwap_X3_exchange : GoodIn wsX5_letSwap wsX3_exchange := goodIn_ca (goodIn_r _ [37, 12, 13, 14, 5, 15, 16, 38, 39, 40, 41, 42, 43, 44, 45, 46, 47, 48, 49, 33, 69, 70, 71, 72, 73, 74, 75, 76] (by decide +kernel) (by decide +kernel)) (goodIn_sub (fun _ h => List.mem_cons_of_mem _ (List.mem_append_right _ h)) (by decide +kernel))
set_option maxRecDepth 20000 in
theorem gX5_letSwap_X3_exchange : GoodIn wsX5_letSwap (wsV RX5 339 RX3 yX3_exchange wsX3_exchange) := goodIn_app (goodIn_of _ (by decide +kernel)) ggX5_letSwap_X3_exchange
set_option maxRecDepth 20000 in
theorem ggX5_letSwap_X3_clashesByPairs : GoodIn wsX5_letSwap wsX3_clashesByPairs := goodIn_ca (goodIn_r _ [53, 7, 54, 55, 56, 5, 57, 58, 9, 10, 11, 12, 13, 14, 15, 16, 29, 30, 31, 32, 33, 69, 70, 71, 72, 73, 74, 75, 76] (by decide +kernel) (by decide +kernel)) (goodIn_sub (fun _ h => List.mem_cons_of_mem _ (List.mem_append_right _ h)) (by decide +kernel))
set_option maxRecDepth 20000 in
theorem gX5_letSwap_X3_clashesByPairs : GoodIn wsX5_letSwap (wsV RX5 111 RX3 yX3_clashesByPairs wsX3_clashesByPairs) := goodIn_app (goodIn_of _ (by decide +kernel)) ggX5_letSwap_X3_clashesByPairs
theorem dX5_letSwap_0 : decode cX5_letSwap 0 = .ok (.aload_n 0, 1) := by decide +kernel
theorem dX5_letSwap_1 : decode cX5_letSwap 1 = .ok (.getfield 10, 3) := by decide +kernel
theorem dX5_letSwap_4 : decode cX5_letSwap 4 = .ok (.iload_n 1, 1) := by decide +kernel
theorem dX5_letSwap_5 : decode cX5_letSwap 5 = .ok (.invokevirtual 306, 3) := by decide +kernel
theorem dX5_letSwap_8 : decode cX5_letSwap 8 = .ok (.ifCond .eq 14, 3) := by decide +kernel
theorem dX5_letSwap_11 : decode cX5_letSwap 11 = .ok (.aload_n 0, 1) := by decide +kernel
theorem dX5_letSwap_12 : decode cX5_letSwap 12 = .ok (.getfield 10, 3) := by decide +kernel
theorem dX5_letSwap_15 : decode cX5_letSwap 15 = .ok (.iload_n 2, 1) := by decide +kernel
theorem dX5_letSwap_16 : decode cX5_letSwap 16 = .ok (.invokevirtual 306, 3) := by decide +kernel
theorem dX5_letSwap_19 : decode cX5_letSwap 19 = .ok (.ifCond .ne 5, 3) := by decide +kernel
theorem dX5_letSwap_22 : decode cX5_letSwap 22 = .ok (.iconst (-1), 1) := by decide +kernel
theorem dX5_letSwap_23 : decode cX5_letSwap 23 = .ok (.ireturn, 1) := by decide +kernel
theorem dX5_letSwap_24 : decode cX5_letSwap 24 = .ok (.iload_n 1, 1) := by decide +kernel
theorem dX5_letSwap_25 : decode cX5_letSwap 25 = .ok (.iload_n 2, 1) := by decide +kernel
theorem dX5_letSwap_26 : decode cX5_letSwap 26 = .ok (.if_icmp .ne 6, 3) := by decide +kernel
theorem dX5_letSwap_29 : decode cX5_letSwap 29 = .ok (.bipush (-2), 2) := by decide +kernel
theorem dX5_letSwap_31 : decode cX5_letSwap 31 = .ok (.ireturn, 1) := by decide +kernel
theorem dX5_letSwap_32 : decode cX5_letSwap 32 = .ok (.aload_n 0, 1) := by decide +kernel
theorem dX5_letSwap_33 : decode cX5_letSwap 33 = .ok (.getfield 10, 3) := by decide +kernel
theorem dX5_letSwap_36 : decode cX5_letSwap 36 = .ok (.iload_n 1, 1) := by decide +kernel
theorem dX5_letSwap_37 : decode cX5_letSwap 37 = .ok (.invokevirtual 336, 3) := by decide +kernel
theorem dX5_letSwap_40 : decode cX5_letSwap 40 = .ok (.ifCond .ne 10, 3) := by decide +kernel
theorem dX5_letSwap_43 : decode cX5_letSwap 43 = .ok (.aload_n 0, 1) := by decide +kernel
theorem dX5_letSwap_44 : decode cX5_letSwap 44 = .ok (.iconst 4, 1) := by decide +kernel
theorem dX5_letSwap_45 : decode cX5_letSwap 45 = .ok (.iload_n 1, 1) := by decide +kernel
theorem dX5_letSwap_46 : decode cX5_letSwap 46 = .ok (.invokevirtual 317, 3) := by decide +kernel
theorem dX5_letSwap_49 : decode cX5_letSwap 49 = .ok (.ireturn, 1) := by decide +kernel
theorem dX5_letSwap_50 : decode cX5_letSwap 50 = .ok (.aload_n 0, 1) := by decide +kernel
theorem dX5_letSwap_51 : decode cX5_letSwap 51 = .ok (.getfield 10, 3) := by decide +kernel
theorem dX5_letSwap_54 : decode cX5_letSwap 54 = .ok (.iload_n 2, 1) := by decide +kernel
theorem dX5_letSwap_55 : decode cX5_letSwap 55 = .ok (.invokevirtual 336, 3) := by decide +kernel
theorem dX5_letSwap_58 : decode cX5_letSwap 58 = .ok (.ifCond .ne 10, 3) := by decide +kernel
theorem dX5_letSwap_61 : decode cX5_letSwap 61 = .ok (.aload_n 0, 1) := by decide +kernel
theorem dX5_letSwap_62 : decode cX5_letSwap 62 = .ok (.iconst 4, 1) := by decide +kernel
theorem dX5_letSwap_63 : decode cX5_letSwap 63 = .ok (.iload_n 2, 1) := by decide +kernel
theorem dX5_letSwap_64 : decode cX5_letSwap 64 = .ok (.invokevirtual 317, 3) := by decide +kernel
theorem dX5_letSwap_67 : decode cX5_letSwap 67 = .ok (.ireturn, 1) := by decide +kernel
theorem dX5_letSwap_68 : decode cX5_letSwap 68 = .ok (.aload_n 0, 1) := by decide +kernel
theorem dX5_letSwap_69 : decode cX5_letSwap 69 = .ok (.getfield 10, 3) := by decide +kernel
theorem dX5_letSwap_72 : decode cX5_letSwap 72 = .ok (.iload_n 1, 1) := by decide +kernel
theorem dX5_letSwap_73 : decode cX5_letSwap 73 = .ok (.iconst 2, 1) := by decide +kernel
theorem dX5_letSwap_74 : decode cX5_letSwap 74 = .ok (.invokevirtual 99, 3) := by decide +kernel
theorem dX5_letSwap_77 : decode cX5_letSwap 77 = .ok (.istore_n 3, 1) := by decide +kernel
theorem dX5_letSwap_78 : decode cX5_letSwap 78 = .ok (.aload_n 0, 1) := by decide +kernel
theorem dX5_letSwap_79 : decode cX5_letSwap 79 = .ok (.getfield 10, 3) := by decide +kernel
theorem dX5_letSwap_82 : decode cX5_letSwap 82 = .ok (.iload_n 2, 1) := by decide +kernel
theorem dX5_letSwap_83 : decode cX5_letSwap 83 = .ok (.iconst 2, 1) := by decide +kernel
theorem dX5_letSwap_84 : decode cX5_letSwap 84 = .ok (.invokevirtual 99, 3) := by decide +kernel
theorem dX5_letSwap_87 : decode cX5_letSwap 87 = .ok (.istore 4, 2) := by decide +kernel
theorem dX5_letSwap_89 : decode cX5_letSwap 89 = .ok (.aload_n 0, 1) := by decide +kernel
theorem dX5_letSwap_90 : decode cX5_letSwap 90 = .ok (.getfield 10, 3) := by decide +kernel
theorem dX5_letSwap_93 : decode cX5_letSwap 93 = .ok (.iload_n 1, 1) := by decide +kernel
theorem dX5_letSwap_94 : decode cX5_letSwap 94 = .ok (.iload 4, 2) := by decide +kernel
theorem dX5_letSwap_96 : decode cX5_letSwap 96 = .ok (.invokevirtual 326, 3) := by decide +kernel
theorem dX5_letSwap_99 : decode cX5_letSwap 99 = .ok (.ifCond .ne 11, 3) := by decide +kernel
theorem dX5_letSwap_102 : decode cX5_letSwap 102 = .ok (.aload_n 0, 1) := by decide +kernel
theorem dX5_letSwap_103 : decode cX5_letSwap 103 = .ok (.iconst 3, 1) := by decide +kernel
theorem dX5_letSwap_104 : decode cX5_letSwap 104 = .ok (.iload 4, 2) := by decide +kernel
theorem dX5_letSwap_106 : decode cX5_letSwap 106 = .ok (.invokevirtual 317, 3) := by decide +kernel
theorem dX5_letSwap_109 : decode cX5_letSwap 109 = .ok (.ireturn, 1) := by decide +kernel
theorem dX5_letSwap_110 : decode cX5_letSwap 110 = .ok (.aload_n 0, 1) := by decide +kernel
theorem dX5_letSwap_111 : decode cX5_letSwap 111 = .ok (.getfield 10, 3) := by decide +kernel
theorem dX5_letSwap_114 : decode cX5_letSwap 114 = .ok (.iload_n 2, 1) := by decide +kernel
theorem dX5_letSwap_115 : decode cX5_letSwap 115 = .ok (.iload_n 3, 1) := by decide +kernel
theorem dX5_letSwap_116 : decode cX5_letSwap 116 = .ok (.invokevirtual 326, 3) := by decide +kernel
theorem dX5_letSwap_119 : decode cX5_letSwap 119 = .ok (.ifCond .ne 10, 3) := by decide +kernel
theorem dX5_letSwap_122 : decode cX5_letSwap 122 = .ok (.aload_n 0, 1) := by decide +kernel
theorem dX5_letSwap_123 : decode cX5_letSwap 123 = .ok (.iconst 3, 1) := by decide +kernel
theorem dX5_letSwap_124 : decode cX5_letSwap 124 = .ok (.iload_n 3, 1) := by decide +kernel
theorem dX5_letSwap_125 : decode cX5_letSwap 125 = .ok (.invokevirtual 317, 3) := by decide +kernel
theorem dX5_letSwap_128 : decode cX5_letSwap 128 = .ok (.ireturn, 1) := by decide +kernel
theorem dX5_letSwap_129 : decode cX5_letSwap 129 = .ok (.aload_n 0, 1) := by decide +kernel
theorem dX5_letSwap_130 : decode cX5_letSwap 130 = .ok (.getfield 10, 3) := by decide +kernel
theorem dX5_letSwap_133 : decode cX5_letSwap 133 = .ok (.iload_n 1, 1) := by decide +kernel
theorem dX5_letSwap_134 : decode cX5_letSwap 134 = .ok (.iload_n 2, 1) := by decide +kernel
theorem dX5_letSwap_135 : decode cX5_letSwap 135 = .ok (.invokevirtual 339, 3) := by decide +kernel
theorem dX5_letSwap_138 : decode cX5_letSwap 138 = .ok (.aload_n 0, 1) := by decide +kernel
theorem dX5_letSwap_139 : decode cX5_letSwap 139 = .ok (.getfield 10, 3) := by decide +kernel
theorem dX5_letSwap_142 : decode cX5_letSwap 142 = .ok (.invokevirtual 111, 3) := by decide +kernel
theorem dX5_letSwap_145 : decode cX5_letSwap 145 = .ok (.ireturn, 1) := by decide +kernel
set_option maxRecDepth 20000 in
theorem ggX5_putCoin_X3_hasStool : GoodIn wsX5_putCoin wsX3_hasStool := goodIn_r _ [7, 8, 45, 46, 47, 48, 49, 50, 51, 52] (by decide +kernel) (by decide +kernel)
set_option maxRecDepth 20000 in
theorem gX5_putCoin_X3_hasStool : GoodIn wsX5_putCoin (wsV RX5 300 RX3 yX3_hasStool wsX3_hasStool) := goodIn_app (goodIn_of _ (by decide +kernel)) ggX5_putCoin_X3_hasStool
set_option maxRecDepth 20000 in
theorem ggX5_putCoin_X3_sumOfStools : GoodIn wsX5_putCoin wsX3_sumOfStools := goodIn_ca (goodIn_r _ [12, 8, 13, 14, 15, 6, 16, 17, 45, 46, 47, 48, 49, 50, 51, 52] (by decide +kernel) (by decide +kernel)) (goodIn_sub (fun _ h => List.mem_cons_of_mem _ (List.mem_append_right _ h)) (by decide +kernel))
set_option maxRecDepth 20000 in
theorem gX5_putCoin_X3_sumOfStools : GoodIn wsX5_putCoin (wsV RX5 246 RX3 yX3_sumOfStools wsX3_sumOfStools) := goodIn_app (goodIn_of _ (by decide +kernel)) ggX5_putCoin_X3_sumOfStools
set_option maxRecDepth 20000 in
theorem ggX5_putCoin_X5_refuse : GoodIn wsX5_putCoin wsX5_refuse := goodIn_r _ [22, 23, 24, 35, 36, 37, 38, 39, 40, 41, 42, 43, 44] (by decide +kernel) (by decide +kernel)
set_option maxRecDepth 20000 in
theorem gX5_putCoin_X5_refuse : GoodIn wsX5_putCoin (wsV RX5 317 RX5 yX5_refuse wsX5_refuse) := goodIn_app (goodIn_of _ (by decide +kernel)) ggX5_putCoin_X5_refuse
set_option maxRecDepth 20000 in
theorem ggX5_putCoin_X3_ofStool : GoodIn wsX5_putCoin wsX3_ofStool := goodIn_ca (goodIn_r _ [16, 17, 45, 46, 47, 48, 49, 50, 51, 52] (by decide +kernel) (by decide +kernel)) (goodIn_sub (fun _ h => List.mem_cons_of_mem _ (List.mem_append_right _ h)) (by decide +kernel))
set_option maxRecDepth 20000 in
theorem gX5_putCoin_X3_ofStool : GoodIn wsX5_putCoin (wsV RX5 93 RX3 yX3_ofStool wsX3_ofStool) := goodIn_app (goodIn_of _ (by decide +kernel)) ggX5_putCoin_X3_ofStool
set_option maxRecDepth 20000 in
theorem ggX5_putCoin_X3_addCoin : GoodIn wsX5_putCoin wsX3_addCoin := goodIn_ca (goodIn_r _ [29, 30, 13, 14, 15, 6, 16, 17, 31, 32, 33, 34, 45, 46, 47, 48, 49, 50, 51, 52] (by decide +kernel) (by decide +kernel)) (goodIn_sub (fun _ h => List.mem_cons_of_mem _ (List.mem_append_right _ h)) (by decide +kernel))
set_option maxRecDepth 20000 in
theorem gX5_putCoin_X3_addCoin : GoodIn wsX5_putCoin (wsV RX5 342 RX3 yX3_addCoin wsX3_addCoin) := goodIn_app (goodIn_of _ (by decide +kernel)) ggX5_putCoin_X3_addCoin
theorem dX5_putCoin_0 : decode cX5_putCoin 0 = .ok (.aload_n 0, 1) := by decide +kernel
theorem dX5_putCoin_1 : decode cX5_putCoin 1 = .ok (.getfield 10, 3) := by decide +kernel
theorem dX5_putCoin_4 : decode cX5_putCoin 4 = .ok (.iload_n 1, 1) := by decide +kernel
theorem dX5_putCoin_5 : decode cX5_putCoin 5 = .ok (.invokevirtual 300, 3) := by decide +kernel
theorem dX5_putCoin_8 : decode cX5_putCoin 8 = .ok (.ifCond .ne 5, 3) := by decide +kernel
theorem dX5_putCoin_11 : decode cX5_putCoin 11 = .ok (.iconst (-1), 1) := by decide +kernel
theorem dX5_putCoin_12 : decode cX5_putCoin 12 = .ok (.ireturn, 1) := by decide +kernel
theorem dX5_putCoin_13 : decode cX5_putCoin 13 = .ok (.aload_n 0, 1) := by decide +kernel
theorem dX5_putCoin_14 : decode cX5_putCoin 14 = .ok (.getfield 10, 3) := by decide +kernel
theorem dX5_putCoin_17 : decode cX5_putCoin 17 = .ok (.getfield 258, 3) := by decide +kernel
theorem dX5_putCoin_20 : decode cX5_putCoin 20 = .ok (.iconst 1, 1) := by decide +kernel
theorem dX5_putCoin_21 : decode cX5_putCoin 21 = .ok (.if_icmp .ge 17, 3) := by decide +kernel
theorem dX5_putCoin_24 : decode cX5_putCoin 24 = .ok (.aload_n 0, 1) := by decide +kernel
theorem dX5_putCoin_25 : decode cX5_putCoin 25 = .ok (.iconst 5, 1) := by decide +kernel
theorem dX5_putCoin_26 : decode cX5_putCoin 26 = .ok (.aload_n 0, 1) := by decide +kernel
theorem dX5_putCoin_27 : decode cX5_putCoin 27 = .ok (.getfield 10, 3) := by decide +kernel
theorem dX5_putCoin_30 : decode cX5_putCoin 30 = .ok (.iconst 4, 1) := by decide +kernel
theorem dX5_putCoin_31 : decode cX5_putCoin 31 = .ok (.invokevirtual 246, 3) := by decide +kernel
theorem dX5_putCoin_34 : decode cX5_putCoin 34 = .ok (.invokevirtual 317, 3) := by decide +kernel
theorem dX5_putCoin_37 : decode cX5_putCoin 37 = .ok (.ireturn, 1) := by decide +kernel
theorem dX5_putCoin_38 : decode cX5_putCoin 38 = .ok (.aload_n 0, 1) := by decide +kernel
theorem dX5_putCoin_39 : decode cX5_putCoin 39 = .ok (.getfield 10, 3) := by decide +kernel
theorem dX5_putCoin_42 : decode cX5_putCoin 42 = .ok (.iload_n 1, 1) := by decide +kernel
theorem dX5_putCoin_43 : decode cX5_putCoin 43 = .ok (.iconst 2, 1) := by decide +kernel
theorem dX5_putCoin_44 : decode cX5_putCoin 44 = .ok (.invokevirtual 93, 3) := by decide +kernel
theorem dX5_putCoin_47 : decode cX5_putCoin 47 = .ok (.ifCond .ne 19, 3) := by decide +kernel
theorem dX5_putCoin_50 : decode cX5_putCoin 50 = .ok (.aload_n 0, 1) := by decide +kernel
theorem dX5_putCoin_51 : decode cX5_putCoin 51 = .ok (.bipush 6, 2) := by decide +kernel
theorem dX5_putCoin_53 : decode cX5_putCoin 53 = .ok (.aload_n 0, 1) := by decide +kernel
theorem dX5_putCoin_54 : decode cX5_putCoin 54 = .ok (.getfield 10, 3) := by decide +kernel
theorem dX5_putCoin_57 : decode cX5_putCoin 57 = .ok (.iload_n 1, 1) := by decide +kernel
theorem dX5_putCoin_58 : decode cX5_putCoin 58 = .ok (.iconst 4, 1) := by decide +kernel
theorem dX5_putCoin_59 : decode cX5_putCoin 59 = .ok (.invokevirtual 93, 3) := by decide +kernel
theorem dX5_putCoin_62 : decode cX5_putCoin 62 = .ok (.invokevirtual 317, 3) := by decide +kernel
theorem dX5_putCoin_65 : decode cX5_putCoin 65 = .ok (.ireturn, 1) := by decide +kernel
theorem dX5_putCoin_66 : decode cX5_putCoin 66 = .ok (.aload_n 0, 1) := by decide +kernel
theorem dX5_putCoin_67 : decode cX5_putCoin 67 = .ok (.getfield 10, 3) := by decide +kernel
theorem dX5_putCoin_70 : decode cX5_putCoin 70 = .ok (.iload_n 1, 1) := by decide +kernel
theorem dX5_putCoin_71 : decode cX5_putCoin 71 = .ok (.invokevirtual 342, 3) := by decide +kernel
theorem dX5_putCoin_74 : decode cX5_putCoin 74 = .ok (.ireturn, 1) := by decide +kernel
set_option maxRecDepth 20000 in
theorem ggX5_takeCoinBack_X3_hasStool : GoodIn wsX5_takeCoinBack wsX3_hasStool := goodIn_r _ [6, 7, 44, 45, 46, 47, 48, 49, 50, 51] (by decide +kernel) (by decide +kernel)
set_option maxRecDepth 20000 in
theorem gX5_takeCoinBack_X3_hasStool : GoodIn wsX5_takeCoinBack (wsV RX5 300 RX3 yX3_hasStool wsX3_hasStool) := goodIn_app (goodIn_of _ (by decide +kernel)) ggX5_takeCoinBack_X3_hasStool
set_option maxRecDepth 20000 in
theorem ggX5_takeCoinBack_X3_ofStool : GoodIn wsX5_takeCoinBack wsX3_ofStool := goodIn_ca (goodIn_r _ [11, 12, 44, 45, 46, 47, 48, 49, 50, 51] (by decide +kernel) (by decide +kernel)) (goodIn_sub (fun _ h => List.mem_cons_of_mem _ (List.mem_append_right _ h)) (by decide +kernel))
set_option maxRecDepth 20000 in
theorem gX5_takeCoinBack_X3_ofStool : GoodIn wsX5_takeCoinBack (wsV RX5 93 RX3 yX3_ofStool wsX3_ofStool) := goodIn_app (goodIn_of _ (by decide +kernel)) ggX5_takeCoinBack_X3_ofStool
set_option maxRecDepth 20000 in
theorem ggX5_takeCoinBack_X5_refuse : GoodIn wsX5_takeCoinBack wsX5_refuse := goodIn_r _ [17, 18, 19, 34, 35, 36, 37, 38, 39, 40, 41, 42, 43] (by decide +kernel) (by decide +kernel)
set_option maxRecDepth 20000 in
theorem gX5_takeCoinBack_X5_refuse : GoodIn wsX5_takeCoinBack (wsV RX5 317 RX5 yX5_refuse wsX5_refuse) := goodIn_app (goodIn_of _ (by decide +kernel)) ggX5_takeCoinBack_X5_refuse
set_option maxRecDepth 20000 in
theorem ggX5_takeCoinBack_X3_removeCoin : GoodIn wsX5_takeCoinBack wsX3_removeCoin := goodIn_ca (goodIn_r _ [23, 24, 25, 26, 27, 28, 29, 9, 10, 5, 11, 12, 30, 31, 32, 33, 44, 45, 46, 47, 48, 49, 50, 51] (by decide +kernel) (by decide +kernel)) (goodIn_sub (fun _ h => List.mem_cons_of_mem _ (List.mem_append_right _ h)) (by decide +kernel))
set_option maxRecDepth 20000 in
theorem gX5_takeCoinBack_X3_removeCoin : GoodIn wsX5_takeCoinBack (wsV RX5 345 RX3 yX3_removeCoin wsX3_removeCoin) := goodIn_app (goodIn_of _ (by decide +kernel)) ggX5_takeCoinBack_X3_removeCoin
theorem dX5_takeCoinBack_0 : decode cX5_takeCoinBack 0 = .ok (.aload_n 0, 1) := by decide +kernel
theorem dX5_takeCoinBack_1 : decode cX5_takeCoinBack 1 = .ok (.getfield 10, 3) := by decide +kernel
theorem dX5_takeCoinBack_4 : decode cX5_takeCoinBack 4 = .ok (.iload_n 1, 1) := by decide +kernel
theorem dX5_takeCoinBack_5 : decode cX5_takeCoinBack 5 = .ok (.invokevirtual 300, 3) := by decide +kernel
theorem dX5_takeCoinBack_8 : decode cX5_takeCoinBack 8 = .ok (.ifCond .ne 5, 3) := by decide +kernel
theorem dX5_takeCoinBack_11 : decode cX5_takeCoinBack 11 = .ok (.iconst (-1), 1) := by decide +kernel
theorem dX5_takeCoinBack_12 : decode cX5_takeCoinBack 12 = .ok (.ireturn, 1) := by decide +kernel
theorem dX5_takeCoinBack_13 : decode cX5_takeCoinBack 13 = .ok (.aload_n 0, 1) := by decide +kernel
theorem dX5_takeCoinBack_14 : decode cX5_takeCoinBack 14 = .ok (.getfield 10, 3) := by decide +kernel
theorem dX5_takeCoinBack_17 : decode cX5_takeCoinBack 17 = .ok (.iload_n 1, 1) := by decide +kernel
theorem dX5_takeCoinBack_18 : decode cX5_takeCoinBack 18 = .ok (.iconst 4, 1) := by decide +kernel
theorem dX5_takeCoinBack_19 : decode cX5_takeCoinBack 19 = .ok (.invokevirtual 93, 3) := by decide +kernel
theorem dX5_takeCoinBack_22 : decode cX5_takeCoinBack 22 = .ok (.ifCond .ne 19, 3) := by decide +kernel
theorem dX5_takeCoinBack_25 : decode cX5_takeCoinBack 25 = .ok (.aload_n 0, 1) := by decide +kernel
theorem dX5_takeCoinBack_26 : decode cX5_takeCoinBack 26 = .ok (.bipush 7, 2) := by decide +kernel
theorem dX5_takeCoinBack_28 : decode cX5_takeCoinBack 28 = .ok (.aload_n 0, 1) := by decide +kernel
theorem dX5_takeCoinBack_29 : decode cX5_takeCoinBack 29 = .ok (.getfield 10, 3) := by decide +kernel
theorem dX5_takeCoinBack_32 : decode cX5_takeCoinBack 32 = .ok (.iload_n 1, 1) := by decide +kernel
theorem dX5_takeCoinBack_33 : decode cX5_takeCoinBack 33 = .ok (.iconst 2, 1) := by decide +kernel
theorem dX5_takeCoinBack_34 : decode cX5_takeCoinBack 34 = .ok (.invokevirtual 93, 3) := by decide +kernel
theorem dX5_takeCoinBack_37 : decode cX5_takeCoinBack 37 = .ok (.invokevirtual 317, 3) := by decide +kernel
theorem dX5_takeCoinBack_40 : decode cX5_takeCoinBack 40 = .ok (.ireturn, 1) := by decide +kernel
theorem dX5_takeCoinBack_41 : decode cX5_takeCoinBack 41 = .ok (.aload_n 0, 1) := by decide +kernel
theorem dX5_takeCoinBack_42 : decode cX5_takeCoinBack 42 = .ok (.getfield 10, 3) := by decide +kernel
theorem dX5_takeCoinBack_45 : decode cX5_takeCoinBack 45 = .ok (.iload_n 1, 1) := by decide +kernel
theorem dX5_takeCoinBack_46 : decode cX5_takeCoinBack 46 = .ok (.invokevirtual 345, 3) := by decide +kernel
theorem dX5_takeCoinBack_49 : decode cX5_takeCoinBack 49 = .ok (.ireturn, 1) := by decide +kernel
set_option maxRecDepth 20000 in
theorem ggX5_carryOut_X4_number : GoodIn wsX5_carryOut wsX4_number := goodIn_ca (goodIn_r _ [7, 8, 166, 167, 168, 169, 170] (by decide +kernel) (by decide +kernel)) (goodIn_sub (fun _ h => List.mem_cons_of_mem _ (List.mem_append_right _ h)) (by decide +kernel))
set_option maxRecDepth 20000 in
theorem gX5_carryOut_X4_number : GoodIn wsX5_carryOut (wsV RX5 348 RX4 yX4_number wsX4_number) := goodIn_app (goodIn_of _ (by decide +kernel)) ggX5_carryOut_X4_number
set_option maxRecDepth 20000 in
theorem ggX5_carryOut_X5_setUpStool : GoodIn wsX5_carryOut wsX5_setUpStool := goodIn_ca (goodIn_r _ [13, 2, 14, 15, 16, 17, 12, 18, 19, 20, 21, 22, 23, 24, 25, 26, 27, 28, 29, 30, 31, 156, 157, 158, 159, 160, 161, 162, 163, 164, 165, 171, 172, 173, 174, 175, 176, 177, 178] (by decide +kernel) (by decide +kernel)) (goodIn_sub (fun _ h => List.mem_cons_of_mem _ (List.mem_append_right _ h)) (by decide +kernel))
set_option maxRecDepth 20000 in
theorem gX5_carryOut_X5_setUpStool : GoodIn wsX5_carryOut (wsV RX5 61 RX5 yX5_setUpStool wsX5_setUpStool) := goodIn_app (goodIn_of _ (by decide +kernel)) ggX5_carryOut_X5_setUpStool
set_option maxRecDepth 20000 in
theorem ggX5_carryOut_X5_letGuestCome : GoodIn wsX5_carryOut wsX5_letGuestCome := goodIn_ca (goodIn_r _ [35, 36, 37, 38, 12, 39, 2, 40, 15, 16, 17, 18, 19, 20, 41, 42, 43, 24, 44, 45, 46, 47, 48, 49, 50, 156, 157, 158, 159, 160, 161, 162, 163, 164, 165, 171, 172, 173, 174, 175, 176, 177, 178] (by decide +kernel) (by decide +kernel)) (goodIn_sub (fun _ h => List.mem_cons_of_mem _ (List.mem_append_right _ h)) (by decide +kernel))
set_option maxRecDepth 20000 in
theorem gX5_carryOut_X5_letGuestCome : GoodIn wsX5_carryOut (wsV RX5 69 RX5 yX5_letGuestCome wsX5_letGuestCome) := goodIn_app (goodIn_of _ (by decide +kernel)) ggX5_carryOut_X5_letGuestCome
set_option maxRecDepth 20000 in
theorem ggX5_carryOut_X5_letSitterCome : GoodIn wsX5_carryOut wsX5_letSitterCome := goodIn_ca (goodIn_r _ [39, 2, 40, 15, 16, 17, 12, 18, 19, 20, 41, 42, 43, 24, 44, 45, 46, 47, 48, 49, 50, 156, 157, 158, 159, 160, 161, 162, 163, 164, 165, 171, 172, 173, 174, 175, 176, 177, 178] (by decide +kernel) (by decide +kernel)) (goodIn_sub (fun _ h => List.mem_cons_of_mem _ (List.mem_append_right _ h)) (by decide +kernel))
set_option maxRecDepth 20000 in
theorem gX5_carryOut_X5_letSitterCome : GoodIn wsX5_carryOut (wsV RX5 73 RX5 yX5_letSitterCome wsX5_letSitterCome) := goodIn_app (goodIn_of _ (by decide +kernel)) ggX5_carryOut_X5_letSitterCome
set_option maxRecDepth 20000 in
theorem ggX5_carryOut_X5_seat : GoodIn wsX5_carryOut wsX5_seat := goodIn_ca (goodIn_r _ [54, 2, 55, 56, 57, 24, 58, 45, 59, 60, 61, 62, 26, 63, 64, 65, 66, 31, 15, 16, 17, 12, 18, 19, 20, 67, 68, 69, 70, 71, 72, 73, 74, 50, 75, 76, 77, 78, 79, 27, 28, 29, 30, 46, 47, 48, 49, 80, 81, 82, 83, 84, 85, 86, 87, 88, 89, 90, 91, 92, 93, 94, 95, 156, 157, 158, 159, 160, 161, 162, 163, 164, 165, 171, 172, 173, 174, 175, 176, 177, 178] (by decide +kernel) (by decide +kernel)) (goodIn_sub (fun _ h => List.mem_cons_of_mem _ (List.mem_append_right _ h)) (by decide +kernel))
set_option maxRecDepth 20000 in
theorem gX5_carryOut_X5_seat : GoodIn wsX5_carryOut (wsV RX5 76 RX5 yX5_seat wsX5_seat) := goodIn_app (goodIn_of _ (by decide +kernel)) ggX5_carryOut_X5_seat
set_option maxRecDepth 20000 in
theorem ggX5_carryOut_X5_letGetUp : GoodIn wsX5_carryOut wsX5_letGetUp := goodIn_ca (goodIn_r _ [99, 2, 55, 56, 57, 24, 58, 45, 100, 93, 94, 95, 71, 72, 73, 74, 50, 15, 16, 17, 12, 18, 19, 20, 76, 77, 78, 79, 27, 28, 29, 30, 31, 46, 47, 48, 49, 156, 157, 158, 159, 160, 161, 162, 163, 164, 165, 171, 172, 173, 174, 175, 176, 177, 178] (by decide +kernel) (by decide +kernel)) (goodIn_sub (fun _ h => List.mem_cons_of_mem _ (List.mem_append_right _ h)) (by decide +kernel))
set_option maxRecDepth 20000 in
theorem gX5_carryOut_X5_letGetUp : GoodIn wsX5_carryOut (wsV RX5 79 RX5 yX5_letGetUp wsX5_letGetUp) := goodIn_app (goodIn_of _ (by decide +kernel)) ggX5_carryOut_X5_letGetUp
set_option maxRecDepth 20000 in
theorem ggX5_carryOut_X5_putCoin : GoodIn wsX5_carryOut wsX5_putCoin := goodIn_ca (goodIn_r _ [104, 2, 105, 59, 60, 61, 24, 62, 26, 106, 107, 108, 109, 75, 64, 65, 66, 31, 15, 16, 17, 12, 18, 19, 20, 63, 110, 111, 112, 113, 114, 27, 28, 29, 30, 156, 157, 158, 159, 160, 161, 162, 163, 164, 165, 171, 172, 173, 174, 175, 176, 177, 178] (by decide +kernel) (by decide +kernel)) (goodIn_sub (fun _ h => List.mem_cons_of_mem _ (List.mem_append_right _ h)) (by decide +kernel))
set_option maxRecDepth 20000 in
theorem gX5_carryOut_X5_putCoin : GoodIn wsX5_carryOut (wsV RX5 141 RX5 yX5_putCoin wsX5_putCoin) := goodIn_app (goodIn_of _ (by decide +kernel)) ggX5_carryOut_X5_putCoin
set_option maxRecDepth 20000 in
theorem ggX5_carryOut_X5_letBrawl : GoodIn wsX5_carryOut wsX5_letBrawl := goodIn_ca (goodIn_r _ [118, 2, 14, 119, 59, 60, 61, 24, 62, 26, 120, 121, 122, 123, 75, 64, 65, 66, 31, 15, 16, 17, 12, 18, 19, 20, 124, 125, 126, 127, 45, 27, 28, 29, 30, 128, 129, 130, 131, 132, 133, 134, 135, 71, 72, 73, 74, 50, 136, 137, 138, 139, 140, 68, 69, 70, 141, 81, 82, 83, 46, 47, 48, 49, 156, 157, 158, 159, 160, 161, 162, 163, 164, 165, 171, 172, 173, 174, 175, 176, 177, 178] (by decide +kernel) (by decide +kernel)) (goodIn_sub (fun _ h => List.mem_cons_of_mem _ (List.mem_append_right _ h)) (by decide +kernel))
set_option maxRecDepth 20000 in
theorem gX5_carryOut_X5_letBrawl : GoodIn wsX5_carryOut (wsV RX5 118 RX5 yX5_letBrawl wsX5_letBrawl) := goodIn_app (goodIn_of _ (by decide +kernel)) ggX5_carryOut_X5_letBrawl
set_option maxRecDepth 20000 in
theorem ggX5_carryOut_X3_passNight : GoodIn wsX5_carryOut wsX3_passNight := goodIn_ca (goodIn_r _ [145, 26, 146, 114, 147, 75, 64, 65, 24, 66, 31, 148, 149, 150, 151, 152, 153, 154, 155, 71, 72, 73, 74, 50, 27, 28, 29, 30, 171, 172, 173, 174, 175, 176, 177, 178] (by decide +kernel) (by decide +kernel)) (goodIn_sub (fun _ h => List.mem_cons_of_mem _ (List.mem_append_right _ h)) (by decide +kernel))
set_option maxRecDepth 20000 in
theorem gX5_carryOut_X3_passNight : GoodIn wsX5_carryOut (wsV RX5 170 RX3 yX3_passNight wsX3_passNight) := goodIn_app (goodIn_of _ (by decide +kernel)) ggX5_carryOut_X3_passNight
theorem dX5_carryOut_0 : decode cX5_carryOut 0 = .ok (.aload_n 0, 1) := by decide +kernel
theorem dX5_carryOut_1 : decode cX5_carryOut 1 = .ok (.getfield 32, 3) := by decide +kernel
theorem dX5_carryOut_4 : decode cX5_carryOut 4 = .ok (.iload_n 1, 1) := by decide +kernel
theorem dX5_carryOut_5 : decode cX5_carryOut 5 = .ok (.iconst 1, 1) := by decide +kernel
theorem dX5_carryOut_6 : decode cX5_carryOut 6 = .ok (.invokevirtual 348, 3) := by decide +kernel
theorem dX5_carryOut_9 : decode cX5_carryOut 9 = .ok (.istore_n 2, 1) := by decide +kernel
theorem dX5_carryOut_10 : decode cX5_carryOut 10 = .ok (.aload_n 0, 1) := by decide +kernel
theorem dX5_carryOut_11 : decode cX5_carryOut 11 = .ok (.getfield 32, 3) := by decide +kernel
theorem dX5_carryOut_14 : decode cX5_carryOut 14 = .ok (.iload_n 1, 1) := by decide +kernel
theorem dX5_carryOut_15 : decode cX5_carryOut 15 = .ok (.iconst 2, 1) := by decide +kernel
theorem dX5_carryOut_16 : decode cX5_carryOut 16 = .ok (.invokevirtual 348, 3) := by decide +kernel
theorem dX5_carryOut_19 : decode cX5_carryOut 19 = .ok (.istore_n 3, 1) := by decide +kernel
theorem dX5_carryOut_20 : decode cX5_carryOut 20 = .ok (.aload_n 0, 1) := by decide +kernel
theorem dX5_carryOut_21 : decode cX5_carryOut 21 = .ok (.getfield 32, 3) := by decide +kernel
theorem dX5_carryOut_24 : decode cX5_carryOut 24 = .ok (.iload_n 1, 1) := by decide +kernel
theorem dX5_carryOut_25 : decode cX5_carryOut 25 = .ok (.iconst 0, 1) := by decide +kernel
theorem dX5_carryOut_26 : decode cX5_carryOut 26 = .ok (.invokevirtual 348, 3) := by decide +kernel
theorem dX5_carryOut_29 : decode cX5_carryOut 29 = .ok (.tableswitch 177 98 117 #[162, 156, 177, 177, 177, 129, 177, 177, 177, 136, 177, 177, 169, 177, 143, 177, 177, 95, 177, 150], 95) := by decide +kernel
theorem dX5_carryOut_124 : decode cX5_carryOut 124 = .ok (.aload_n 0, 1) := by decide +kernel
theorem dX5_carryOut_125 : decode cX5_carryOut 125 = .ok (.iload_n 2, 1) := by decide +kernel
theorem dX5_carryOut_126 : decode cX5_carryOut 126 = .ok (.iload_n 3, 1) := by decide +kernel
theorem dX5_carryOut_127 : decode cX5_carryOut 127 = .ok (.aload_n 0, 1) := by decide +kernel
theorem dX5_carryOut_128 : decode cX5_carryOut 128 = .ok (.getfield 32, 3) := by decide +kernel
theorem dX5_carryOut_131 : decode cX5_carryOut 131 = .ok (.iload_n 1, 1) := by decide +kernel
theorem dX5_carryOut_132 : decode cX5_carryOut 132 = .ok (.iconst 3, 1) := by decide +kernel
theorem dX5_carryOut_133 : decode cX5_carryOut 133 = .ok (.invokevirtual 348, 3) := by decide +kernel
theorem dX5_carryOut_136 : decode cX5_carryOut 136 = .ok (.aload_n 0, 1) := by decide +kernel
theorem dX5_carryOut_137 : decode cX5_carryOut 137 = .ok (.getfield 32, 3) := by decide +kernel
theorem dX5_carryOut_140 : decode cX5_carryOut 140 = .ok (.iload_n 1, 1) := by decide +kernel
theorem dX5_carryOut_141 : decode cX5_carryOut 141 = .ok (.iconst 4, 1) := by decide +kernel
theorem dX5_carryOut_142 : decode cX5_carryOut 142 = .ok (.invokevirtual 348, 3) := by decide +kernel
theorem dX5_carryOut_145 : decode cX5_carryOut 145 = .ok (.iconst 1, 1) := by decide +kernel
theorem dX5_carryOut_146 : decode cX5_carryOut 146 = .ok (.if_icmp .ne 7, 3) := by decide +kernel
theorem dX5_carryOut_149 : decode cX5_carryOut 149 = .ok (.iconst 1, 1) := by decide +kernel
theorem dX5_carryOut_150 : decode cX5_carryOut 150 = .ok (.goto 4, 3) := by decide +kernel
theorem dX5_carryOut_153 : decode cX5_carryOut 153 = .ok (.iconst 0, 1) := by decide +kernel
theorem dX5_carryOut_154 : decode cX5_carryOut 154 = .ok (.invokevirtual 61, 3) := by decide +kernel
theorem dX5_carryOut_157 : decode cX5_carryOut 157 = .ok (.ireturn, 1) := by decide +kernel
theorem dX5_carryOut_158 : decode cX5_carryOut 158 = .ok (.aload_n 0, 1) := by decide +kernel
theorem dX5_carryOut_159 : decode cX5_carryOut 159 = .ok (.iload_n 2, 1) := by decide +kernel
theorem dX5_carryOut_160 : decode cX5_carryOut 160 = .ok (.iload_n 3, 1) := by decide +kernel
theorem dX5_carryOut_161 : decode cX5_carryOut 161 = .ok (.invokevirtual 69, 3) := by decide +kernel
theorem dX5_carryOut_164 : decode cX5_carryOut 164 = .ok (.ireturn, 1) := by decide +kernel
theorem dX5_carryOut_165 : decode cX5_carryOut 165 = .ok (.aload_n 0, 1) := by decide +kernel
theorem dX5_carryOut_166 : decode cX5_carryOut 166 = .ok (.iconst 0, 1) := by decide +kernel
theorem dX5_carryOut_167 : decode cX5_carryOut 167 = .ok (.iload_n 2, 1) := by decide +kernel
theorem dX5_carryOut_168 : decode cX5_carryOut 168 = .ok (.invokevirtual 73, 3) := by decide +kernel
theorem dX5_carryOut_171 : decode cX5_carryOut 171 = .ok (.ireturn, 1) := by decide +kernel
theorem dX5_carryOut_172 : decode cX5_carryOut 172 = .ok (.aload_n 0, 1) := by decide +kernel
theorem dX5_carryOut_173 : decode cX5_carryOut 173 = .ok (.iload_n 2, 1) := by decide +kernel
theorem dX5_carryOut_174 : decode cX5_carryOut 174 = .ok (.iload_n 3, 1) := by decide +kernel
theorem dX5_carryOut_175 : decode cX5_carryOut 175 = .ok (.invokevirtual 76, 3) := by decide +kernel
theorem dX5_carryOut_178 : decode cX5_carryOut 178 = .ok (.ireturn, 1) := by decide +kernel
theorem dX5_carryOut_179 : decode cX5_carryOut 179 = .ok (.aload_n 0, 1) := by decide +kernel
theorem dX5_carryOut_180 : decode cX5_carryOut 180 = .ok (.iload_n 2, 1) := by decide +kernel
theorem dX5_carryOut_181 : decode cX5_carryOut 181 = .ok (.invokevirtual 79, 3) := by decide +kernel
theorem dX5_carryOut_184 : decode cX5_carryOut 184 = .ok (.ireturn, 1) := by decide +kernel
theorem dX5_carryOut_185 : decode cX5_carryOut 185 = .ok (.aload_n 0, 1) := by decide +kernel
theorem dX5_carryOut_186 : decode cX5_carryOut 186 = .ok (.iload_n 2, 1) := by decide +kernel
theorem dX5_carryOut_187 : decode cX5_carryOut 187 = .ok (.invokevirtual 141, 3) := by decide +kernel
theorem dX5_carryOut_190 : decode cX5_carryOut 190 = .ok (.ireturn, 1) := by decide +kernel
theorem dX5_carryOut_191 : decode cX5_carryOut 191 = .ok (.aload_n 0, 1) := by decide +kernel
theorem dX5_carryOut_192 : decode cX5_carryOut 192 = .ok (.iload_n 2, 1) := by decide +kernel
theorem dX5_carryOut_193 : decode cX5_carryOut 193 = .ok (.iload_n 3, 1) := by decide +kernel
theorem dX5_carryOut_194 : decode cX5_carryOut 194 = .ok (.invokevirtual 118, 3) := by decide +kernel
theorem dX5_carryOut_197 : decode cX5_carryOut 197 = .ok (.ireturn, 1) := by decide +kernel
theorem dX5_carryOut_198 : decode cX5_carryOut 198 = .ok (.aload_n 0, 1) := by decide +kernel
theorem dX5_carryOut_199 : decode cX5_carryOut 199 = .ok (.getfield 10, 3) := by decide +kernel
theorem dX5_carryOut_202 : decode cX5_carryOut 202 = .ok (.invokevirtual 170, 3) := by decide +kernel
theorem dX5_carryOut_205 : decode cX5_carryOut 205 = .ok (.ireturn, 1) := by decide +kernel
theorem dX5_carryOut_206 : decode cX5_carryOut 206 = .ok (.bipush (-2), 2) := by decide +kernel
theorem dX5_carryOut_208 : decode cX5_carryOut 208 = .ok (.ireturn, 1) := by decide +kernel
set_option maxRecDepth 20000 in
theorem ggX5_bestPair_X3_clashesByPairs : GoodIn wsX5_bestPair wsX3_clashesByPairs := goodIn_ca (goodIn_r _ [8, 9, 10, 11, 12, 7, 13, 14, 15, 16, 17, 18, 19, 20, 21, 22, 23, 24, 25, 26, 27, 79, 80, 81, 82, 83, 84, 85, 86] (by decide +kernel) (by decide +kernel)) (goodIn_sub (fun _ h => List.mem_cons_of_mem _ (List.mem_append_right _ h)) (by decide +kernel))
set_option maxRecDepth 20000 in
theorem gX5_bestPair_X3_clashesByPairs : GoodIn wsX5_bestPair (wsV RX5 111 RX3 yX3_clashesByPairs wsX3_clashesByPairs) := goodIn_app (goodIn_of _ (by decide +kernel)) ggX5_bestPair_X3_clashesByPairs
set_option maxRecDepth 20000 in
theorem ggX5_bestPair_X3_copy : GoodIn wsX5_bestPair wsX3_copy := goodIn_r _ [31, 27, 32, 33, 34, 35, 36, 37, 38, 39, 22, 40, 9, 41, 42, 43, 44, 79, 80, 81, 82, 83, 84, 85, 86] (by decide +kernel) (by decide +kernel)
set_option maxRecDepth 20000 in
theorem gX5_bestPair_X3_copy : GoodIn wsX5_bestPair (wsV RX5 121 RX3 yX3_copy wsX3_copy) := goodIn_app (goodIn_of _ (by decide +kernel)) ggX5_bestPair_X3_copy
set_option maxRecDepth 20000 in
theorem ggX5_bestPair_X3_canExchange : GoodIn wsX5_bestPair wsX3_canExchange := goodIn_ca (goodIn_r _ [48, 14, 15, 16, 7, 17, 18, 19, 20, 21, 22, 49, 50, 51, 52, 23, 24, 25, 26, 27, 79, 80, 81, 82, 83, 84, 85, 86] (by decide +kernel) (by decide +kernel)) (goodIn_sub (fun _ h => List.mem_cons_of_mem _ (List.mem_append_right _ h)) (by decide +kernel))
set_option maxRecDepth 20000 in
theorem gX5_bestPair_X3_canExchange : GoodIn wsX5_bestPair (wsV RX5 351 RX3 yX3_canExchange wsX3_canExchange) := goodIn_app (goodIn_of _ (by decide +kernel)) ggX5_bestPair_X3_canExchange
set_option maxRecDepth 20000 in
theorem ggX5_bestPair_X3_exchange : GoodIn wsX5_bestPair wsX3_exchange := goodIn_ca (goodIn_r _ [56, 18, 19, 20, 7, 21, 22, 57, 58, 59, 60, 61, 62, 63, 64, 65, 66, 67, 68, 27, 79, 80, 81, 82, 83, 84, 85, 86] (by decide +kernel) (by decide +kernel)) (goodIn_sub (fun _ h => List.mem_cons_of_mem _ (List.mem_append_right _ h)) (by decide +kernel))
set_option maxRecDepth 20000 in
theorem gX5_bestPair_X3_exchange : GoodIn wsX5_bestPair (wsV RX5 339 RX3 yX3_exchange wsX3_exchange) := goodIn_app (goodIn_of _ (by decide +kernel)) ggX5_bestPair_X3_exchange
theorem dX5_bestPair_0 : decode cX5_bestPair 0 = .ok (.aload_n 0, 1) := by decide +kernel
theorem dX5_bestPair_1 : decode cX5_bestPair 1 = .ok (.getfield 10, 3) := by decide +kernel
theorem dX5_bestPair_4 : decode cX5_bestPair 4 = .ok (.invokevirtual 111, 3) := by decide +kernel
theorem dX5_bestPair_7 : decode cX5_bestPair 7 = .ok (.istore_n 1, 1) := by decide +kernel
theorem dX5_bestPair_8 : decode cX5_bestPair 8 = .ok (.iconst (-1), 1) := by decide +kernel
theorem dX5_bestPair_9 : decode cX5_bestPair 9 = .ok (.istore_n 2, 1) := by decide +kernel
theorem dX5_bestPair_10 : decode cX5_bestPair 10 = .ok (.aload_n 0, 1) := by decide +kernel
theorem dX5_bestPair_11 : decode cX5_bestPair 11 = .ok (.getfield 16, 3) := by decide +kernel
theorem dX5_bestPair_14 : decode cX5_bestPair 14 = .ok (.aload_n 0, 1) := by decide +kernel
theorem dX5_bestPair_15 : decode cX5_bestPair 15 = .ok (.getfield 10, 3) := by decide +kernel
theorem dX5_bestPair_18 : decode cX5_bestPair 18 = .ok (.invokevirtual 121, 3) := by decide +kernel
theorem dX5_bestPair_21 : decode cX5_bestPair 21 = .ok (.iconst 0, 1) := by decide +kernel
theorem dX5_bestPair_22 : decode cX5_bestPair 22 = .ok (.istore_n 3, 1) := by decide +kernel
theorem dX5_bestPair_23 : decode cX5_bestPair 23 = .ok (.iload_n 3, 1) := by decide +kernel
theorem dX5_bestPair_24 : decode cX5_bestPair 24 = .ok (.aload_n 0, 1) := by decide +kernel
theorem dX5_bestPair_25 : decode cX5_bestPair 25 = .ok (.getfield 10, 3) := by decide +kernel
theorem dX5_bestPair_28 : decode cX5_bestPair 28 = .ok (.getfield 249, 3) := by decide +kernel
theorem dX5_bestPair_31 : decode cX5_bestPair 31 = .ok (.if_icmp .ge 91, 3) := by decide +kernel
theorem dX5_bestPair_34 : decode cX5_bestPair 34 = .ok (.iload_n 3, 1) := by decide +kernel
theorem dX5_bestPair_35 : decode cX5_bestPair 35 = .ok (.iconst 1, 1) := by decide +kernel
theorem dX5_bestPair_36 : decode cX5_bestPair 36 = .ok (.iadd, 1) := by decide +kernel
theorem dX5_bestPair_37 : decode cX5_bestPair 37 = .ok (.istore 4, 2) := by decide +kernel
theorem dX5_bestPair_39 : decode cX5_bestPair 39 = .ok (.iload 4, 2) := by decide +kernel
theorem dX5_bestPair_41 : decode cX5_bestPair 41 = .ok (.aload_n 0, 1) := by decide +kernel
theorem dX5_bestPair_42 : decode cX5_bestPair 42 = .ok (.getfield 10, 3) := by decide +kernel
theorem dX5_bestPair_45 : decode cX5_bestPair 45 = .ok (.getfield 249, 3) := by decide +kernel
theorem dX5_bestPair_48 : decode cX5_bestPair 48 = .ok (.if_icmp .ge 68, 3) := by decide +kernel
theorem dX5_bestPair_51 : decode cX5_bestPair 51 = .ok (.aload_n 0, 1) := by decide +kernel
theorem dX5_bestPair_52 : decode cX5_bestPair 52 = .ok (.getfield 10, 3) := by decide +kernel
theorem dX5_bestPair_55 : decode cX5_bestPair 55 = .ok (.iload_n 3, 1) := by decide +kernel
theorem dX5_bestPair_56 : decode cX5_bestPair 56 = .ok (.iload 4, 2) := by decide +kernel
theorem dX5_bestPair_58 : decode cX5_bestPair 58 = .ok (.invokevirtual 351, 3) := by decide +kernel
theorem dX5_bestPair_61 : decode cX5_bestPair 61 = .ok (.ifCond .eq 49, 3) := by decide +kernel
theorem dX5_bestPair_64 : decode cX5_bestPair 64 = .ok (.aload_n 0, 1) := by decide +kernel
theorem dX5_bestPair_65 : decode cX5_bestPair 65 = .ok (.getfield 16, 3) := by decide +kernel
theorem dX5_bestPair_68 : decode cX5_bestPair 68 = .ok (.iload_n 3, 1) := by decide +kernel
theorem dX5_bestPair_69 : decode cX5_bestPair 69 = .ok (.iload 4, 2) := by decide +kernel
theorem dX5_bestPair_71 : decode cX5_bestPair 71 = .ok (.invokevirtual 339, 3) := by decide +kernel
theorem dX5_bestPair_74 : decode cX5_bestPair 74 = .ok (.aload_n 0, 1) := by decide +kernel
theorem dX5_bestPair_75 : decode cX5_bestPair 75 = .ok (.getfield 16, 3) := by decide +kernel
theorem dX5_bestPair_78 : decode cX5_bestPair 78 = .ok (.invokevirtual 111, 3) := by decide +kernel
theorem dX5_bestPair_81 : decode cX5_bestPair 81 = .ok (.istore 5, 2) := by decide +kernel
theorem dX5_bestPair_83 : decode cX5_bestPair 83 = .ok (.aload_n 0, 1) := by decide +kernel
theorem dX5_bestPair_84 : decode cX5_bestPair 84 = .ok (.getfield 16, 3) := by decide +kernel
theorem dX5_bestPair_87 : decode cX5_bestPair 87 = .ok (.iload_n 3, 1) := by decide +kernel
theorem dX5_bestPair_88 : decode cX5_bestPair 88 = .ok (.iload 4, 2) := by decide +kernel
theorem dX5_bestPair_90 : decode cX5_bestPair 90 = .ok (.invokevirtual 339, 3) := by decide +kernel
theorem dX5_bestPair_93 : decode cX5_bestPair 93 = .ok (.iload 5, 2) := by decide +kernel
theorem dX5_bestPair_95 : decode cX5_bestPair 95 = .ok (.iload_n 1, 1) := by decide +kernel
theorem dX5_bestPair_96 : decode cX5_bestPair 96 = .ok (.if_icmp .ge 14, 3) := by decide +kernel
theorem dX5_bestPair_99 : decode cX5_bestPair 99 = .ok (.iload 5, 2) := by decide +kernel
theorem dX5_bestPair_101 : decode cX5_bestPair 101 = .ok (.istore_n 1, 1) := by decide +kernel
theorem dX5_bestPair_102 : decode cX5_bestPair 102 = .ok (.iload_n 3, 1) := by decide +kernel
theorem dX5_bestPair_103 : decode cX5_bestPair 103 = .ok (.bipush 12, 2) := by decide +kernel
theorem dX5_bestPair_105 : decode cX5_bestPair 105 = .ok (.imul, 1) := by decide +kernel
theorem dX5_bestPair_106 : decode cX5_bestPair 106 = .ok (.iload 4, 2) := by decide +kernel
theorem dX5_bestPair_108 : decode cX5_bestPair 108 = .ok (.iadd, 1) := by decide +kernel
theorem dX5_bestPair_109 : decode cX5_bestPair 109 = .ok (.istore_n 2, 1) := by decide +kernel
theorem dX5_bestPair_110 : decode cX5_bestPair 110 = .ok (.iinc 4 1, 3) := by decide +kernel
theorem dX5_bestPair_113 : decode cX5_bestPair 113 = .ok (.goto (-74), 3) := by decide +kernel
theorem dX5_bestPair_116 : decode cX5_bestPair 116 = .ok (.iinc 3 1, 3) := by decide +kernel
theorem dX5_bestPair_119 : decode cX5_bestPair 119 = .ok (.goto (-96), 3) := by decide +kernel
theorem dX5_bestPair_122 : decode cX5_bestPair 122 = .ok (.iload_n 2, 1) := by decide +kernel
theorem dX5_bestPair_123 : decode cX5_bestPair 123 = .ok (.ireturn, 1) := by decide +kernel
set_option maxRecDepth 20000 in
theorem ggX5_writeSeat_X3_ofStool : GoodIn wsX5_writeSeat wsX3_ofStool := goodIn_ca (goodIn_r _ [7, 8, 31, 32, 33, 34, 35, 36, 37, 38] (by decide +kernel) (by decide +kernel)) (goodIn_sub (fun _ h => List.mem_cons_of_mem _ (List.mem_append_right _ h)) (by decide +kernel))
set_option maxRecDepth 20000 in
theorem gX5_writeSeat_X3_ofStool : GoodIn wsX5_writeSeat (wsV RX5 93 RX3 yX3_ofStool wsX3_ofStool) := goodIn_app (goodIn_of _ (by decide +kernel)) ggX5_writeSeat_X3_ofStool
set_option maxRecDepth 20000 in
theorem ggX5_writeSeat_X2_add : GoodIn wsX5_writeSeat wsX2_add := goodIn_ca (goodIn_r _ [13, 14, 15, 39, 40] (by decide +kernel) (by decide +kernel)) (goodIn_sub (fun _ h => List.mem_cons_of_mem _ (List.mem_append_right _ h)) (by decide +kernel))
set_option maxRecDepth 20000 in
theorem gX5_writeSeat_X2_add : GoodIn wsX5_writeSeat (wsV RX5 195 RX2 yX2_add wsX2_add) := goodIn_app (goodIn_of _ (by decide +kernel)) ggX5_writeSeat_X2_add
set_option maxRecDepth 20000 in
theorem ggX5_writeSeat_X3_ofSitter : GoodIn wsX5_writeSeat wsX3_ofSitter := goodIn_ca (goodIn_r _ [19, 20, 31, 32, 33, 34, 35, 36, 37, 38] (by decide +kernel) (by decide +kernel)) (goodIn_sub (fun _ h => List.mem_cons_of_mem _ (List.mem_append_right _ h)) (by decide +kernel))
set_option maxRecDepth 20000 in
theorem gX5_writeSeat_X3_ofSitter : GoodIn wsX5_writeSeat (wsV RX5 99 RX3 yX3_ofSitter wsX3_ofSitter) := goodIn_app (goodIn_of _ (by decide +kernel)) ggX5_writeSeat_X3_ofSitter
theorem dX5_writeSeat_0 : decode cX5_writeSeat 0 = .ok (.aload_n 0, 1) := by decide +kernel
theorem dX5_writeSeat_1 : decode cX5_writeSeat 1 = .ok (.getfield 10, 3) := by decide +kernel
theorem dX5_writeSeat_4 : decode cX5_writeSeat 4 = .ok (.iload_n 1, 1) := by decide +kernel
theorem dX5_writeSeat_5 : decode cX5_writeSeat 5 = .ok (.iconst 3, 1) := by decide +kernel
theorem dX5_writeSeat_6 : decode cX5_writeSeat 6 = .ok (.invokevirtual 93, 3) := by decide +kernel
theorem dX5_writeSeat_9 : decode cX5_writeSeat 9 = .ok (.iconst 1, 1) := by decide +kernel
theorem dX5_writeSeat_10 : decode cX5_writeSeat 10 = .ok (.if_icmp .ne 12, 3) := by decide +kernel
theorem dX5_writeSeat_13 : decode cX5_writeSeat 13 = .ok (.aload_n 0, 1) := by decide +kernel
theorem dX5_writeSeat_14 : decode cX5_writeSeat 14 = .ok (.getfield 39, 3) := by decide +kernel
theorem dX5_writeSeat_17 : decode cX5_writeSeat 17 = .ok (.bipush 124, 2) := by decide +kernel
theorem dX5_writeSeat_19 : decode cX5_writeSeat 19 = .ok (.invokevirtual 195, 3) := by decide +kernel
theorem dX5_writeSeat_22 : decode cX5_writeSeat 22 = .ok (.aload_n 0, 1) := by decide +kernel
theorem dX5_writeSeat_23 : decode cX5_writeSeat 23 = .ok (.getfield 10, 3) := by decide +kernel
theorem dX5_writeSeat_26 : decode cX5_writeSeat 26 = .ok (.iload_n 1, 1) := by decide +kernel
theorem dX5_writeSeat_27 : decode cX5_writeSeat 27 = .ok (.iconst 5, 1) := by decide +kernel
theorem dX5_writeSeat_28 : decode cX5_writeSeat 28 = .ok (.invokevirtual 93, 3) := by decide +kernel
theorem dX5_writeSeat_31 : decode cX5_writeSeat 31 = .ok (.istore_n 2, 1) := by decide +kernel
theorem dX5_writeSeat_32 : decode cX5_writeSeat 32 = .ok (.iload_n 2, 1) := by decide +kernel
theorem dX5_writeSeat_33 : decode cX5_writeSeat 33 = .ok (.iconst (-1), 1) := by decide +kernel
theorem dX5_writeSeat_34 : decode cX5_writeSeat 34 = .ok (.if_icmp .ne 15, 3) := by decide +kernel
theorem dX5_writeSeat_37 : decode cX5_writeSeat 37 = .ok (.aload_n 0, 1) := by decide +kernel
theorem dX5_writeSeat_38 : decode cX5_writeSeat 38 = .ok (.getfield 39, 3) := by decide +kernel
theorem dX5_writeSeat_41 : decode cX5_writeSeat 41 = .ok (.bipush 46, 2) := by decide +kernel
theorem dX5_writeSeat_43 : decode cX5_writeSeat 43 = .ok (.invokevirtual 195, 3) := by decide +kernel
theorem dX5_writeSeat_46 : decode cX5_writeSeat 46 = .ok (.goto 34, 3) := by decide +kernel
theorem dX5_writeSeat_49 : decode cX5_writeSeat 49 = .ok (.aload_n 0, 1) := by decide +kernel
theorem dX5_writeSeat_50 : decode cX5_writeSeat 50 = .ok (.getfield 10, 3) := by decide +kernel
theorem dX5_writeSeat_53 : decode cX5_writeSeat 53 = .ok (.iload_n 2, 1) := by decide +kernel
theorem dX5_writeSeat_54 : decode cX5_writeSeat 54 = .ok (.iconst 0, 1) := by decide +kernel
theorem dX5_writeSeat_55 : decode cX5_writeSeat 55 = .ok (.invokevirtual 99, 3) := by decide +kernel
theorem dX5_writeSeat_58 : decode cX5_writeSeat 58 = .ok (.ifCond .ne 8, 3) := by decide +kernel
theorem dX5_writeSeat_61 : decode cX5_writeSeat 61 = .ok (.bipush 65, 2) := by decide +kernel
theorem dX5_writeSeat_63 : decode cX5_writeSeat 63 = .ok (.goto 5, 3) := by decide +kernel
theorem dX5_writeSeat_66 : decode cX5_writeSeat 66 = .ok (.bipush 97, 2) := by decide +kernel
theorem dX5_writeSeat_68 : decode cX5_writeSeat 68 = .ok (.istore_n 3, 1) := by decide +kernel
theorem dX5_writeSeat_69 : decode cX5_writeSeat 69 = .ok (.aload_n 0, 1) := by decide +kernel
theorem dX5_writeSeat_70 : decode cX5_writeSeat 70 = .ok (.getfield 39, 3) := by decide +kernel
theorem dX5_writeSeat_73 : decode cX5_writeSeat 73 = .ok (.iload_n 3, 1) := by decide +kernel
theorem dX5_writeSeat_74 : decode cX5_writeSeat 74 = .ok (.iload_n 2, 1) := by decide +kernel
theorem dX5_writeSeat_75 : decode cX5_writeSeat 75 = .ok (.iadd, 1) := by decide +kernel
theorem dX5_writeSeat_76 : decode cX5_writeSeat 76 = .ok (.i2c, 1) := by decide +kernel
theorem dX5_writeSeat_77 : decode cX5_writeSeat 77 = .ok (.invokevirtual 195, 3) := by decide +kernel
theorem dX5_writeSeat_80 : decode cX5_writeSeat 80 = .ok (.return_, 1) := by decide +kernel
