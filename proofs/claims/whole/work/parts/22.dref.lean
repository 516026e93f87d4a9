theorem dX6_init_0 : decode cX6_init 0 = .ok (.aload_n 0, 1) := by decide +kernel
theorem dX6_init_1 : decode cX6_init 1 = .ok (.invokespecial 1, 3) := by decide +kernel
theorem dX6_init_4 : decode cX6_init 4 = .ok (.aload_n 0, 1) := by decide +kernel
theorem dX6_init_5 : decode cX6_init 5 = .ok (.bipush 114, 2) := by decide +kernel
theorem dX6_init_7 : decode cX6_init 7 = .ok (.newarray .int, 2) := by decide +kernel
theorem dX6_init_9 : decode cX6_init 9 = .ok (.putfield 7, 3) := by decide +kernel
theorem dX6_init_12 : decode cX6_init 12 = .ok (.aload_n 0, 1) := by decide +kernel
theorem dX6_init_13 : decode cX6_init 13 = .ok (.sipush 912, 3) := by decide +kernel
theorem dX6_init_16 : decode cX6_init 16 = .ok (.newarray .int, 2) := by decide +kernel
theorem dX6_init_18 : decode cX6_init 18 = .ok (.putfield 13, 3) := by decide +kernel
theorem dX6_init_21 : decode cX6_init 21 = .ok (.aload_n 0, 1) := by decide +kernel
theorem dX6_init_22 : decode cX6_init 22 = .ok (.bipush 114, 2) := by decide +kernel
theorem dX6_init_24 : decode cX6_init 24 = .ok (.newarray .int, 2) := by decide +kernel
theorem dX6_init_26 : decode cX6_init 26 = .ok (.putfield 16, 3) := by decide +kernel
theorem dX6_init_29 : decode cX6_init 29 = .ok (.aload_n 0, 1) := by decide +kernel
theorem dX6_init_30 : decode cX6_init 30 = .ok (.bipush 114, 2) := by decide +kernel
theorem dX6_init_32 : decode cX6_init 32 = .ok (.newarray .int, 2) := by decide +kernel
theorem dX6_init_34 : decode cX6_init 34 = .ok (.putfield 19, 3) := by decide +kernel
theorem dX6_init_37 : decode cX6_init 37 = .ok (.aload_n 0, 1) := by decide +kernel
theorem dX6_init_38 : decode cX6_init 38 = .ok (.bipush 60, 2) := by decide +kernel
theorem dX6_init_40 : decode cX6_init 40 = .ok (.newarray .int, 2) := by decide +kernel
theorem dX6_init_42 : decode cX6_init 42 = .ok (.putfield 22, 3) := by decide +kernel
theorem dX6_init_45 : decode cX6_init 45 = .ok (.aload_n 0, 1) := by decide +kernel
theorem dX6_init_46 : decode cX6_init 46 = .ok (.iconst (-1), 1) := by decide +kernel
theorem dX6_init_47 : decode cX6_init 47 = .ok (.putfield 25, 3) := by decide +kernel
theorem dX6_init_50 : decode cX6_init 50 = .ok (.aload_n 0, 1) := by decide +kernel
theorem dX6_init_51 : decode cX6_init 51 = .ok (.sipush 900, 3) := by decide +kernel
theorem dX6_init_54 : decode cX6_init 54 = .ok (.newarray .char, 2) := by decide +kernel
theorem dX6_init_56 : decode cX6_init 56 = .ok (.putfield 29, 3) := by decide +kernel
theorem dX6_init_59 : decode cX6_init 59 = .ok (.aload_n 0, 1) := by decide +kernel
theorem dX6_init_60 : decode cX6_init 60 = .ok (.bipush 12, 2) := by decide +kernel
theorem dX6_init_62 : decode cX6_init 62 = .ok (.newarray .int, 2) := by decide +kernel
theorem dX6_init_64 : decode cX6_init 64 = .ok (.putfield 33, 3) := by decide +kernel
theorem dX6_init_67 : decode cX6_init 67 = .ok (.aload_n 0, 1) := by decide +kernel
theorem dX6_init_68 : decode cX6_init 68 = .ok (.sipush 155, 3) := by decide +kernel
theorem dX6_init_71 : decode cX6_init 71 = .ok (.newarray .int, 2) := by decide +kernel
theorem dX6_init_73 : decode cX6_init 73 = .ok (.putfield 36, 3) := by decide +kernel
theorem dX6_init_76 : decode cX6_init 76 = .ok (.aload_n 0, 1) := by decide +kernel
theorem dX6_init_77 : decode cX6_init 77 = .ok (.getfield 7, 3) := by decide +kernel
theorem dX6_init_80 : decode cX6_init 80 = .ok (.iconst 2, 1) := by decide +kernel
theorem dX6_init_81 : decode cX6_init 81 = .ok (.bipush 6, 2) := by decide +kernel
theorem dX6_init_83 : decode cX6_init 83 = .ok (.iastore, 1) := by decide +kernel
theorem dX6_init_84 : decode cX6_init 84 = .ok (.return_, 1) := by decide +kernel
theorem dX6_thrown_0 : decode cX6_thrown 0 = .ok (.aload_n 0, 1) := by decide +kernel
theorem dX6_thrown_1 : decode cX6_thrown 1 = .ok (.getfield 39, 3) := by decide +kernel
theorem dX6_thrown_4 : decode cX6_thrown 4 = .ok (.ireturn, 1) := by decide +kernel
theorem dX6_fails_0 : decode cX6_fails 0 = .ok (.aload_n 0, 1) := by decide +kernel
theorem dX6_fails_1 : decode cX6_fails 1 = .ok (.iload_n 1, 1) := by decide +kernel
theorem dX6_fails_2 : decode cX6_fails 2 = .ok (.putfield 39, 3) := by decide +kernel
theorem dX6_fails_5 : decode cX6_fails 5 = .ok (.aload_n 0, 1) := by decide +kernel
theorem dX6_fails_6 : decode cX6_fails 6 = .ok (.iconst 0, 1) := by decide +kernel
theorem dX6_fails_7 : decode cX6_fails 7 = .ok (.putfield 42, 3) := by decide +kernel
theorem dX6_fails_10 : decode cX6_fails 10 = .ok (.iload_n 1, 1) := by decide +kernel
theorem dX6_fails_11 : decode cX6_fails 11 = .ok (.ifCond .le 7, 3) := by decide +kernel
theorem dX6_fails_14 : decode cX6_fails 14 = .ok (.iconst 1, 1) := by decide +kernel
theorem dX6_fails_15 : decode cX6_fails 15 = .ok (.goto 4, 3) := by decide +kernel
theorem dX6_fails_18 : decode cX6_fails 18 = .ok (.iconst 0, 1) := by decide +kernel
theorem dX6_fails_19 : decode cX6_fails 19 = .ok (.ireturn, 1) := by decide +kernel
theorem dX6_refuses_0 : decode cX6_refuses 0 = .ok (.aload_n 0, 1) := by decide +kernel
theorem dX6_refuses_1 : decode cX6_refuses 1 = .ok (.iload_n 1, 1) := by decide +kernel
theorem dX6_refuses_2 : decode cX6_refuses 2 = .ok (.putfield 39, 3) := by decide +kernel
theorem dX6_refuses_5 : decode cX6_refuses 5 = .ok (.aload_n 0, 1) := by decide +kernel
theorem dX6_refuses_6 : decode cX6_refuses 6 = .ok (.iconst 1, 1) := by decide +kernel
theorem dX6_refuses_7 : decode cX6_refuses 7 = .ok (.putfield 42, 3) := by decide +kernel
theorem dX6_refuses_10 : decode cX6_refuses 10 = .ok (.aload_n 0, 1) := by decide +kernel
theorem dX6_refuses_11 : decode cX6_refuses 11 = .ok (.iload_n 2, 1) := by decide +kernel
theorem dX6_refuses_12 : decode cX6_refuses 12 = .ok (.putfield 46, 3) := by decide +kernel
theorem dX6_refuses_15 : decode cX6_refuses 15 = .ok (.aload_n 0, 1) := by decide +kernel
theorem dX6_refuses_16 : decode cX6_refuses 16 = .ok (.iload_n 3, 1) := by decide +kernel
theorem dX6_refuses_17 : decode cX6_refuses 17 = .ok (.putfield 49, 3) := by decide +kernel
theorem dX6_refuses_20 : decode cX6_refuses 20 = .ok (.iconst 0, 1) := by decide +kernel
theorem dX6_refuses_21 : decode cX6_refuses 21 = .ok (.ireturn, 1) := by decide +kernel
theorem dX6_in_0 : decode cX6_in 0 = .ok (.iload_n 0, 1) := by decide +kernel
theorem dX6_in_1 : decode cX6_in 1 = .ok (.iload_n 1, 1) := by decide +kernel
theorem dX6_in_2 : decode cX6_in 2 = .ok (.if_icmp .lt 12, 3) := by decide +kernel
theorem dX6_in_5 : decode cX6_in 5 = .ok (.iload_n 0, 1) := by decide +kernel
theorem dX6_in_6 : decode cX6_in 6 = .ok (.iload_n 2, 1) := by decide +kernel
theorem dX6_in_7 : decode cX6_in 7 = .ok (.if_icmp .gt 7, 3) := by decide +kernel
theorem dX6_in_10 : decode cX6_in 10 = .ok (.iconst 1, 1) := by decide +kernel
theorem dX6_in_11 : decode cX6_in 11 = .ok (.goto 4, 3) := by decide +kernel
theorem dX6_in_14 : decode cX6_in 14 = .ok (.iconst 0, 1) := by decide +kernel
theorem dX6_in_15 : decode cX6_in 15 = .ok (.ireturn, 1) := by decide +kernel
theorem dX6_atMost_0 : decode cX6_atMost 0 = .ok (.iload_n 0, 1) := by decide +kernel
theorem dX6_atMost_1 : decode cX6_atMost 1 = .ok (.iload_n 1, 1) := by decide +kernel
theorem dX6_atMost_2 : decode cX6_atMost 2 = .ok (.if_icmp .ge 7, 3) := by decide +kernel
theorem dX6_atMost_5 : decode cX6_atMost 5 = .ok (.iload_n 0, 1) := by decide +kernel
theorem dX6_atMost_6 : decode cX6_atMost 6 = .ok (.goto 4, 3) := by decide +kernel
theorem dX6_atMost_9 : decode cX6_atMost 9 = .ok (.iload_n 1, 1) := by decide +kernel
theorem dX6_atMost_10 : decode cX6_atMost 10 = .ok (.ireturn, 1) := by decide +kernel
theorem dX6_copies_0 : decode cX6_copies 0 = .ok (.iconst 0, 1) := by decide +kernel
theorem dX6_copies_1 : decode cX6_copies 1 = .ok (.istore 4, 2) := by decide +kernel
theorem dX6_copies_3 : decode cX6_copies 3 = .ok (.iload 4, 2) := by decide +kernel
theorem dX6_copies_5 : decode cX6_copies 5 = .ok (.bipush 114, 2) := by decide +kernel
theorem dX6_copies_7 : decode cX6_copies 7 = .ok (.if_icmp .ge 21, 3) := by decide +kernel
theorem dX6_copies_10 : decode cX6_copies 10 = .ok (.aload_n 2, 1) := by decide +kernel
theorem dX6_copies_11 : decode cX6_copies 11 = .ok (.iload_n 3, 1) := by decide +kernel
theorem dX6_copies_12 : decode cX6_copies 12 = .ok (.iload 4, 2) := by decide +kernel
theorem dX6_copies_14 : decode cX6_copies 14 = .ok (.iadd, 1) := by decide +kernel
theorem dX6_copies_15 : decode cX6_copies 15 = .ok (.aload_n 0, 1) := by decide +kernel
theorem dX6_copies_16 : decode cX6_copies 16 = .ok (.iload_n 1, 1) := by decide +kernel
theorem dX6_copies_17 : decode cX6_copies 17 = .ok (.iload 4, 2) := by decide +kernel
theorem dX6_copies_19 : decode cX6_copies 19 = .ok (.iadd, 1) := by decide +kernel
theorem dX6_copies_20 : decode cX6_copies 20 = .ok (.iaload, 1) := by decide +kernel
theorem dX6_copies_21 : decode cX6_copies 21 = .ok (.iastore, 1) := by decide +kernel
theorem dX6_copies_22 : decode cX6_copies 22 = .ok (.iinc 4 1, 3) := by decide +kernel
theorem dX6_copies_25 : decode cX6_copies 25 = .ok (.goto (-22), 3) := by decide +kernel
theorem dX6_copies_28 : decode cX6_copies 28 = .ok (.return_, 1) := by decide +kernel
set_option maxRecDepth 20000 in
theorem ggX6_keeps_X6_copies : GoodIn wsX6_keeps wsX6_copies := goodIn_ca (goodIn_r _ [8] (by decide +kernel) (by decide +kernel)) (goodIn_sub (fun _ h => List.mem_cons_of_mem _ (List.mem_append_right _ h)) (by decide +kernel))
set_option maxRecDepth 20000 in
theorem gX6_keeps_X6_copies : GoodIn wsX6_keeps (va_wsS RX6 58 yX6_copies wsX6_copies) := goodIn_app (goodIn_of _ (by decide +kernel)) ggX6_keeps_X6_copies
theorem dX6_keeps_0 : decode cX6_keeps 0 = .ok (.aload_n 0, 1) := by decide +kernel
theorem dX6_keeps_1 : decode cX6_keeps 1 = .ok (.iconst 0, 1) := by decide +kernel
theorem dX6_keeps_2 : decode cX6_keeps 2 = .ok (.putfield 39, 3) := by decide +kernel
theorem dX6_keeps_5 : decode cX6_keeps 5 = .ok (.aload_n 0, 1) := by decide +kernel
theorem dX6_keeps_6 : decode cX6_keeps 6 = .ok (.getfield 52, 3) := by decide +kernel
theorem dX6_keeps_9 : decode cX6_keeps 9 = .ok (.ifCond .eq 4, 3) := by decide +kernel
theorem dX6_keeps_12 : decode cX6_keeps 12 = .ok (.return_, 1) := by decide +kernel
theorem dX6_keeps_13 : decode cX6_keeps 13 = .ok (.aload_n 0, 1) := by decide +kernel
theorem dX6_keeps_14 : decode cX6_keeps 14 = .ok (.getfield 55, 3) := by decide +kernel
theorem dX6_keeps_17 : decode cX6_keeps 17 = .ok (.bipush 8, 2) := by decide +kernel
theorem dX6_keeps_19 : decode cX6_keeps 19 = .ok (.if_icmp .ne 43, 3) := by decide +kernel
theorem dX6_keeps_22 : decode cX6_keeps 22 = .ok (.iconst 0, 1) := by decide +kernel
theorem dX6_keeps_23 : decode cX6_keeps 23 = .ok (.istore_n 2, 1) := by decide +kernel
theorem dX6_keeps_24 : decode cX6_keeps 24 = .ok (.iload_n 2, 1) := by decide +kernel
theorem dX6_keeps_25 : decode cX6_keeps 25 = .ok (.sipush 798, 3) := by decide +kernel
theorem dX6_keeps_28 : decode cX6_keeps 28 = .ok (.if_icmp .ge 24, 3) := by decide +kernel
theorem dX6_keeps_31 : decode cX6_keeps 31 = .ok (.aload_n 0, 1) := by decide +kernel
theorem dX6_keeps_32 : decode cX6_keeps 32 = .ok (.getfield 13, 3) := by decide +kernel
theorem dX6_keeps_35 : decode cX6_keeps 35 = .ok (.iload_n 2, 1) := by decide +kernel
theorem dX6_keeps_36 : decode cX6_keeps 36 = .ok (.aload_n 0, 1) := by decide +kernel
theorem dX6_keeps_37 : decode cX6_keeps 37 = .ok (.getfield 13, 3) := by decide +kernel
theorem dX6_keeps_40 : decode cX6_keeps 40 = .ok (.iload_n 2, 1) := by decide +kernel
theorem dX6_keeps_41 : decode cX6_keeps 41 = .ok (.bipush 114, 2) := by decide +kernel
theorem dX6_keeps_43 : decode cX6_keeps 43 = .ok (.iadd, 1) := by decide +kernel
theorem dX6_keeps_44 : decode cX6_keeps 44 = .ok (.iaload, 1) := by decide +kernel
theorem dX6_keeps_45 : decode cX6_keeps 45 = .ok (.iastore, 1) := by decide +kernel
theorem dX6_keeps_46 : decode cX6_keeps 46 = .ok (.iinc 2 1, 3) := by decide +kernel
theorem dX6_keeps_49 : decode cX6_keeps 49 = .ok (.goto (-25), 3) := by decide +kernel
theorem dX6_keeps_52 : decode cX6_keeps 52 = .ok (.aload_n 0, 1) := by decide +kernel
theorem dX6_keeps_53 : decode cX6_keeps 53 = .ok (.dup, 1) := by decide +kernel
theorem dX6_keeps_54 : decode cX6_keeps 54 = .ok (.getfield 55, 3) := by decide +kernel
theorem dX6_keeps_57 : decode cX6_keeps 57 = .ok (.iconst 1, 1) := by decide +kernel
theorem dX6_keeps_58 : decode cX6_keeps 58 = .ok (.isub, 1) := by decide +kernel
theorem dX6_keeps_59 : decode cX6_keeps 59 = .ok (.putfield 55, 3) := by decide +kernel
theorem dX6_keeps_62 : decode cX6_keeps 62 = .ok (.aload_n 1, 1) := by decide +kernel
theorem dX6_keeps_63 : decode cX6_keeps 63 = .ok (.iconst 0, 1) := by decide +kernel
theorem dX6_keeps_64 : decode cX6_keeps 64 = .ok (.aload_n 0, 1) := by decide +kernel
theorem dX6_keeps_65 : decode cX6_keeps 65 = .ok (.getfield 13, 3) := by decide +kernel
theorem dX6_keeps_68 : decode cX6_keeps 68 = .ok (.bipush 114, 2) := by decide +kernel
theorem dX6_keeps_70 : decode cX6_keeps 70 = .ok (.aload_n 0, 1) := by decide +kernel
theorem dX6_keeps_71 : decode cX6_keeps 71 = .ok (.getfield 55, 3) := by decide +kernel
theorem dX6_keeps_74 : decode cX6_keeps 74 = .ok (.imul, 1) := by decide +kernel
theorem dX6_keeps_75 : decode cX6_keeps 75 = .ok (.invokestatic 58, 3) := by decide +kernel
theorem dX6_keeps_78 : decode cX6_keeps 78 = .ok (.aload_n 0, 1) := by decide +kernel
theorem dX6_keeps_79 : decode cX6_keeps 79 = .ok (.dup, 1) := by decide +kernel
theorem dX6_keeps_80 : decode cX6_keeps 80 = .ok (.getfield 55, 3) := by decide +kernel
theorem dX6_keeps_83 : decode cX6_keeps 83 = .ok (.iconst 1, 1) := by decide +kernel
theorem dX6_keeps_84 : decode cX6_keeps 84 = .ok (.iadd, 1) := by decide +kernel
theorem dX6_keeps_85 : decode cX6_keeps 85 = .ok (.putfield 55, 3) := by decide +kernel
theorem dX6_keeps_88 : decode cX6_keeps 88 = .ok (.return_, 1) := by decide +kernel
theorem dX6_of_0 : decode cX6_of 0 = .ok (.aload_n 0, 1) := by decide +kernel
theorem dX6_of_1 : decode cX6_of 1 = .ok (.getfield 7, 3) := by decide +kernel
theorem dX6_of_4 : decode cX6_of 4 = .ok (.bipush 6, 2) := by decide +kernel
theorem dX6_of_6 : decode cX6_of 6 = .ok (.bipush 6, 2) := by decide +kernel
theorem dX6_of_8 : decode cX6_of 8 = .ok (.iload_n 1, 1) := by decide +kernel
theorem dX6_of_9 : decode cX6_of 9 = .ok (.imul, 1) := by decide +kernel
theorem dX6_of_10 : decode cX6_of 10 = .ok (.iadd, 1) := by decide +kernel
theorem dX6_of_11 : decode cX6_of 11 = .ok (.iload_n 2, 1) := by decide +kernel
theorem dX6_of_12 : decode cX6_of 12 = .ok (.iadd, 1) := by decide +kernel
theorem dX6_of_13 : decode cX6_of 13 = .ok (.iaload, 1) := by decide +kernel
theorem dX6_of_14 : decode cX6_of 14 = .ok (.ireturn, 1) := by decide +kernel
theorem dX6_lays_0 : decode cX6_lays 0 = .ok (.aload_n 0, 1) := by decide +kernel
theorem dX6_lays_1 : decode cX6_lays 1 = .ok (.getfield 7, 3) := by decide +kernel
theorem dX6_lays_4 : decode cX6_lays 4 = .ok (.bipush 6, 2) := by decide +kernel
theorem dX6_lays_6 : decode cX6_lays 6 = .ok (.bipush 6, 2) := by decide +kernel
theorem dX6_lays_8 : decode cX6_lays 8 = .ok (.iload_n 1, 1) := by decide +kernel
theorem dX6_lays_9 : decode cX6_lays 9 = .ok (.imul, 1) := by decide +kernel
theorem dX6_lays_10 : decode cX6_lays 10 = .ok (.iadd, 1) := by decide +kernel
theorem dX6_lays_11 : decode cX6_lays 11 = .ok (.iload_n 2, 1) := by decide +kernel
theorem dX6_lays_12 : decode cX6_lays 12 = .ok (.iadd, 1) := by decide +kernel
theorem dX6_lays_13 : decode cX6_lays 13 = .ok (.iload_n 3, 1) := by decide +kernel
theorem dX6_lays_14 : decode cX6_lays 14 = .ok (.iastore, 1) := by decide +kernel
theorem dX6_lays_15 : decode cX6_lays 15 = .ok (.return_, 1) := by decide +kernel
theorem dX6_by_0 : decode cX6_by 0 = .ok (.aload_n 0, 1) := by decide +kernel
theorem dX6_by_1 : decode cX6_by 1 = .ok (.getfield 7, 3) := by decide +kernel
theorem dX6_by_4 : decode cX6_by 4 = .ok (.bipush 78, 2) := by decide +kernel
theorem dX6_by_6 : decode cX6_by 6 = .ok (.iconst 3, 1) := by decide +kernel
theorem dX6_by_7 : decode cX6_by 7 = .ok (.iload_n 1, 1) := by decide +kernel
theorem dX6_by_8 : decode cX6_by 8 = .ok (.imul, 1) := by decide +kernel
theorem dX6_by_9 : decode cX6_by 9 = .ok (.iadd, 1) := by decide +kernel
theorem dX6_by_10 : decode cX6_by 10 = .ok (.iload_n 2, 1) := by decide +kernel
theorem dX6_by_11 : decode cX6_by 11 = .ok (.iadd, 1) := by decide +kernel
theorem dX6_by_12 : decode cX6_by 12 = .ok (.iaload, 1) := by decide +kernel
theorem dX6_by_13 : decode cX6_by 13 = .ok (.ireturn, 1) := by decide +kernel
set_option maxRecDepth 20000 in
theorem ggX6_isStool_X6_in : GoodIn wsX6_isStool wsX6_in := goodIn_r _ [5] (by decide +kernel) (by decide +kernel)
set_option maxRecDepth 20000 in
theorem gX6_isStool_X6_in : GoodIn wsX6_isStool (va_wsS RX6 62 yX6_in wsX6_in) := goodIn_app (goodIn_of _ (by decide +kernel)) ggX6_isStool_X6_in
theorem dX6_isStool_0 : decode cX6_isStool 0 = .ok (.iload_n 1, 1) := by decide +kernel
theorem dX6_isStool_1 : decode cX6_isStool 1 = .ok (.iconst 0, 1) := by decide +kernel
theorem dX6_isStool_2 : decode cX6_isStool 2 = .ok (.aload_n 0, 1) := by decide +kernel
theorem dX6_isStool_3 : decode cX6_isStool 3 = .ok (.getfield 7, 3) := by decide +kernel
theorem dX6_isStool_6 : decode cX6_isStool 6 = .ok (.iconst 0, 1) := by decide +kernel
theorem dX6_isStool_7 : decode cX6_isStool 7 = .ok (.iaload, 1) := by decide +kernel
theorem dX6_isStool_8 : decode cX6_isStool 8 = .ok (.iconst 1, 1) := by decide +kernel
theorem dX6_isStool_9 : decode cX6_isStool 9 = .ok (.isub, 1) := by decide +kernel
theorem dX6_isStool_10 : decode cX6_isStool 10 = .ok (.invokestatic 62, 3) := by decide +kernel
theorem dX6_isStool_13 : decode cX6_isStool 13 = .ok (.ireturn, 1) := by decide +kernel
set_option maxRecDepth 20000 in
theorem ggX6_isSitter_X6_in : GoodIn wsX6_isSitter wsX6_in := goodIn_r _ [5] (by decide +kernel) (by decide +kernel)
set_option maxRecDepth 20000 in
theorem gX6_isSitter_X6_in : GoodIn wsX6_isSitter (va_wsS RX6 62 yX6_in wsX6_in) := goodIn_app (goodIn_of _ (by decide +kernel)) ggX6_isSitter_X6_in
theorem dX6_isSitter_0 : decode cX6_isSitter 0 = .ok (.iload_n 1, 1) := by decide +kernel
theorem dX6_isSitter_1 : decode cX6_isSitter 1 = .ok (.iconst 0, 1) := by decide +kernel
theorem dX6_isSitter_2 : decode cX6_isSitter 2 = .ok (.aload_n 0, 1) := by decide +kernel
theorem dX6_isSitter_3 : decode cX6_isSitter 3 = .ok (.getfield 7, 3) := by decide +kernel
theorem dX6_isSitter_6 : decode cX6_isSitter 6 = .ok (.iconst 1, 1) := by decide +kernel
theorem dX6_isSitter_7 : decode cX6_isSitter 7 = .ok (.iaload, 1) := by decide +kernel
theorem dX6_isSitter_8 : decode cX6_isSitter 8 = .ok (.iconst 1, 1) := by decide +kernel
theorem dX6_isSitter_9 : decode cX6_isSitter 9 = .ok (.isub, 1) := by decide +kernel
theorem dX6_isSitter_10 : decode cX6_isSitter 10 = .ok (.invokestatic 62, 3) := by decide +kernel
theorem dX6_isSitter_13 : decode cX6_isSitter 13 = .ok (.ireturn, 1) := by decide +kernel
set_option maxRecDepth 20000 in
theorem ggX6_isCat_X6_by : GoodIn wsX6_isCat wsX6_by := goodIn_ca (goodIn_r _ [5, 6, 7, 8, 9, 10, 11, 12, 13, 14, 15, 16, 17, 18, 19, 20, 21, 22, 23, 24, 25, 26] (by decide +kernel) (by decide +kernel)) (goodIn_sub (fun _ h => List.mem_cons_of_mem _ (List.mem_append_right _ h)) (by decide +kernel))
set_option maxRecDepth 20000 in
theorem gX6_isCat_X6_by : GoodIn wsX6_isCat (wsV RX6 66 RX6 yX6_by wsX6_by) := goodIn_app (goodIn_of _ (by decide +kernel)) ggX6_isCat_X6_by
theorem dX6_isCat_0 : decode cX6_isCat 0 = .ok (.aload_n 0, 1) := by decide +kernel
theorem dX6_isCat_1 : decode cX6_isCat 1 = .ok (.iload_n 1, 1) := by decide +kernel
theorem dX6_isCat_2 : decode cX6_isCat 2 = .ok (.iconst 0, 1) := by decide +kernel
theorem dX6_isCat_3 : decode cX6_isCat 3 = .ok (.invokevirtual 66, 3) := by decide +kernel
theorem dX6_isCat_6 : decode cX6_isCat 6 = .ok (.ifCond .ne 7, 3) := by decide +kernel
theorem dX6_isCat_9 : decode cX6_isCat 9 = .ok (.iconst 1, 1) := by decide +kernel
theorem dX6_isCat_10 : decode cX6_isCat 10 = .ok (.goto 4, 3) := by decide +kernel
theorem dX6_isCat_13 : decode cX6_isCat 13 = .ok (.iconst 0, 1) := by decide +kernel
theorem dX6_isCat_14 : decode cX6_isCat 14 = .ok (.ireturn, 1) := by decide +kernel
set_option maxRecDepth 20000 in
theorem ggX6_maySit_X6_isCat : GoodIn wsX6_maySit wsX6_isCat := goodIn_ca (goodIn_r _ [5, 6, 7, 8, 4, 9, 10, 15, 16, 17, 18, 19, 20, 21, 22, 23, 24, 25, 26, 27, 28, 29, 30, 31, 32, 33, 34] (by decide +kernel) (by decide +kernel)) (goodIn_sub (fun _ h => List.mem_cons_of_mem _ (List.mem_append_right _ h)) (by decide +kernel))
set_option maxRecDepth 20000 in
theorem gX6_maySit_X6_isCat : GoodIn wsX6_maySit (wsV RX6 70 RX6 yX6_isCat wsX6_isCat) := goodIn_app (goodIn_of _ (by decide +kernel)) ggX6_maySit_X6_isCat
set_option maxRecDepth 20000 in
theorem ggX6_maySit_X6_of : GoodIn wsX6_maySit wsX6_of := goodIn_ca (goodIn_r _ [14, 10, 15, 16, 17, 18, 19, 20, 21, 22, 23, 24, 25, 26, 27, 28, 29, 30, 31, 32, 33, 34] (by decide +kernel) (by decide +kernel)) (goodIn_sub (fun _ h => List.mem_cons_of_mem _ (List.mem_append_right _ h)) (by decide +kernel))
set_option maxRecDepth 20000 in
theorem gX6_maySit_X6_of : GoodIn wsX6_maySit (wsV RX6 74 RX6 yX6_of wsX6_of) := goodIn_app (goodIn_of _ (by decide +kernel)) ggX6_maySit_X6_of
theorem dX6_maySit_0 : decode cX6_maySit 0 = .ok (.aload_n 0, 1) := by decide +kernel
theorem dX6_maySit_1 : decode cX6_maySit 1 = .ok (.iload_n 1, 1) := by decide +kernel
theorem dX6_maySit_2 : decode cX6_maySit 2 = .ok (.invokevirtual 70, 3) := by decide +kernel
theorem dX6_maySit_5 : decode cX6_maySit 5 = .ok (.ifCond .eq 12, 3) := by decide +kernel
theorem dX6_maySit_8 : decode cX6_maySit 8 = .ok (.aload_n 0, 1) := by decide +kernel
theorem dX6_maySit_9 : decode cX6_maySit 9 = .ok (.iload_n 2, 1) := by decide +kernel
theorem dX6_maySit_10 : decode cX6_maySit 10 = .ok (.iconst 3, 1) := by decide +kernel
theorem dX6_maySit_11 : decode cX6_maySit 11 = .ok (.invokevirtual 74, 3) := by decide +kernel
theorem dX6_maySit_14 : decode cX6_maySit 14 = .ok (.ifCond .ne 7, 3) := by decide +kernel
theorem dX6_maySit_17 : decode cX6_maySit 17 = .ok (.iconst 1, 1) := by decide +kernel
theorem dX6_maySit_18 : decode cX6_maySit 18 = .ok (.goto 4, 3) := by decide +kernel
theorem dX6_maySit_21 : decode cX6_maySit 21 = .ok (.iconst 0, 1) := by decide +kernel
theorem dX6_maySit_22 : decode cX6_maySit 22 = .ok (.ireturn, 1) := by decide +kernel
set_option maxRecDepth 20000 in
theorem ggX6_stool_X6_in : GoodIn wsX6_stool wsX6_in := goodIn_r _ [5] (by decide +kernel) (by decide +kernel)
set_option maxRecDepth 20000 in
theorem gX6_stool_X6_in : GoodIn wsX6_stool (va_wsS RX6 62 yX6_in wsX6_in) := goodIn_app (goodIn_of _ (by decide +kernel)) ggX6_stool_X6_in
set_option maxRecDepth 20000 in
theorem ggX6_stool_X6_fails : GoodIn wsX6_stool wsX6_fails := goodIn_r _ [9, 10, 11, 32, 33, 34, 35, 36, 37, 38, 39, 40, 41, 42, 43, 44, 45, 46, 47, 48, 49, 50, 51] (by decide +kernel) (by decide +kernel)
set_option maxRecDepth 20000 in
theorem gX6_stool_X6_fails : GoodIn wsX6_stool (wsV RX6 77 RX6 yX6_fails wsX6_fails) := goodIn_app (goodIn_of _ (by decide +kernel)) ggX6_stool_X6_fails
set_option maxRecDepth 20000 in
theorem ggX6_stool_X6_refuses : GoodIn wsX6_stool wsX6_refuses := goodIn_r _ [15, 10, 11, 16, 17, 32, 33, 34, 35, 36, 37, 38, 39, 40, 41, 42, 43, 44, 45, 46, 47, 48, 49, 50, 51] (by decide +kernel) (by decide +kernel)
set_option maxRecDepth 20000 in
theorem gX6_stool_X6_refuses : GoodIn wsX6_stool (wsV RX6 80 RX6 yX6_refuses wsX6_refuses) := goodIn_app (goodIn_of _ (by decide +kernel)) ggX6_stool_X6_refuses
set_option maxRecDepth 20000 in
theorem ggX6_stool_X6_keeps : GoodIn wsX6_stool wsX6_keeps := goodIn_ca (goodIn_r _ [21, 10, 22, 23, 24, 25, 26, 4, 27, 32, 33, 34, 35, 36, 37, 38, 39, 40, 41, 42, 43, 44, 45, 46, 47, 48, 49, 50, 51] (by decide +kernel) (by decide +kernel)) (goodIn_sub (fun _ h => List.mem_cons_of_mem _ (List.mem_append_right _ h)) (by decide +kernel))
set_option maxRecDepth 20000 in
theorem gX6_stool_X6_keeps : GoodIn wsX6_stool (wsV RX6 84 RX6 yX6_keeps wsX6_keeps) := goodIn_app (goodIn_of _ (by decide +kernel)) ggX6_stool_X6_keeps
set_option maxRecDepth 20000 in
theorem ggX6_stool_X6_lays : GoodIn wsX6_stool wsX6_lays := goodIn_ca (goodIn_r _ [31, 1, 32, 33, 34, 35, 36, 37, 38, 39, 40, 41, 42, 43, 44, 45, 46, 47, 48, 49, 50, 51] (by decide +kernel) (by decide +kernel)) (goodIn_sub (fun _ h => List.mem_cons_of_mem _ (List.mem_append_right _ h)) (by decide +kernel))
set_option maxRecDepth 20000 in
theorem gX6_stool_X6_lays : GoodIn wsX6_stool (wsV RX6 88 RX6 yX6_lays wsX6_lays) := goodIn_app (goodIn_of _ (by decide +kernel)) ggX6_stool_X6_lays
theorem dX6_stool_0 : decode cX6_stool 0 = .ok (.aload_n 0, 1) := by decide +kernel
theorem dX6_stool_1 : decode cX6_stool 1 = .ok (.iload_n 1, 1) := by decide +kernel
theorem dX6_stool_2 : decode cX6_stool 2 = .ok (.iconst 1, 1) := by decide +kernel
theorem dX6_stool_3 : decode cX6_stool 3 = .ok (.bipush 40, 2) := by decide +kernel
theorem dX6_stool_5 : decode cX6_stool 5 = .ok (.invokestatic 62, 3) := by decide +kernel
theorem dX6_stool_8 : decode cX6_stool 8 = .ok (.ifCond .eq 27, 3) := by decide +kernel
theorem dX6_stool_11 : decode cX6_stool 11 = .ok (.iload_n 2, 1) := by decide +kernel
theorem dX6_stool_12 : decode cX6_stool 12 = .ok (.iconst 0, 1) := by decide +kernel
theorem dX6_stool_13 : decode cX6_stool 13 = .ok (.bipush 9, 2) := by decide +kernel
theorem dX6_stool_15 : decode cX6_stool 15 = .ok (.invokestatic 62, 3) := by decide +kernel
theorem dX6_stool_18 : decode cX6_stool 18 = .ok (.ifCond .eq 17, 3) := by decide +kernel
theorem dX6_stool_21 : decode cX6_stool 21 = .ok (.iload_n 3, 1) := by decide +kernel
theorem dX6_stool_22 : decode cX6_stool 22 = .ok (.iconst 0, 1) := by decide +kernel
theorem dX6_stool_23 : decode cX6_stool 23 = .ok (.bipush 9, 2) := by decide +kernel
theorem dX6_stool_25 : decode cX6_stool 25 = .ok (.invokestatic 62, 3) := by decide +kernel
theorem dX6_stool_28 : decode cX6_stool 28 = .ok (.ifCond .eq 7, 3) := by decide +kernel
theorem dX6_stool_31 : decode cX6_stool 31 = .ok (.iconst 0, 1) := by decide +kernel
theorem dX6_stool_32 : decode cX6_stool 32 = .ok (.goto 4, 3) := by decide +kernel
theorem dX6_stool_35 : decode cX6_stool 35 = .ok (.iconst 1, 1) := by decide +kernel
theorem dX6_stool_36 : decode cX6_stool 36 = .ok (.invokevirtual 77, 3) := by decide +kernel
theorem dX6_stool_39 : decode cX6_stool 39 = .ok (.ifCond .eq 5, 3) := by decide +kernel
theorem dX6_stool_42 : decode cX6_stool 42 = .ok (.iconst 0, 1) := by decide +kernel
theorem dX6_stool_43 : decode cX6_stool 43 = .ok (.ireturn, 1) := by decide +kernel
theorem dX6_stool_44 : decode cX6_stool 44 = .ok (.aload_n 0, 1) := by decide +kernel
theorem dX6_stool_45 : decode cX6_stool 45 = .ok (.getfield 7, 3) := by decide +kernel
theorem dX6_stool_48 : decode cX6_stool 48 = .ok (.iconst 0, 1) := by decide +kernel
theorem dX6_stool_49 : decode cX6_stool 49 = .ok (.iaload, 1) := by decide +kernel
theorem dX6_stool_50 : decode cX6_stool 50 = .ok (.bipush 12, 2) := by decide +kernel
theorem dX6_stool_52 : decode cX6_stool 52 = .ok (.if_icmp .ne 12, 3) := by decide +kernel
theorem dX6_stool_55 : decode cX6_stool 55 = .ok (.aload_n 0, 1) := by decide +kernel
theorem dX6_stool_56 : decode cX6_stool 56 = .ok (.iconst 2, 1) := by decide +kernel
theorem dX6_stool_57 : decode cX6_stool 57 = .ok (.iconst 1, 1) := by decide +kernel
theorem dX6_stool_58 : decode cX6_stool 58 = .ok (.bipush 12, 2) := by decide +kernel
theorem dX6_stool_60 : decode cX6_stool 60 = .ok (.invokevirtual 80, 3) := by decide +kernel
theorem dX6_stool_63 : decode cX6_stool 63 = .ok (.ireturn, 1) := by decide +kernel
theorem dX6_stool_64 : decode cX6_stool 64 = .ok (.aload_n 0, 1) := by decide +kernel
theorem dX6_stool_65 : decode cX6_stool 65 = .ok (.aload_n 0, 1) := by decide +kernel
theorem dX6_stool_66 : decode cX6_stool 66 = .ok (.getfield 7, 3) := by decide +kernel
theorem dX6_stool_69 : decode cX6_stool 69 = .ok (.invokevirtual 84, 3) := by decide +kernel
theorem dX6_stool_72 : decode cX6_stool 72 = .ok (.aload_n 0, 1) := by decide +kernel
theorem dX6_stool_73 : decode cX6_stool 73 = .ok (.getfield 7, 3) := by decide +kernel
theorem dX6_stool_76 : decode cX6_stool 76 = .ok (.iconst 0, 1) := by decide +kernel
theorem dX6_stool_77 : decode cX6_stool 77 = .ok (.iaload, 1) := by decide +kernel
theorem dX6_stool_78 : decode cX6_stool 78 = .ok (.istore 5, 2) := by decide +kernel
theorem dX6_stool_80 : decode cX6_stool 80 = .ok (.aload_n 0, 1) := by decide +kernel
theorem dX6_stool_81 : decode cX6_stool 81 = .ok (.getfield 7, 3) := by decide +kernel
theorem dX6_stool_84 : decode cX6_stool 84 = .ok (.iconst 0, 1) := by decide +kernel
theorem dX6_stool_85 : decode cX6_stool 85 = .ok (.dup2, 1) := by decide +kernel
theorem dX6_stool_86 : decode cX6_stool 86 = .ok (.iaload, 1) := by decide +kernel
theorem dX6_stool_87 : decode cX6_stool 87 = .ok (.iconst 1, 1) := by decide +kernel
theorem dX6_stool_88 : decode cX6_stool 88 = .ok (.iadd, 1) := by decide +kernel
theorem dX6_stool_89 : decode cX6_stool 89 = .ok (.iastore, 1) := by decide +kernel
theorem dX6_stool_90 : decode cX6_stool 90 = .ok (.aload_n 0, 1) := by decide +kernel
theorem dX6_stool_91 : decode cX6_stool 91 = .ok (.iload 5, 2) := by decide +kernel
theorem dX6_stool_93 : decode cX6_stool 93 = .ok (.iconst 0, 1) := by decide +kernel
theorem dX6_stool_94 : decode cX6_stool 94 = .ok (.iload_n 1, 1) := by decide +kernel
theorem dX6_stool_95 : decode cX6_stool 95 = .ok (.invokevirtual 88, 3) := by decide +kernel
theorem dX6_stool_98 : decode cX6_stool 98 = .ok (.aload_n 0, 1) := by decide +kernel
theorem dX6_stool_99 : decode cX6_stool 99 = .ok (.iload 5, 2) := by decide +kernel
theorem dX6_stool_101 : decode cX6_stool 101 = .ok (.iconst 1, 1) := by decide +kernel
theorem dX6_stool_102 : decode cX6_stool 102 = .ok (.iload_n 2, 1) := by decide +kernel
theorem dX6_stool_103 : decode cX6_stool 103 = .ok (.invokevirtual 88, 3) := by decide +kernel
theorem dX6_stool_106 : decode cX6_stool 106 = .ok (.aload_n 0, 1) := by decide +kernel
theorem dX6_stool_107 : decode cX6_stool 107 = .ok (.iload 5, 2) := by decide +kernel
theorem dX6_stool_109 : decode cX6_stool 109 = .ok (.iconst 2, 1) := by decide +kernel
theorem dX6_stool_110 : decode cX6_stool 110 = .ok (.iload_n 3, 1) := by decide +kernel
theorem dX6_stool_111 : decode cX6_stool 111 = .ok (.invokevirtual 88, 3) := by decide +kernel
theorem dX6_stool_114 : decode cX6_stool 114 = .ok (.aload_n 0, 1) := by decide +kernel
theorem dX6_stool_115 : decode cX6_stool 115 = .ok (.iload 5, 2) := by decide +kernel
theorem dX6_stool_117 : decode cX6_stool 117 = .ok (.iconst 3, 1) := by decide +kernel
theorem dX6_stool_118 : decode cX6_stool 118 = .ok (.iload 4, 2) := by decide +kernel
theorem dX6_stool_120 : decode cX6_stool 120 = .ok (.ifCond .eq 7, 3) := by decide +kernel
theorem dX6_stool_123 : decode cX6_stool 123 = .ok (.iconst 1, 1) := by decide +kernel
theorem dX6_stool_124 : decode cX6_stool 124 = .ok (.goto 4, 3) := by decide +kernel
theorem dX6_stool_127 : decode cX6_stool 127 = .ok (.iconst 0, 1) := by decide +kernel
theorem dX6_stool_128 : decode cX6_stool 128 = .ok (.invokevirtual 88, 3) := by decide +kernel
theorem dX6_stool_131 : decode cX6_stool 131 = .ok (.aload_n 0, 1) := by decide +kernel
theorem dX6_stool_132 : decode cX6_stool 132 = .ok (.iload 5, 2) := by decide +kernel
theorem dX6_stool_134 : decode cX6_stool 134 = .ok (.iconst 4, 1) := by decide +kernel
theorem dX6_stool_135 : decode cX6_stool 135 = .ok (.iconst 0, 1) := by decide +kernel
theorem dX6_stool_136 : decode cX6_stool 136 = .ok (.invokevirtual 88, 3) := by decide +kernel
theorem dX6_stool_139 : decode cX6_stool 139 = .ok (.aload_n 0, 1) := by decide +kernel
theorem dX6_stool_140 : decode cX6_stool 140 = .ok (.iload 5, 2) := by decide +kernel
theorem dX6_stool_142 : decode cX6_stool 142 = .ok (.iconst 5, 1) := by decide +kernel
theorem dX6_stool_143 : decode cX6_stool 143 = .ok (.iconst (-1), 1) := by decide +kernel
theorem dX6_stool_144 : decode cX6_stool 144 = .ok (.invokevirtual 88, 3) := by decide +kernel
theorem dX6_stool_147 : decode cX6_stool 147 = .ok (.iload 5, 2) := by decide +kernel
theorem dX6_stool_149 : decode cX6_stool 149 = .ok (.ireturn, 1) := by decide +kernel
set_option maxRecDepth 20000 in
theorem ggX6_comes_X6_refuses : GoodIn wsX6_comes wsX6_refuses := goodIn_r _ [6, 7, 8, 9, 10, 21, 22, 23, 24, 25, 26, 27, 28, 29, 30, 31, 32, 33, 34, 35, 36, 37, 38, 39, 40] (by decide +kernel) (by decide +kernel)
set_option maxRecDepth 20000 in
theorem gX6_comes_X6_refuses : GoodIn wsX6_comes (wsV RX6 80 RX6 yX6_refuses wsX6_refuses) := goodIn_app (goodIn_of _ (by decide +kernel)) ggX6_comes_X6_refuses
set_option maxRecDepth 20000 in
theorem ggX6_comes_X6_keeps : GoodIn wsX6_comes wsX6_keeps := goodIn_ca (goodIn_r _ [14, 7, 15, 16, 17, 18, 19, 5, 20, 21, 22, 23, 24, 25, 26, 27, 28, 29, 30, 31, 32, 33, 34, 35, 36, 37, 38, 39, 40] (by decide +kernel) (by decide +kernel)) (goodIn_sub (fun _ h => List.mem_cons_of_mem _ (List.mem_append_right _ h)) (by decide +kernel))
set_option maxRecDepth 20000 in
theorem gX6_comes_X6_keeps : GoodIn wsX6_comes (wsV RX6 84 RX6 yX6_keeps wsX6_keeps) := goodIn_app (goodIn_of _ (by decide +kernel)) ggX6_comes_X6_keeps
theorem dX6_comes_0 : decode cX6_comes 0 = .ok (.aload_n 0, 1) := by decide +kernel
theorem dX6_comes_1 : decode cX6_comes 1 = .ok (.getfield 7, 3) := by decide +kernel
theorem dX6_comes_4 : decode cX6_comes 4 = .ok (.iconst 1, 1) := by decide +kernel
theorem dX6_comes_5 : decode cX6_comes 5 = .ok (.iaload, 1) := by decide +kernel
theorem dX6_comes_6 : decode cX6_comes 6 = .ok (.bipush 12, 2) := by decide +kernel
theorem dX6_comes_8 : decode cX6_comes 8 = .ok (.if_icmp .ne 12, 3) := by decide +kernel
theorem dX6_comes_11 : decode cX6_comes 11 = .ok (.aload_n 0, 1) := by decide +kernel
theorem dX6_comes_12 : decode cX6_comes 12 = .ok (.iconst 2, 1) := by decide +kernel
theorem dX6_comes_13 : decode cX6_comes 13 = .ok (.iconst 1, 1) := by decide +kernel
theorem dX6_comes_14 : decode cX6_comes 14 = .ok (.bipush 12, 2) := by decide +kernel
theorem dX6_comes_16 : decode cX6_comes 16 = .ok (.invokevirtual 80, 3) := by decide +kernel
theorem dX6_comes_19 : decode cX6_comes 19 = .ok (.ireturn, 1) := by decide +kernel
theorem dX6_comes_20 : decode cX6_comes 20 = .ok (.aload_n 0, 1) := by decide +kernel
theorem dX6_comes_21 : decode cX6_comes 21 = .ok (.aload_n 0, 1) := by decide +kernel
theorem dX6_comes_22 : decode cX6_comes 22 = .ok (.getfield 7, 3) := by decide +kernel
theorem dX6_comes_25 : decode cX6_comes 25 = .ok (.invokevirtual 84, 3) := by decide +kernel
theorem dX6_comes_28 : decode cX6_comes 28 = .ok (.bipush 78, 2) := by decide +kernel
theorem dX6_comes_30 : decode cX6_comes 30 = .ok (.iconst 3, 1) := by decide +kernel
theorem dX6_comes_31 : decode cX6_comes 31 = .ok (.aload_n 0, 1) := by decide +kernel
theorem dX6_comes_32 : decode cX6_comes 32 = .ok (.getfield 7, 3) := by decide +kernel
theorem dX6_comes_35 : decode cX6_comes 35 = .ok (.iconst 1, 1) := by decide +kernel
theorem dX6_comes_36 : decode cX6_comes 36 = .ok (.iaload, 1) := by decide +kernel
theorem dX6_comes_37 : decode cX6_comes 37 = .ok (.imul, 1) := by decide +kernel
theorem dX6_comes_38 : decode cX6_comes 38 = .ok (.iadd, 1) := by decide +kernel
theorem dX6_comes_39 : decode cX6_comes 39 = .ok (.istore_n 3, 1) := by decide +kernel
theorem dX6_comes_40 : decode cX6_comes 40 = .ok (.aload_n 0, 1) := by decide +kernel
theorem dX6_comes_41 : decode cX6_comes 41 = .ok (.getfield 7, 3) := by decide +kernel
theorem dX6_comes_44 : decode cX6_comes 44 = .ok (.iload_n 3, 1) := by decide +kernel
theorem dX6_comes_45 : decode cX6_comes 45 = .ok (.iconst 0, 1) := by decide +kernel
theorem dX6_comes_46 : decode cX6_comes 46 = .ok (.iadd, 1) := by decide +kernel
theorem dX6_comes_47 : decode cX6_comes 47 = .ok (.iload_n 1, 1) := by decide +kernel
theorem dX6_comes_48 : decode cX6_comes 48 = .ok (.iastore, 1) := by decide +kernel
theorem dX6_comes_49 : decode cX6_comes 49 = .ok (.aload_n 0, 1) := by decide +kernel
theorem dX6_comes_50 : decode cX6_comes 50 = .ok (.getfield 7, 3) := by decide +kernel
theorem dX6_comes_53 : decode cX6_comes 53 = .ok (.iload_n 3, 1) := by decide +kernel
theorem dX6_comes_54 : decode cX6_comes 54 = .ok (.iconst 1, 1) := by decide +kernel
theorem dX6_comes_55 : decode cX6_comes 55 = .ok (.iadd, 1) := by decide +kernel
theorem dX6_comes_56 : decode cX6_comes 56 = .ok (.iload_n 2, 1) := by decide +kernel
theorem dX6_comes_57 : decode cX6_comes 57 = .ok (.iastore, 1) := by decide +kernel
theorem dX6_comes_58 : decode cX6_comes 58 = .ok (.aload_n 0, 1) := by decide +kernel
theorem dX6_comes_59 : decode cX6_comes 59 = .ok (.getfield 7, 3) := by decide +kernel
theorem dX6_comes_62 : decode cX6_comes 62 = .ok (.iload_n 3, 1) := by decide +kernel
theorem dX6_comes_63 : decode cX6_comes 63 = .ok (.iconst 2, 1) := by decide +kernel
theorem dX6_comes_64 : decode cX6_comes 64 = .ok (.iadd, 1) := by decide +kernel
theorem dX6_comes_65 : decode cX6_comes 65 = .ok (.iconst (-1), 1) := by decide +kernel
theorem dX6_comes_66 : decode cX6_comes 66 = .ok (.iastore, 1) := by decide +kernel
theorem dX6_comes_67 : decode cX6_comes 67 = .ok (.aload_n 0, 1) := by decide +kernel
theorem dX6_comes_68 : decode cX6_comes 68 = .ok (.getfield 7, 3) := by decide +kernel
theorem dX6_comes_71 : decode cX6_comes 71 = .ok (.iconst 1, 1) := by decide +kernel
theorem dX6_comes_72 : decode cX6_comes 72 = .ok (.dup2, 1) := by decide +kernel
theorem dX6_comes_73 : decode cX6_comes 73 = .ok (.iaload, 1) := by decide +kernel
theorem dX6_comes_74 : decode cX6_comes 74 = .ok (.iconst 1, 1) := by decide +kernel
theorem dX6_comes_75 : decode cX6_comes 75 = .ok (.iadd, 1) := by decide +kernel
theorem dX6_comes_76 : decode cX6_comes 76 = .ok (.iastore, 1) := by decide +kernel
theorem dX6_comes_77 : decode cX6_comes 77 = .ok (.aload_n 0, 1) := by decide +kernel
theorem dX6_comes_78 : decode cX6_comes 78 = .ok (.getfield 7, 3) := by decide +kernel
theorem dX6_comes_81 : decode cX6_comes 81 = .ok (.iconst 1, 1) := by decide +kernel
theorem dX6_comes_82 : decode cX6_comes 82 = .ok (.iaload, 1) := by decide +kernel
theorem dX6_comes_83 : decode cX6_comes 83 = .ok (.iconst 1, 1) := by decide +kernel
theorem dX6_comes_84 : decode cX6_comes 84 = .ok (.isub, 1) := by decide +kernel
theorem dX6_comes_85 : decode cX6_comes 85 = .ok (.ireturn, 1) := by decide +kernel
set_option maxRecDepth 20000 in
theorem ggX6_guest_X6_in : GoodIn wsX6_guest wsX6_in := goodIn_r _ [4] (by decide +kernel) (by decide +kernel)
set_option maxRecDepth 20000 in
theorem gX6_guest_X6_in : GoodIn wsX6_guest (va_wsS RX6 62 yX6_in wsX6_in) := goodIn_app (goodIn_of _ (by decide +kernel)) ggX6_guest_X6_in
set_option maxRecDepth 20000 in
theorem ggX6_guest_X6_fails : GoodIn wsX6_guest wsX6_fails := goodIn_r _ [8, 9, 10, 32, 33, 34, 35, 36, 37, 38, 39, 40, 41, 42, 43, 44, 45, 46, 47, 48, 49, 50, 51] (by decide +kernel) (by decide +kernel)
set_option maxRecDepth 20000 in
theorem gX6_guest_X6_fails : GoodIn wsX6_guest (wsV RX6 77 RX6 yX6_fails wsX6_fails) := goodIn_app (goodIn_of _ (by decide +kernel)) ggX6_guest_X6_fails
set_option maxRecDepth 20000 in
theorem ggX6_guest_X6_comes : GoodIn wsX6_guest wsX6_comes := goodIn_ca (goodIn_r _ [14, 15, 16, 17, 18, 3, 19, 9, 10, 20, 21, 22, 23, 24, 25, 26, 27, 28, 29, 30, 31, 32, 33, 34, 35, 36, 37, 38, 39, 40, 41, 42, 43, 44, 45, 46, 47, 48, 49, 50, 51] (by decide +kernel) (by decide +kernel)) (goodIn_sub (fun _ h => List.mem_cons_of_mem _ (List.mem_append_right _ h)) (by decide +kernel))
set_option maxRecDepth 20000 in
theorem gX6_guest_X6_comes : GoodIn wsX6_guest (wsV RX6 92 RX6 yX6_comes wsX6_comes) := goodIn_app (goodIn_of _ (by decide +kernel)) ggX6_guest_X6_comes
theorem dX6_guest_0 : decode cX6_guest 0 = .ok (.aload_n 0, 1) := by decide +kernel
theorem dX6_guest_1 : decode cX6_guest 1 = .ok (.iload_n 1, 1) := by decide +kernel
theorem dX6_guest_2 : decode cX6_guest 2 = .ok (.iconst 1, 1) := by decide +kernel
theorem dX6_guest_3 : decode cX6_guest 3 = .ok (.bipush 9, 2) := by decide +kernel
theorem dX6_guest_5 : decode cX6_guest 5 = .ok (.invokestatic 62, 3) := by decide +kernel
theorem dX6_guest_8 : decode cX6_guest 8 = .ok (.ifCond .eq 18, 3) := by decide +kernel
theorem dX6_guest_11 : decode cX6_guest 11 = .ok (.iload_n 2, 1) := by decide +kernel
theorem dX6_guest_12 : decode cX6_guest 12 = .ok (.iconst 1, 1) := by decide +kernel
theorem dX6_guest_13 : decode cX6_guest 13 = .ok (.sipush 200, 3) := by decide +kernel
theorem dX6_guest_16 : decode cX6_guest 16 = .ok (.invokestatic 62, 3) := by decide +kernel
theorem dX6_guest_19 : decode cX6_guest 19 = .ok (.ifCond .eq 7, 3) := by decide +kernel
theorem dX6_guest_22 : decode cX6_guest 22 = .ok (.iconst 0, 1) := by decide +kernel
theorem dX6_guest_23 : decode cX6_guest 23 = .ok (.goto 4, 3) := by decide +kernel
theorem dX6_guest_26 : decode cX6_guest 26 = .ok (.iconst 1, 1) := by decide +kernel
theorem dX6_guest_27 : decode cX6_guest 27 = .ok (.invokevirtual 77, 3) := by decide +kernel
theorem dX6_guest_30 : decode cX6_guest 30 = .ok (.ifCond .eq 7, 3) := by decide +kernel
theorem dX6_guest_33 : decode cX6_guest 33 = .ok (.iconst 0, 1) := by decide +kernel
theorem dX6_guest_34 : decode cX6_guest 34 = .ok (.goto 9, 3) := by decide +kernel
theorem dX6_guest_37 : decode cX6_guest 37 = .ok (.aload_n 0, 1) := by decide +kernel
theorem dX6_guest_38 : decode cX6_guest 38 = .ok (.iload_n 1, 1) := by decide +kernel
theorem dX6_guest_39 : decode cX6_guest 39 = .ok (.iload_n 2, 1) := by decide +kernel
theorem dX6_guest_40 : decode cX6_guest 40 = .ok (.invokevirtual 92, 3) := by decide +kernel
theorem dX6_guest_43 : decode cX6_guest 43 = .ok (.ireturn, 1) := by decide +kernel
set_option maxRecDepth 20000 in
theorem ggX6_cat_X6_in : GoodIn wsX6_cat wsX6_in := goodIn_r _ [4] (by decide +kernel) (by decide +kernel)
set_option maxRecDepth 20000 in
theorem gX6_cat_X6_in : GoodIn wsX6_cat (va_wsS RX6 62 yX6_in wsX6_in) := goodIn_app (goodIn_of _ (by decide +kernel)) ggX6_cat_X6_in
set_option maxRecDepth 20000 in
theorem ggX6_cat_X6_fails : GoodIn wsX6_cat wsX6_fails := goodIn_r _ [8, 9, 10, 32, 33, 34, 35, 36, 37, 38, 39, 40, 41, 42, 43, 44, 45, 46, 47, 48, 49, 50, 51] (by decide +kernel) (by decide +kernel)
set_option maxRecDepth 20000 in
theorem gX6_cat_X6_fails : GoodIn wsX6_cat (wsV RX6 77 RX6 yX6_fails wsX6_fails) := goodIn_app (goodIn_of _ (by decide +kernel)) ggX6_cat_X6_fails
set_option maxRecDepth 20000 in
theorem ggX6_cat_X6_comes : GoodIn wsX6_cat wsX6_comes := goodIn_ca (goodIn_r _ [14, 15, 16, 17, 18, 3, 19, 9, 10, 20, 21, 22, 23, 24, 25, 26, 27, 28, 29, 30, 31, 32, 33, 34, 35, 36, 37, 38, 39, 40, 41, 42, 43, 44, 45, 46, 47, 48, 49, 50, 51] (by decide +kernel) (by decide +kernel)) (goodIn_sub (fun _ h => List.mem_cons_of_mem _ (List.mem_append_right _ h)) (by decide +kernel))
set_option maxRecDepth 20000 in
theorem gX6_cat_X6_comes : GoodIn wsX6_cat (wsV RX6 92 RX6 yX6_comes wsX6_comes) := goodIn_app (goodIn_of _ (by decide +kernel)) ggX6_cat_X6_comes
theorem dX6_cat_0 : decode cX6_cat 0 = .ok (.aload_n 0, 1) := by decide +kernel
theorem dX6_cat_1 : decode cX6_cat 1 = .ok (.iload_n 1, 1) := by decide +kernel
theorem dX6_cat_2 : decode cX6_cat 2 = .ok (.iconst 1, 1) := by decide +kernel
theorem dX6_cat_3 : decode cX6_cat 3 = .ok (.sipush 200, 3) := by decide +kernel
theorem dX6_cat_6 : decode cX6_cat 6 = .ok (.invokestatic 62, 3) := by decide +kernel
theorem dX6_cat_9 : decode cX6_cat 9 = .ok (.ifCond .eq 7, 3) := by decide +kernel
theorem dX6_cat_12 : decode cX6_cat 12 = .ok (.iconst 0, 1) := by decide +kernel
theorem dX6_cat_13 : decode cX6_cat 13 = .ok (.goto 4, 3) := by decide +kernel
theorem dX6_cat_16 : decode cX6_cat 16 = .ok (.iconst 1, 1) := by decide +kernel
theorem dX6_cat_17 : decode cX6_cat 17 = .ok (.invokevirtual 77, 3) := by decide +kernel
theorem dX6_cat_20 : decode cX6_cat 20 = .ok (.ifCond .eq 7, 3) := by decide +kernel
theorem dX6_cat_23 : decode cX6_cat 23 = .ok (.iconst 0, 1) := by decide +kernel
theorem dX6_cat_24 : decode cX6_cat 24 = .ok (.goto 9, 3) := by decide +kernel
theorem dX6_cat_27 : decode cX6_cat 27 = .ok (.aload_n 0, 1) := by decide +kernel
theorem dX6_cat_28 : decode cX6_cat 28 = .ok (.iconst 0, 1) := by decide +kernel
theorem dX6_cat_29 : decode cX6_cat 29 = .ok (.iload_n 1, 1) := by decide +kernel
theorem dX6_cat_30 : decode cX6_cat 30 = .ok (.invokevirtual 92, 3) := by decide +kernel
theorem dX6_cat_33 : decode cX6_cat 33 = .ok (.ireturn, 1) := by decide +kernel
set_option maxRecDepth 20000 in
theorem ggX6_laysSeats_X6_by : GoodIn wsX6_laysSeats wsX6_by := goodIn_ca (goodIn_r _ [7, 1, 8, 9, 10, 11, 12, 13, 14, 15, 16, 17, 18, 19, 20, 21, 22, 23, 24, 25, 26, 27] (by decide +kernel) (by decide +kernel)) (goodIn_sub (fun _ h => List.mem_cons_of_mem _ (List.mem_append_right _ h)) (by decide +kernel))
set_option maxRecDepth 20000 in
theorem gX6_laysSeats_X6_by : GoodIn wsX6_laysSeats (wsV RX6 66 RX6 yX6_by wsX6_by) := goodIn_app (goodIn_of _ (by decide +kernel)) ggX6_laysSeats_X6_by
theorem dX6_laysSeats_0 : decode cX6_laysSeats 0 = .ok (.iconst 0, 1) := by decide +kernel
theorem dX6_laysSeats_1 : decode cX6_laysSeats 1 = .ok (.istore_n 1, 1) := by decide +kernel
theorem dX6_laysSeats_2 : decode cX6_laysSeats 2 = .ok (.iload_n 1, 1) := by decide +kernel
theorem dX6_laysSeats_3 : decode cX6_laysSeats 3 = .ok (.aload_n 0, 1) := by decide +kernel
theorem dX6_laysSeats_4 : decode cX6_laysSeats 4 = .ok (.getfield 7, 3) := by decide +kernel
theorem dX6_laysSeats_7 : decode cX6_laysSeats 7 = .ok (.iconst 1, 1) := by decide +kernel
theorem dX6_laysSeats_8 : decode cX6_laysSeats 8 = .ok (.iaload, 1) := by decide +kernel
theorem dX6_laysSeats_9 : decode cX6_laysSeats 9 = .ok (.if_icmp .ge 21, 3) := by decide +kernel
theorem dX6_laysSeats_12 : decode cX6_laysSeats 12 = .ok (.aload_n 0, 1) := by decide +kernel
theorem dX6_laysSeats_13 : decode cX6_laysSeats 13 = .ok (.getfield 33, 3) := by decide +kernel
theorem dX6_laysSeats_16 : decode cX6_laysSeats 16 = .ok (.iload_n 1, 1) := by decide +kernel
theorem dX6_laysSeats_17 : decode cX6_laysSeats 17 = .ok (.aload_n 0, 1) := by decide +kernel
theorem dX6_laysSeats_18 : decode cX6_laysSeats 18 = .ok (.iload_n 1, 1) := by decide +kernel
theorem dX6_laysSeats_19 : decode cX6_laysSeats 19 = .ok (.iconst 2, 1) := by decide +kernel
theorem dX6_laysSeats_20 : decode cX6_laysSeats 20 = .ok (.invokevirtual 66, 3) := by decide +kernel
theorem dX6_laysSeats_23 : decode cX6_laysSeats 23 = .ok (.iastore, 1) := by decide +kernel
theorem dX6_laysSeats_24 : decode cX6_laysSeats 24 = .ok (.iinc 1 1, 3) := by decide +kernel
theorem dX6_laysSeats_27 : decode cX6_laysSeats 27 = .ok (.goto (-25), 3) := by decide +kernel
theorem dX6_laysSeats_30 : decode cX6_laysSeats 30 = .ok (.return_, 1) := by decide +kernel
set_option maxRecDepth 20000 in
theorem ggX6_takesSeats_X6_lays : GoodIn wsX6_takesSeats wsX6_lays := goodIn_ca (goodIn_r _ [7, 1, 8, 9, 10, 11, 12, 13, 14, 15, 16, 17, 18, 19, 20, 21, 22, 23, 24, 25, 26, 27] (by decide +kernel) (by decide +kernel)) (goodIn_sub (fun _ h => List.mem_cons_of_mem _ (List.mem_append_right _ h)) (by decide +kernel))
set_option maxRecDepth 20000 in
theorem gX6_takesSeats_X6_lays : GoodIn wsX6_takesSeats (wsV RX6 88 RX6 yX6_lays wsX6_lays) := goodIn_app (goodIn_of _ (by decide +kernel)) ggX6_takesSeats_X6_lays
theorem dX6_takesSeats_0 : decode cX6_takesSeats 0 = .ok (.iconst 0, 1) := by decide +kernel
theorem dX6_takesSeats_1 : decode cX6_takesSeats 1 = .ok (.istore_n 1, 1) := by decide +kernel
theorem dX6_takesSeats_2 : decode cX6_takesSeats 2 = .ok (.iload_n 1, 1) := by decide +kernel
theorem dX6_takesSeats_3 : decode cX6_takesSeats 3 = .ok (.aload_n 0, 1) := by decide +kernel
theorem dX6_takesSeats_4 : decode cX6_takesSeats 4 = .ok (.getfield 7, 3) := by decide +kernel
theorem dX6_takesSeats_7 : decode cX6_takesSeats 7 = .ok (.iconst 0, 1) := by decide +kernel
theorem dX6_takesSeats_8 : decode cX6_takesSeats 8 = .ok (.iaload, 1) := by decide +kernel
theorem dX6_takesSeats_9 : decode cX6_takesSeats 9 = .ok (.if_icmp .ge 16, 3) := by decide +kernel
theorem dX6_takesSeats_12 : decode cX6_takesSeats 12 = .ok (.aload_n 0, 1) := by decide +kernel
theorem dX6_takesSeats_13 : decode cX6_takesSeats 13 = .ok (.iload_n 1, 1) := by decide +kernel
theorem dX6_takesSeats_14 : decode cX6_takesSeats 14 = .ok (.iconst 5, 1) := by decide +kernel
theorem dX6_takesSeats_15 : decode cX6_takesSeats 15 = .ok (.iconst (-1), 1) := by decide +kernel
theorem dX6_takesSeats_16 : decode cX6_takesSeats 16 = .ok (.invokevirtual 88, 3) := by decide +kernel
theorem dX6_takesSeats_19 : decode cX6_takesSeats 19 = .ok (.iinc 1 1, 3) := by decide +kernel
theorem dX6_takesSeats_22 : decode cX6_takesSeats 22 = .ok (.goto (-20), 3) := by decide +kernel
theorem dX6_takesSeats_25 : decode cX6_takesSeats 25 = .ok (.iconst 0, 1) := by decide +kernel
theorem dX6_takesSeats_26 : decode cX6_takesSeats 26 = .ok (.istore_n 1, 1) := by decide +kernel
theorem dX6_takesSeats_27 : decode cX6_takesSeats 27 = .ok (.iload_n 1, 1) := by decide +kernel
theorem dX6_takesSeats_28 : decode cX6_takesSeats 28 = .ok (.aload_n 0, 1) := by decide +kernel
theorem dX6_takesSeats_29 : decode cX6_takesSeats 29 = .ok (.getfield 7, 3) := by decide +kernel
theorem dX6_takesSeats_32 : decode cX6_takesSeats 32 = .ok (.iconst 1, 1) := by decide +kernel
theorem dX6_takesSeats_33 : decode cX6_takesSeats 33 = .ok (.iaload, 1) := by decide +kernel
theorem dX6_takesSeats_34 : decode cX6_takesSeats 34 = .ok (.if_icmp .ge 49, 3) := by decide +kernel
theorem dX6_takesSeats_37 : decode cX6_takesSeats 37 = .ok (.aload_n 0, 1) := by decide +kernel
theorem dX6_takesSeats_38 : decode cX6_takesSeats 38 = .ok (.getfield 7, 3) := by decide +kernel
theorem dX6_takesSeats_41 : decode cX6_takesSeats 41 = .ok (.bipush 78, 2) := by decide +kernel
theorem dX6_takesSeats_43 : decode cX6_takesSeats 43 = .ok (.iconst 3, 1) := by decide +kernel
theorem dX6_takesSeats_44 : decode cX6_takesSeats 44 = .ok (.iload_n 1, 1) := by decide +kernel
theorem dX6_takesSeats_45 : decode cX6_takesSeats 45 = .ok (.imul, 1) := by decide +kernel
theorem dX6_takesSeats_46 : decode cX6_takesSeats 46 = .ok (.iadd, 1) := by decide +kernel
theorem dX6_takesSeats_47 : decode cX6_takesSeats 47 = .ok (.iconst 2, 1) := by decide +kernel
theorem dX6_takesSeats_48 : decode cX6_takesSeats 48 = .ok (.iadd, 1) := by decide +kernel
theorem dX6_takesSeats_49 : decode cX6_takesSeats 49 = .ok (.aload_n 0, 1) := by decide +kernel
theorem dX6_takesSeats_50 : decode cX6_takesSeats 50 = .ok (.getfield 33, 3) := by decide +kernel
theorem dX6_takesSeats_53 : decode cX6_takesSeats 53 = .ok (.iload_n 1, 1) := by decide +kernel
theorem dX6_takesSeats_54 : decode cX6_takesSeats 54 = .ok (.iaload, 1) := by decide +kernel
theorem dX6_takesSeats_55 : decode cX6_takesSeats 55 = .ok (.iastore, 1) := by decide +kernel
theorem dX6_takesSeats_56 : decode cX6_takesSeats 56 = .ok (.aload_n 0, 1) := by decide +kernel
theorem dX6_takesSeats_57 : decode cX6_takesSeats 57 = .ok (.getfield 33, 3) := by decide +kernel
theorem dX6_takesSeats_60 : decode cX6_takesSeats 60 = .ok (.iload_n 1, 1) := by decide +kernel
theorem dX6_takesSeats_61 : decode cX6_takesSeats 61 = .ok (.iaload, 1) := by decide +kernel
theorem dX6_takesSeats_62 : decode cX6_takesSeats 62 = .ok (.ifCond .lt 15, 3) := by decide +kernel
theorem dX6_takesSeats_65 : decode cX6_takesSeats 65 = .ok (.aload_n 0, 1) := by decide +kernel
theorem dX6_takesSeats_66 : decode cX6_takesSeats 66 = .ok (.aload_n 0, 1) := by decide +kernel
theorem dX6_takesSeats_67 : decode cX6_takesSeats 67 = .ok (.getfield 33, 3) := by decide +kernel
theorem dX6_takesSeats_70 : decode cX6_takesSeats 70 = .ok (.iload_n 1, 1) := by decide +kernel
theorem dX6_takesSeats_71 : decode cX6_takesSeats 71 = .ok (.iaload, 1) := by decide +kernel
theorem dX6_takesSeats_72 : decode cX6_takesSeats 72 = .ok (.iconst 5, 1) := by decide +kernel
theorem dX6_takesSeats_73 : decode cX6_takesSeats 73 = .ok (.iload_n 1, 1) := by decide +kernel
theorem dX6_takesSeats_74 : decode cX6_takesSeats 74 = .ok (.invokevirtual 88, 3) := by decide +kernel
theorem dX6_takesSeats_77 : decode cX6_takesSeats 77 = .ok (.iinc 1 1, 3) := by decide +kernel
theorem dX6_takesSeats_80 : decode cX6_takesSeats 80 = .ok (.goto (-53), 3) := by decide +kernel
theorem dX6_takesSeats_83 : decode cX6_takesSeats 83 = .ok (.return_, 1) := by decide +kernel
set_option maxRecDepth 20000 in
theorem ggX6_areClashing_X6_by : GoodIn wsX6_areClashing wsX6_by := goodIn_ca (goodIn_r _ [6, 7, 12, 13, 14, 15, 16, 17, 18, 19, 20, 21, 22, 23, 24, 25, 26, 27, 28, 29, 30, 31] (by decide +kernel) (by decide +kernel)) (goodIn_sub (fun _ h => List.mem_cons_of_mem _ (List.mem_append_right _ h)) (by decide +kernel))
set_option maxRecDepth 20000 in
theorem gX6_areClashing_X6_by : GoodIn wsX6_areClashing (wsV RX6 66 RX6 yX6_by wsX6_by) := goodIn_app (goodIn_of _ (by decide +kernel)) ggX6_areClashing_X6_by
set_option maxRecDepth 20000 in
theorem ggX6_areClashing_X6_of : GoodIn wsX6_areClashing wsX6_of := goodIn_ca (goodIn_r _ [11, 7, 12, 13, 14, 15, 16, 17, 18, 19, 20, 21, 22, 23, 24, 25, 26, 27, 28, 29, 30, 31] (by decide +kernel) (by decide +kernel)) (goodIn_sub (fun _ h => List.mem_cons_of_mem _ (List.mem_append_right _ h)) (by decide +kernel))
set_option maxRecDepth 20000 in
theorem gX6_areClashing_X6_of : GoodIn wsX6_areClashing (wsV RX6 74 RX6 yX6_of wsX6_of) := goodIn_app (goodIn_of _ (by decide +kernel)) ggX6_areClashing_X6_of
theorem dX6_areClashing_0 : decode cX6_areClashing 0 = .ok (.aload_n 0, 1) := by decide +kernel
theorem dX6_areClashing_1 : decode cX6_areClashing 1 = .ok (.getfield 33, 3) := by decide +kernel
theorem dX6_areClashing_4 : decode cX6_areClashing 4 = .ok (.iload_n 1, 1) := by decide +kernel
theorem dX6_areClashing_5 : decode cX6_areClashing 5 = .ok (.iaload, 1) := by decide +kernel
theorem dX6_areClashing_6 : decode cX6_areClashing 6 = .ok (.ifCond .lt 12, 3) := by decide +kernel
theorem dX6_areClashing_9 : decode cX6_areClashing 9 = .ok (.aload_n 0, 1) := by decide +kernel
theorem dX6_areClashing_10 : decode cX6_areClashing 10 = .ok (.getfield 33, 3) := by decide +kernel
theorem dX6_areClashing_13 : decode cX6_areClashing 13 = .ok (.iload_n 2, 1) := by decide +kernel
theorem dX6_areClashing_14 : decode cX6_areClashing 14 = .ok (.iaload, 1) := by decide +kernel
theorem dX6_areClashing_15 : decode cX6_areClashing 15 = .ok (.ifCond .ge 5, 3) := by decide +kernel
theorem dX6_areClashing_18 : decode cX6_areClashing 18 = .ok (.iconst 0, 1) := by decide +kernel
theorem dX6_areClashing_19 : decode cX6_areClashing 19 = .ok (.ireturn, 1) := by decide +kernel
theorem dX6_areClashing_20 : decode cX6_areClashing 20 = .ok (.aload_n 0, 1) := by decide +kernel
theorem dX6_areClashing_21 : decode cX6_areClashing 21 = .ok (.iload_n 1, 1) := by decide +kernel
theorem dX6_areClashing_22 : decode cX6_areClashing 22 = .ok (.iconst 0, 1) := by decide +kernel
theorem dX6_areClashing_23 : decode cX6_areClashing 23 = .ok (.invokevirtual 66, 3) := by decide +kernel
theorem dX6_areClashing_26 : decode cX6_areClashing 26 = .ok (.aload_n 0, 1) := by decide +kernel
theorem dX6_areClashing_27 : decode cX6_areClashing 27 = .ok (.iload_n 2, 1) := by decide +kernel
theorem dX6_areClashing_28 : decode cX6_areClashing 28 = .ok (.iconst 0, 1) := by decide +kernel
theorem dX6_areClashing_29 : decode cX6_areClashing 29 = .ok (.invokevirtual 66, 3) := by decide +kernel
theorem dX6_areClashing_32 : decode cX6_areClashing 32 = .ok (.isub, 1) := by decide +kernel
theorem dX6_areClashing_33 : decode cX6_areClashing 33 = .ok (.istore_n 3, 1) := by decide +kernel
theorem dX6_areClashing_34 : decode cX6_areClashing 34 = .ok (.aload_n 0, 1) := by decide +kernel
theorem dX6_areClashing_35 : decode cX6_areClashing 35 = .ok (.aload_n 0, 1) := by decide +kernel
theorem dX6_areClashing_36 : decode cX6_areClashing 36 = .ok (.getfield 33, 3) := by decide +kernel
theorem dX6_areClashing_39 : decode cX6_areClashing 39 = .ok (.iload_n 1, 1) := by decide +kernel
theorem dX6_areClashing_40 : decode cX6_areClashing 40 = .ok (.iaload, 1) := by decide +kernel
theorem dX6_areClashing_41 : decode cX6_areClashing 41 = .ok (.iconst 0, 1) := by decide +kernel
theorem dX6_areClashing_42 : decode cX6_areClashing 42 = .ok (.invokevirtual 74, 3) := by decide +kernel
theorem dX6_areClashing_45 : decode cX6_areClashing 45 = .ok (.aload_n 0, 1) := by decide +kernel
theorem dX6_areClashing_46 : decode cX6_areClashing 46 = .ok (.aload_n 0, 1) := by decide +kernel
theorem dX6_areClashing_47 : decode cX6_areClashing 47 = .ok (.getfield 33, 3) := by decide +kernel
theorem dX6_areClashing_50 : decode cX6_areClashing 50 = .ok (.iload_n 2, 1) := by decide +kernel
theorem dX6_areClashing_51 : decode cX6_areClashing 51 = .ok (.iaload, 1) := by decide +kernel
theorem dX6_areClashing_52 : decode cX6_areClashing 52 = .ok (.iconst 0, 1) := by decide +kernel
theorem dX6_areClashing_53 : decode cX6_areClashing 53 = .ok (.invokevirtual 74, 3) := by decide +kernel
theorem dX6_areClashing_56 : decode cX6_areClashing 56 = .ok (.isub, 1) := by decide +kernel
theorem dX6_areClashing_57 : decode cX6_areClashing 57 = .ok (.istore 4, 2) := by decide +kernel
theorem dX6_areClashing_59 : decode cX6_areClashing 59 = .ok (.iload_n 3, 1) := by decide +kernel
theorem dX6_areClashing_60 : decode cX6_areClashing 60 = .ok (.ifCond .le 8, 3) := by decide +kernel
theorem dX6_areClashing_63 : decode cX6_areClashing 63 = .ok (.iload 4, 2) := by decide +kernel
theorem dX6_areClashing_65 : decode cX6_areClashing 65 = .ok (.ifCond .lt 12, 3) := by decide +kernel
theorem dX6_areClashing_68 : decode cX6_areClashing 68 = .ok (.iload_n 3, 1) := by decide +kernel
theorem dX6_areClashing_69 : decode cX6_areClashing 69 = .ok (.ifCond .ge 12, 3) := by decide +kernel
theorem dX6_areClashing_72 : decode cX6_areClashing 72 = .ok (.iload 4, 2) := by decide +kernel
theorem dX6_areClashing_74 : decode cX6_areClashing 74 = .ok (.ifCond .le 7, 3) := by decide +kernel
theorem dX6_areClashing_77 : decode cX6_areClashing 77 = .ok (.iconst 1, 1) := by decide +kernel
theorem dX6_areClashing_78 : decode cX6_areClashing 78 = .ok (.goto 4, 3) := by decide +kernel
theorem dX6_areClashing_81 : decode cX6_areClashing 81 = .ok (.iconst 0, 1) := by decide +kernel
theorem dX6_areClashing_82 : decode cX6_areClashing 82 = .ok (.ireturn, 1) := by decide +kernel
set_option maxRecDepth 20000 in
theorem ggX6_clashesOf_X6_areClashing : GoodIn wsX6_clashesOf wsX6_areClashing := goodIn_ca (goodIn_r _ [6, 7, 8, 9, 10, 5, 11, 1, 12, 13, 14, 15, 16, 17, 18, 19, 20, 21, 22, 23, 24, 25, 26, 27, 28, 29, 30, 31, 32, 33, 34, 35] (by decide +kernel) (by decide +kernel)) (goodIn_sub (fun _ h => List.mem_cons_of_mem _ (List.mem_append_right _ h)) (by decide +kernel))
set_option maxRecDepth 20000 in
theorem gX6_clashesOf_X6_areClashing : GoodIn wsX6_clashesOf (wsV RX6 95 RX6 yX6_areClashing wsX6_areClashing) := goodIn_app (goodIn_of _ (by decide +kernel)) ggX6_clashesOf_X6_areClashing
theorem dX6_clashesOf_0 : decode cX6_clashesOf 0 = .ok (.iconst 0, 1) := by decide +kernel
theorem dX6_clashesOf_1 : decode cX6_clashesOf 1 = .ok (.istore_n 2, 1) := by decide +kernel
theorem dX6_clashesOf_2 : decode cX6_clashesOf 2 = .ok (.iconst 0, 1) := by decide +kernel
theorem dX6_clashesOf_3 : decode cX6_clashesOf 3 = .ok (.istore_n 3, 1) := by decide +kernel
theorem dX6_clashesOf_4 : decode cX6_clashesOf 4 = .ok (.iload_n 3, 1) := by decide +kernel
theorem dX6_clashesOf_5 : decode cX6_clashesOf 5 = .ok (.aload_n 0, 1) := by decide +kernel
theorem dX6_clashesOf_6 : decode cX6_clashesOf 6 = .ok (.getfield 7, 3) := by decide +kernel
theorem dX6_clashesOf_9 : decode cX6_clashesOf 9 = .ok (.iconst 1, 1) := by decide +kernel
theorem dX6_clashesOf_10 : decode cX6_clashesOf 10 = .ok (.iaload, 1) := by decide +kernel
theorem dX6_clashesOf_11 : decode cX6_clashesOf 11 = .ok (.if_icmp .ge 26, 3) := by decide +kernel
theorem dX6_clashesOf_14 : decode cX6_clashesOf 14 = .ok (.iload_n 2, 1) := by decide +kernel
theorem dX6_clashesOf_15 : decode cX6_clashesOf 15 = .ok (.aload_n 0, 1) := by decide +kernel
theorem dX6_clashesOf_16 : decode cX6_clashesOf 16 = .ok (.iload_n 1, 1) := by decide +kernel
theorem dX6_clashesOf_17 : decode cX6_clashesOf 17 = .ok (.iload_n 3, 1) := by decide +kernel
theorem dX6_clashesOf_18 : decode cX6_clashesOf 18 = .ok (.invokevirtual 95, 3) := by decide +kernel
theorem dX6_clashesOf_21 : decode cX6_clashesOf 21 = .ok (.ifCond .eq 7, 3) := by decide +kernel
theorem dX6_clashesOf_24 : decode cX6_clashesOf 24 = .ok (.iconst 1, 1) := by decide +kernel
theorem dX6_clashesOf_25 : decode cX6_clashesOf 25 = .ok (.goto 4, 3) := by decide +kernel
theorem dX6_clashesOf_28 : decode cX6_clashesOf 28 = .ok (.iconst 0, 1) := by decide +kernel
theorem dX6_clashesOf_29 : decode cX6_clashesOf 29 = .ok (.iadd, 1) := by decide +kernel
theorem dX6_clashesOf_30 : decode cX6_clashesOf 30 = .ok (.istore_n 2, 1) := by decide +kernel
theorem dX6_clashesOf_31 : decode cX6_clashesOf 31 = .ok (.iinc 3 1, 3) := by decide +kernel
theorem dX6_clashesOf_34 : decode cX6_clashesOf 34 = .ok (.goto (-30), 3) := by decide +kernel
theorem dX6_clashesOf_37 : decode cX6_clashesOf 37 = .ok (.iload_n 2, 1) := by decide +kernel
theorem dX6_clashesOf_38 : decode cX6_clashesOf 38 = .ok (.ireturn, 1) := by decide +kernel
set_option maxRecDepth 20000 in
theorem ggX6_clashesTried_X6_clashesOf : GoodIn wsX6_clashesTried wsX6_clashesOf := goodIn_ca (goodIn_r _ [6, 1, 7, 8, 9, 5, 10, 11, 12, 13, 14, 15, 16, 17, 18, 19, 20, 21, 22, 23, 24, 25, 26, 27, 28, 29, 30, 31, 32, 33, 34, 35, 36, 37, 38, 39] (by decide +kernel) (by decide +kernel)) (goodIn_sub (fun _ h => List.mem_cons_of_mem _ (List.mem_append_right _ h)) (by decide +kernel))
set_option maxRecDepth 20000 in
theorem gX6_clashesTried_X6_clashesOf : GoodIn wsX6_clashesTried (wsV RX6 99 RX6 yX6_clashesOf wsX6_clashesOf) := goodIn_app (goodIn_of _ (by decide +kernel)) ggX6_clashesTried_X6_clashesOf
theorem dX6_clashesTried_0 : decode cX6_clashesTried 0 = .ok (.iconst 0, 1) := by decide +kernel
theorem dX6_clashesTried_1 : decode cX6_clashesTried 1 = .ok (.istore_n 1, 1) := by decide +kernel
theorem dX6_clashesTried_2 : decode cX6_clashesTried 2 = .ok (.iconst 0, 1) := by decide +kernel
theorem dX6_clashesTried_3 : decode cX6_clashesTried 3 = .ok (.istore_n 2, 1) := by decide +kernel
theorem dX6_clashesTried_4 : decode cX6_clashesTried 4 = .ok (.iload_n 2, 1) := by decide +kernel
theorem dX6_clashesTried_5 : decode cX6_clashesTried 5 = .ok (.aload_n 0, 1) := by decide +kernel
theorem dX6_clashesTried_6 : decode cX6_clashesTried 6 = .ok (.getfield 7, 3) := by decide +kernel
theorem dX6_clashesTried_9 : decode cX6_clashesTried 9 = .ok (.iconst 1, 1) := by decide +kernel
theorem dX6_clashesTried_10 : decode cX6_clashesTried 10 = .ok (.iaload, 1) := by decide +kernel
theorem dX6_clashesTried_11 : decode cX6_clashesTried 11 = .ok (.if_icmp .ge 17, 3) := by decide +kernel
theorem dX6_clashesTried_14 : decode cX6_clashesTried 14 = .ok (.iload_n 1, 1) := by decide +kernel
theorem dX6_clashesTried_15 : decode cX6_clashesTried 15 = .ok (.aload_n 0, 1) := by decide +kernel
theorem dX6_clashesTried_16 : decode cX6_clashesTried 16 = .ok (.iload_n 2, 1) := by decide +kernel
theorem dX6_clashesTried_17 : decode cX6_clashesTried 17 = .ok (.invokevirtual 99, 3) := by decide +kernel
theorem dX6_clashesTried_20 : decode cX6_clashesTried 20 = .ok (.iadd, 1) := by decide +kernel
theorem dX6_clashesTried_21 : decode cX6_clashesTried 21 = .ok (.istore_n 1, 1) := by decide +kernel
theorem dX6_clashesTried_22 : decode cX6_clashesTried 22 = .ok (.iinc 2 1, 3) := by decide +kernel
theorem dX6_clashesTried_25 : decode cX6_clashesTried 25 = .ok (.goto (-21), 3) := by decide +kernel
theorem dX6_clashesTried_28 : decode cX6_clashesTried 28 = .ok (.iload_n 1, 1) := by decide +kernel
theorem dX6_clashesTried_29 : decode cX6_clashesTried 29 = .ok (.iconst 2, 1) := by decide +kernel
theorem dX6_clashesTried_30 : decode cX6_clashesTried 30 = .ok (.idiv, 1) := by decide +kernel
theorem dX6_clashesTried_31 : decode cX6_clashesTried 31 = .ok (.ireturn, 1) := by decide +kernel
set_option maxRecDepth 20000 in
theorem ggX6_sit_X6_isSitter : GoodIn wsX6_sit wsX6_isSitter := goodIn_ca (goodIn_r _ [7, 1, 8, 9, 6, 10, 73, 74, 75, 76, 77, 78, 79, 80, 81, 82, 83, 84, 85, 86, 87, 88, 89, 90, 91, 92] (by decide +kernel) (by decide +kernel)) (goodIn_sub (fun _ h => List.mem_cons_of_mem _ (List.mem_append_right _ h)) (by decide +kernel))
set_option maxRecDepth 20000 in
theorem gX6_sit_X6_isSitter : GoodIn wsX6_sit (wsV RX6 103 RX6 yX6_isSitter wsX6_isSitter) := goodIn_app (goodIn_of _ (by decide +kernel)) ggX6_sit_X6_isSitter
set_option maxRecDepth 20000 in
theorem ggX6_sit_X6_isStool : GoodIn wsX6_sit wsX6_isStool := goodIn_ca (goodIn_r _ [14, 1, 8, 9, 6, 10, 73, 74, 75, 76, 77, 78, 79, 80, 81, 82, 83, 84, 85, 86, 87, 88, 89, 90, 91, 92] (by decide +kernel) (by decide +kernel)) (goodIn_sub (fun _ h => List.mem_cons_of_mem _ (List.mem_append_right _ h)) (by decide +kernel))
set_option maxRecDepth 20000 in
theorem gX6_sit_X6_isStool : GoodIn wsX6_sit (wsV RX6 106 RX6 yX6_isStool wsX6_isStool) := goodIn_app (goodIn_of _ (by decide +kernel)) ggX6_sit_X6_isStool
set_option maxRecDepth 20000 in
theorem ggX6_sit_X6_fails : GoodIn wsX6_sit wsX6_fails := goodIn_r _ [18, 19, 20, 73, 74, 75, 76, 77, 78, 79, 80, 81, 82, 83, 84, 85, 86, 87, 88, 89, 90, 91, 92] (by decide +kernel) (by decide +kernel)
set_option maxRecDepth 20000 in
theorem gX6_sit_X6_fails : GoodIn wsX6_sit (wsV RX6 77 RX6 yX6_fails wsX6_fails) := goodIn_app (goodIn_of _ (by decide +kernel)) ggX6_sit_X6_fails
set_option maxRecDepth 20000 in
theorem ggX6_sit_X6_by : GoodIn wsX6_sit wsX6_by := goodIn_ca (goodIn_r _ [24, 1, 73, 74, 75, 76, 77, 78, 79, 80, 81, 82, 83, 84, 85, 86, 87, 88, 89, 90, 91, 92] (by decide +kernel) (by decide +kernel)) (goodIn_sub (fun _ h => List.mem_cons_of_mem _ (List.mem_append_right _ h)) (by decide +kernel))
set_option maxRecDepth 20000 in
theorem gX6_sit_X6_by : GoodIn wsX6_sit (wsV RX6 66 RX6 yX6_by wsX6_by) := goodIn_app (goodIn_of _ (by decide +kernel)) ggX6_sit_X6_by
set_option maxRecDepth 20000 in
theorem ggX6_sit_X6_refuses : GoodIn wsX6_sit wsX6_refuses := goodIn_r _ [28, 19, 20, 29, 30, 73, 74, 75, 76, 77, 78, 79, 80, 81, 82, 83, 84, 85, 86, 87, 88, 89, 90, 91, 92] (by decide +kernel) (by decide +kernel)
set_option maxRecDepth 20000 in
theorem gX6_sit_X6_refuses : GoodIn wsX6_sit (wsV RX6 80 RX6 yX6_refuses wsX6_refuses) := goodIn_app (goodIn_of _ (by decide +kernel)) ggX6_sit_X6_refuses
set_option maxRecDepth 20000 in
theorem ggX6_sit_X6_of : GoodIn wsX6_sit wsX6_of := goodIn_ca (goodIn_r _ [34, 1, 73, 74, 75, 76, 77, 78, 79, 80, 81, 82, 83, 84, 85, 86, 87, 88, 89, 90, 91, 92] (by decide +kernel) (by decide +kernel)) (goodIn_sub (fun _ h => List.mem_cons_of_mem _ (List.mem_append_right _ h)) (by decide +kernel))
set_option maxRecDepth 20000 in
theorem gX6_sit_X6_of : GoodIn wsX6_sit (wsV RX6 74 RX6 yX6_of wsX6_of) := goodIn_app (goodIn_of _ (by decide +kernel)) ggX6_sit_X6_of
set_option maxRecDepth 20000 in
theorem ggX6_sit_X6_maySit : GoodIn wsX6_sit wsX6_maySit := goodIn_ca (goodIn_r _ [38, 39, 40, 41, 6, 42, 21, 22, 23, 24, 1, 31, 32, 33, 34, 73, 74, 75, 76, 77, 78, 79, 80, 81, 82, 83, 84, 85, 86, 87, 88, 89, 90, 91, 92] (by decide +kernel) (by decide +kernel)) (goodIn_sub (fun _ h => List.mem_cons_of_mem _ (List.mem_append_right _ h)) (by decide +kernel))
set_option maxRecDepth 20000 in
theorem gX6_sit_X6_maySit : GoodIn wsX6_sit (wsV RX6 109 RX6 yX6_maySit wsX6_maySit) := goodIn_app (goodIn_of _ (by decide +kernel)) ggX6_sit_X6_maySit
set_option maxRecDepth 20000 in
theorem ggX6_sit_X6_keeps : GoodIn wsX6_sit wsX6_keeps := goodIn_ca (goodIn_r _ [46, 19, 47, 48, 49, 50, 51, 6, 52, 73, 74, 75, 76, 77, 78, 79, 80, 81, 82, 83, 84, 85, 86, 87, 88, 89, 90, 91, 92] (by decide +kernel) (by decide +kernel)) (goodIn_sub (fun _ h => List.mem_cons_of_mem _ (List.mem_append_right _ h)) (by decide +kernel))
set_option maxRecDepth 20000 in
theorem gX6_sit_X6_keeps : GoodIn wsX6_sit (wsV RX6 84 RX6 yX6_keeps wsX6_keeps) := goodIn_app (goodIn_of _ (by decide +kernel)) ggX6_sit_X6_keeps
set_option maxRecDepth 20000 in
theorem ggX6_sit_X6_laysSeats : GoodIn wsX6_sit wsX6_laysSeats := goodIn_ca (goodIn_r _ [56, 1, 2, 21, 22, 23, 6, 24, 73, 74, 75, 76, 77, 78, 79, 80, 81, 82, 83, 84, 85, 86, 87, 88, 89, 90, 91, 92] (by decide +kernel) (by decide +kernel)) (goodIn_sub (fun _ h => List.mem_cons_of_mem _ (List.mem_append_right _ h)) (by decide +kernel))
set_option maxRecDepth 20000 in
theorem gX6_sit_X6_laysSeats : GoodIn wsX6_sit (wsV RX6 112 RX6 yX6_laysSeats wsX6_laysSeats) := goodIn_app (goodIn_of _ (by decide +kernel)) ggX6_sit_X6_laysSeats
set_option maxRecDepth 20000 in
theorem ggX6_sit_X6_takesSeats : GoodIn wsX6_sit wsX6_takesSeats := goodIn_ca (goodIn_r _ [60, 1, 2, 61, 62, 63, 6, 64, 73, 74, 75, 76, 77, 78, 79, 80, 81, 82, 83, 84, 85, 86, 87, 88, 89, 90, 91, 92] (by decide +kernel) (by decide +kernel)) (goodIn_sub (fun _ h => List.mem_cons_of_mem _ (List.mem_append_right _ h)) (by decide +kernel))
set_option maxRecDepth 20000 in
theorem gX6_sit_X6_takesSeats : GoodIn wsX6_sit (wsV RX6 115 RX6 yX6_takesSeats wsX6_takesSeats) := goodIn_app (goodIn_of _ (by decide +kernel)) ggX6_sit_X6_takesSeats
set_option maxRecDepth 20000 in
theorem ggX6_sit_X6_clashesOf : GoodIn wsX6_sit wsX6_clashesOf := goodIn_ca (goodIn_r _ [68, 1, 69, 70, 71, 6, 72, 2, 21, 22, 23, 24, 31, 32, 33, 34, 73, 74, 75, 76, 77, 78, 79, 80, 81, 82, 83, 84, 85, 86, 87, 88, 89, 90, 91, 92] (by decide +kernel) (by decide +kernel)) (goodIn_sub (fun _ h => List.mem_cons_of_mem _ (List.mem_append_right _ h)) (by decide +kernel))
set_option maxRecDepth 20000 in
theorem gX6_sit_X6_clashesOf : GoodIn wsX6_sit (wsV RX6 99 RX6 yX6_clashesOf wsX6_clashesOf) := goodIn_app (goodIn_of _ (by decide +kernel)) ggX6_sit_X6_clashesOf
theorem dX6_sit_0 : decode cX6_sit 0 = .ok (.aload_n 0, 1) := by decide +kernel
theorem dX6_sit_1 : decode cX6_sit 1 = .ok (.aload_n 0, 1) := by decide +kernel
theorem dX6_sit_2 : decode cX6_sit 2 = .ok (.iload_n 1, 1) := by decide +kernel
theorem dX6_sit_3 : decode cX6_sit 3 = .ok (.invokevirtual 103, 3) := by decide +kernel
theorem dX6_sit_6 : decode cX6_sit 6 = .ok (.ifCond .eq 15, 3) := by decide +kernel
theorem dX6_sit_9 : decode cX6_sit 9 = .ok (.aload_n 0, 1) := by decide +kernel
theorem dX6_sit_10 : decode cX6_sit 10 = .ok (.iload_n 2, 1) := by decide +kernel
theorem dX6_sit_11 : decode cX6_sit 11 = .ok (.invokevirtual 106, 3) := by decide +kernel
theorem dX6_sit_14 : decode cX6_sit 14 = .ok (.ifCond .eq 7, 3) := by decide +kernel
theorem dX6_sit_17 : decode cX6_sit 17 = .ok (.iconst 0, 1) := by decide +kernel
theorem dX6_sit_18 : decode cX6_sit 18 = .ok (.goto 4, 3) := by decide +kernel
theorem dX6_sit_21 : decode cX6_sit 21 = .ok (.iconst 1, 1) := by decide +kernel
theorem dX6_sit_22 : decode cX6_sit 22 = .ok (.invokevirtual 77, 3) := by decide +kernel
theorem dX6_sit_25 : decode cX6_sit 25 = .ok (.ifCond .eq 5, 3) := by decide +kernel
theorem dX6_sit_28 : decode cX6_sit 28 = .ok (.iconst 0, 1) := by decide +kernel
theorem dX6_sit_29 : decode cX6_sit 29 = .ok (.ireturn, 1) := by decide +kernel
theorem dX6_sit_30 : decode cX6_sit 30 = .ok (.aload_n 0, 1) := by decide +kernel
theorem dX6_sit_31 : decode cX6_sit 31 = .ok (.iload_n 1, 1) := by decide +kernel
theorem dX6_sit_32 : decode cX6_sit 32 = .ok (.iconst 2, 1) := by decide +kernel
theorem dX6_sit_33 : decode cX6_sit 33 = .ok (.invokevirtual 66, 3) := by decide +kernel
theorem dX6_sit_36 : decode cX6_sit 36 = .ok (.iload_n 2, 1) := by decide +kernel
theorem dX6_sit_37 : decode cX6_sit 37 = .ok (.if_icmp .ne 11, 3) := by decide +kernel
theorem dX6_sit_40 : decode cX6_sit 40 = .ok (.aload_n 0, 1) := by decide +kernel
theorem dX6_sit_41 : decode cX6_sit 41 = .ok (.iconst 2, 1) := by decide +kernel
theorem dX6_sit_42 : decode cX6_sit 42 = .ok (.iconst 4, 1) := by decide +kernel
theorem dX6_sit_43 : decode cX6_sit 43 = .ok (.iload_n 1, 1) := by decide +kernel
theorem dX6_sit_44 : decode cX6_sit 44 = .ok (.invokevirtual 80, 3) := by decide +kernel
theorem dX6_sit_47 : decode cX6_sit 47 = .ok (.ireturn, 1) := by decide +kernel
theorem dX6_sit_48 : decode cX6_sit 48 = .ok (.aload_n 0, 1) := by decide +kernel
theorem dX6_sit_49 : decode cX6_sit 49 = .ok (.iload_n 2, 1) := by decide +kernel
theorem dX6_sit_50 : decode cX6_sit 50 = .ok (.iconst 5, 1) := by decide +kernel
theorem dX6_sit_51 : decode cX6_sit 51 = .ok (.invokevirtual 74, 3) := by decide +kernel
theorem dX6_sit_54 : decode cX6_sit 54 = .ok (.ifCond .lt 16, 3) := by decide +kernel
theorem dX6_sit_57 : decode cX6_sit 57 = .ok (.aload_n 0, 1) := by decide +kernel
theorem dX6_sit_58 : decode cX6_sit 58 = .ok (.iconst 2, 1) := by decide +kernel
theorem dX6_sit_59 : decode cX6_sit 59 = .ok (.iconst 2, 1) := by decide +kernel
theorem dX6_sit_60 : decode cX6_sit 60 = .ok (.aload_n 0, 1) := by decide +kernel
theorem dX6_sit_61 : decode cX6_sit 61 = .ok (.iload_n 2, 1) := by decide +kernel
theorem dX6_sit_62 : decode cX6_sit 62 = .ok (.iconst 5, 1) := by decide +kernel
theorem dX6_sit_63 : decode cX6_sit 63 = .ok (.invokevirtual 74, 3) := by decide +kernel
theorem dX6_sit_66 : decode cX6_sit 66 = .ok (.invokevirtual 80, 3) := by decide +kernel
theorem dX6_sit_69 : decode cX6_sit 69 = .ok (.ireturn, 1) := by decide +kernel
theorem dX6_sit_70 : decode cX6_sit 70 = .ok (.aload_n 0, 1) := by decide +kernel
theorem dX6_sit_71 : decode cX6_sit 71 = .ok (.iload_n 1, 1) := by decide +kernel
theorem dX6_sit_72 : decode cX6_sit 72 = .ok (.iload_n 2, 1) := by decide +kernel
theorem dX6_sit_73 : decode cX6_sit 73 = .ok (.invokevirtual 109, 3) := by decide +kernel
theorem dX6_sit_76 : decode cX6_sit 76 = .ok (.ifCond .ne 11, 3) := by decide +kernel
theorem dX6_sit_79 : decode cX6_sit 79 = .ok (.aload_n 0, 1) := by decide +kernel
theorem dX6_sit_80 : decode cX6_sit 80 = .ok (.iconst 2, 1) := by decide +kernel
theorem dX6_sit_81 : decode cX6_sit 81 = .ok (.iconst 3, 1) := by decide +kernel
theorem dX6_sit_82 : decode cX6_sit 82 = .ok (.iload_n 2, 1) := by decide +kernel
theorem dX6_sit_83 : decode cX6_sit 83 = .ok (.invokevirtual 80, 3) := by decide +kernel
theorem dX6_sit_86 : decode cX6_sit 86 = .ok (.ireturn, 1) := by decide +kernel
theorem dX6_sit_87 : decode cX6_sit 87 = .ok (.aload_n 0, 1) := by decide +kernel
theorem dX6_sit_88 : decode cX6_sit 88 = .ok (.aload_n 0, 1) := by decide +kernel
theorem dX6_sit_89 : decode cX6_sit 89 = .ok (.getfield 7, 3) := by decide +kernel
theorem dX6_sit_92 : decode cX6_sit 92 = .ok (.invokevirtual 84, 3) := by decide +kernel
theorem dX6_sit_95 : decode cX6_sit 95 = .ok (.aload_n 0, 1) := by decide +kernel
theorem dX6_sit_96 : decode cX6_sit 96 = .ok (.invokevirtual 112, 3) := by decide +kernel
theorem dX6_sit_99 : decode cX6_sit 99 = .ok (.aload_n 0, 1) := by decide +kernel
theorem dX6_sit_100 : decode cX6_sit 100 = .ok (.getfield 33, 3) := by decide +kernel
theorem dX6_sit_103 : decode cX6_sit 103 = .ok (.iload_n 1, 1) := by decide +kernel
theorem dX6_sit_104 : decode cX6_sit 104 = .ok (.iload_n 2, 1) := by decide +kernel
theorem dX6_sit_105 : decode cX6_sit 105 = .ok (.iastore, 1) := by decide +kernel
theorem dX6_sit_106 : decode cX6_sit 106 = .ok (.aload_n 0, 1) := by decide +kernel
theorem dX6_sit_107 : decode cX6_sit 107 = .ok (.invokevirtual 115, 3) := by decide +kernel
theorem dX6_sit_110 : decode cX6_sit 110 = .ok (.aload_n 0, 1) := by decide +kernel
theorem dX6_sit_111 : decode cX6_sit 111 = .ok (.iload_n 1, 1) := by decide +kernel
theorem dX6_sit_112 : decode cX6_sit 112 = .ok (.invokevirtual 99, 3) := by decide +kernel
theorem dX6_sit_115 : decode cX6_sit 115 = .ok (.ireturn, 1) := by decide +kernel
set_option maxRecDepth 20000 in
theorem ggX6_getUp_X6_isSitter : GoodIn wsX6_getUp wsX6_isSitter := goodIn_ca (goodIn_r _ [7, 1, 8, 9, 6, 10, 49, 50, 51, 52, 53, 54, 55, 56, 57, 58, 59, 60, 61, 62, 63, 64, 65, 66, 67, 68] (by decide +kernel) (by decide +kernel)) (goodIn_sub (fun _ h => List.mem_cons_of_mem _ (List.mem_append_right _ h)) (by decide +kernel))
set_option maxRecDepth 20000 in
theorem gX6_getUp_X6_isSitter : GoodIn wsX6_getUp (wsV RX6 103 RX6 yX6_isSitter wsX6_isSitter) := goodIn_app (goodIn_of _ (by decide +kernel)) ggX6_getUp_X6_isSitter
set_option maxRecDepth 20000 in
theorem ggX6_getUp_X6_fails : GoodIn wsX6_getUp wsX6_fails := goodIn_r _ [14, 15, 16, 49, 50, 51, 52, 53, 54, 55, 56, 57, 58, 59, 60, 61, 62, 63, 64, 65, 66, 67, 68] (by decide +kernel) (by decide +kernel)
set_option maxRecDepth 20000 in
theorem gX6_getUp_X6_fails : GoodIn wsX6_getUp (wsV RX6 77 RX6 yX6_fails wsX6_fails) := goodIn_app (goodIn_of _ (by decide +kernel)) ggX6_getUp_X6_fails
set_option maxRecDepth 20000 in
theorem ggX6_getUp_X6_by : GoodIn wsX6_getUp wsX6_by := goodIn_ca (goodIn_r _ [20, 1, 49, 50, 51, 52, 53, 54, 55, 56, 57, 58, 59, 60, 61, 62, 63, 64, 65, 66, 67, 68] (by decide +kernel) (by decide +kernel)) (goodIn_sub (fun _ h => List.mem_cons_of_mem _ (List.mem_append_right _ h)) (by decide +kernel))
set_option maxRecDepth 20000 in
theorem gX6_getUp_X6_by : GoodIn wsX6_getUp (wsV RX6 66 RX6 yX6_by wsX6_by) := goodIn_app (goodIn_of _ (by decide +kernel)) ggX6_getUp_X6_by
set_option maxRecDepth 20000 in
theorem ggX6_getUp_X6_refuses : GoodIn wsX6_getUp wsX6_refuses := goodIn_r _ [24, 15, 16, 25, 26, 49, 50, 51, 52, 53, 54, 55, 56, 57, 58, 59, 60, 61, 62, 63, 64, 65, 66, 67, 68] (by decide +kernel) (by decide +kernel)
set_option maxRecDepth 20000 in
theorem gX6_getUp_X6_refuses : GoodIn wsX6_getUp (wsV RX6 80 RX6 yX6_refuses wsX6_refuses) := goodIn_app (goodIn_of _ (by decide +kernel)) ggX6_getUp_X6_refuses
set_option maxRecDepth 20000 in
theorem ggX6_getUp_X6_keeps : GoodIn wsX6_getUp wsX6_keeps := goodIn_ca (goodIn_r _ [30, 15, 31, 32, 33, 34, 35, 6, 36, 49, 50, 51, 52, 53, 54, 55, 56, 57, 58, 59, 60, 61, 62, 63, 64, 65, 66, 67, 68] (by decide +kernel) (by decide +kernel)) (goodIn_sub (fun _ h => List.mem_cons_of_mem _ (List.mem_append_right _ h)) (by decide +kernel))
set_option maxRecDepth 20000 in
theorem gX6_getUp_X6_keeps : GoodIn wsX6_getUp (wsV RX6 84 RX6 yX6_keeps wsX6_keeps) := goodIn_app (goodIn_of _ (by decide +kernel)) ggX6_getUp_X6_keeps
set_option maxRecDepth 20000 in
theorem ggX6_getUp_X6_laysSeats : GoodIn wsX6_getUp wsX6_laysSeats := goodIn_ca (goodIn_r _ [40, 1, 2, 17, 18, 19, 6, 20, 49, 50, 51, 52, 53, 54, 55, 56, 57, 58, 59, 60, 61, 62, 63, 64, 65, 66, 67, 68] (by decide +kernel) (by decide +kernel)) (goodIn_sub (fun _ h => List.mem_cons_of_mem _ (List.mem_append_right _ h)) (by decide +kernel))
set_option maxRecDepth 20000 in
theorem gX6_getUp_X6_laysSeats : GoodIn wsX6_getUp (wsV RX6 112 RX6 yX6_laysSeats wsX6_laysSeats) := goodIn_app (goodIn_of _ (by decide +kernel)) ggX6_getUp_X6_laysSeats
set_option maxRecDepth 20000 in
theorem ggX6_getUp_X6_takesSeats : GoodIn wsX6_getUp wsX6_takesSeats := goodIn_ca (goodIn_r _ [44, 1, 2, 45, 46, 47, 6, 48, 49, 50, 51, 52, 53, 54, 55, 56, 57, 58, 59, 60, 61, 62, 63, 64, 65, 66, 67, 68] (by decide +kernel) (by decide +kernel)) (goodIn_sub (fun _ h => List.mem_cons_of_mem _ (List.mem_append_right _ h)) (by decide +kernel))
set_option maxRecDepth 20000 in
theorem gX6_getUp_X6_takesSeats : GoodIn wsX6_getUp (wsV RX6 115 RX6 yX6_takesSeats wsX6_takesSeats) := goodIn_app (goodIn_of _ (by decide +kernel)) ggX6_getUp_X6_takesSeats
theorem dX6_getUp_0 : decode cX6_getUp 0 = .ok (.aload_n 0, 1) := by decide +kernel
theorem dX6_getUp_1 : decode cX6_getUp 1 = .ok (.aload_n 0, 1) := by decide +kernel
theorem dX6_getUp_2 : decode cX6_getUp 2 = .ok (.iload_n 1, 1) := by decide +kernel
theorem dX6_getUp_3 : decode cX6_getUp 3 = .ok (.invokevirtual 103, 3) := by decide +kernel
theorem dX6_getUp_6 : decode cX6_getUp 6 = .ok (.ifCond .eq 7, 3) := by decide +kernel
theorem dX6_getUp_9 : decode cX6_getUp 9 = .ok (.iconst 0, 1) := by decide +kernel
theorem dX6_getUp_10 : decode cX6_getUp 10 = .ok (.goto 4, 3) := by decide +kernel
theorem dX6_getUp_13 : decode cX6_getUp 13 = .ok (.iconst 1, 1) := by decide +kernel
theorem dX6_getUp_14 : decode cX6_getUp 14 = .ok (.invokevirtual 77, 3) := by decide +kernel
theorem dX6_getUp_17 : decode cX6_getUp 17 = .ok (.ifCond .eq 5, 3) := by decide +kernel
theorem dX6_getUp_20 : decode cX6_getUp 20 = .ok (.iconst 0, 1) := by decide +kernel
theorem dX6_getUp_21 : decode cX6_getUp 21 = .ok (.ireturn, 1) := by decide +kernel
theorem dX6_getUp_22 : decode cX6_getUp 22 = .ok (.aload_n 0, 1) := by decide +kernel
theorem dX6_getUp_23 : decode cX6_getUp 23 = .ok (.iload_n 1, 1) := by decide +kernel
theorem dX6_getUp_24 : decode cX6_getUp 24 = .ok (.iconst 2, 1) := by decide +kernel
theorem dX6_getUp_25 : decode cX6_getUp 25 = .ok (.invokevirtual 66, 3) := by decide +kernel
theorem dX6_getUp_28 : decode cX6_getUp 28 = .ok (.istore_n 2, 1) := by decide +kernel
theorem dX6_getUp_29 : decode cX6_getUp 29 = .ok (.iload_n 2, 1) := by decide +kernel
theorem dX6_getUp_30 : decode cX6_getUp 30 = .ok (.ifCond .ge 11, 3) := by decide +kernel
theorem dX6_getUp_33 : decode cX6_getUp 33 = .ok (.aload_n 0, 1) := by decide +kernel
theorem dX6_getUp_34 : decode cX6_getUp 34 = .ok (.iconst 2, 1) := by decide +kernel
theorem dX6_getUp_35 : decode cX6_getUp 35 = .ok (.iconst 4, 1) := by decide +kernel
theorem dX6_getUp_36 : decode cX6_getUp 36 = .ok (.iload_n 1, 1) := by decide +kernel
theorem dX6_getUp_37 : decode cX6_getUp 37 = .ok (.invokevirtual 80, 3) := by decide +kernel
theorem dX6_getUp_40 : decode cX6_getUp 40 = .ok (.ireturn, 1) := by decide +kernel
theorem dX6_getUp_41 : decode cX6_getUp 41 = .ok (.aload_n 0, 1) := by decide +kernel
theorem dX6_getUp_42 : decode cX6_getUp 42 = .ok (.aload_n 0, 1) := by decide +kernel
theorem dX6_getUp_43 : decode cX6_getUp 43 = .ok (.getfield 7, 3) := by decide +kernel
theorem dX6_getUp_46 : decode cX6_getUp 46 = .ok (.invokevirtual 84, 3) := by decide +kernel
theorem dX6_getUp_49 : decode cX6_getUp 49 = .ok (.aload_n 0, 1) := by decide +kernel
theorem dX6_getUp_50 : decode cX6_getUp 50 = .ok (.invokevirtual 112, 3) := by decide +kernel
theorem dX6_getUp_53 : decode cX6_getUp 53 = .ok (.aload_n 0, 1) := by decide +kernel
theorem dX6_getUp_54 : decode cX6_getUp 54 = .ok (.getfield 33, 3) := by decide +kernel
theorem dX6_getUp_57 : decode cX6_getUp 57 = .ok (.iload_n 1, 1) := by decide +kernel
theorem dX6_getUp_58 : decode cX6_getUp 58 = .ok (.iconst (-1), 1) := by decide +kernel
theorem dX6_getUp_59 : decode cX6_getUp 59 = .ok (.iastore, 1) := by decide +kernel
theorem dX6_getUp_60 : decode cX6_getUp 60 = .ok (.aload_n 0, 1) := by decide +kernel
theorem dX6_getUp_61 : decode cX6_getUp 61 = .ok (.invokevirtual 115, 3) := by decide +kernel
theorem dX6_getUp_64 : decode cX6_getUp 64 = .ok (.iload_n 2, 1) := by decide +kernel
theorem dX6_getUp_65 : decode cX6_getUp 65 = .ok (.ireturn, 1) := by decide +kernel
set_option maxRecDepth 20000 in
theorem ggX6_stoolOf_X6_isStool : GoodIn wsX6_stoolOf wsX6_isStool := goodIn_ca (goodIn_r _ [5, 6, 7, 8, 4, 9, 20, 21, 22, 23, 24, 25, 26, 27, 28, 29, 30, 31, 32, 33, 34, 35, 36, 37, 38, 39] (by decide +kernel) (by decide +kernel)) (goodIn_sub (fun _ h => List.mem_cons_of_mem _ (List.mem_append_right _ h)) (by decide +kernel))
set_option maxRecDepth 20000 in
theorem gX6_stoolOf_X6_isStool : GoodIn wsX6_stoolOf (wsV RX6 106 RX6 yX6_isStool wsX6_isStool) := goodIn_app (goodIn_of _ (by decide +kernel)) ggX6_stoolOf_X6_isStool
set_option maxRecDepth 20000 in
theorem ggX6_stoolOf_X6_in : GoodIn wsX6_stoolOf wsX6_in := goodIn_r _ [9] (by decide +kernel) (by decide +kernel)
set_option maxRecDepth 20000 in
theorem gX6_stoolOf_X6_in : GoodIn wsX6_stoolOf (va_wsS RX6 62 yX6_in wsX6_in) := goodIn_app (goodIn_of _ (by decide +kernel)) ggX6_stoolOf_X6_in
set_option maxRecDepth 20000 in
theorem ggX6_stoolOf_X6_fails : GoodIn wsX6_stoolOf wsX6_fails := goodIn_r _ [13, 14, 15, 20, 21, 22, 23, 24, 25, 26, 27, 28, 29, 30, 31, 32, 33, 34, 35, 36, 37, 38, 39] (by decide +kernel) (by decide +kernel)
set_option maxRecDepth 20000 in
theorem gX6_stoolOf_X6_fails : GoodIn wsX6_stoolOf (wsV RX6 77 RX6 yX6_fails wsX6_fails) := goodIn_app (goodIn_of _ (by decide +kernel)) ggX6_stoolOf_X6_fails
set_option maxRecDepth 20000 in
theorem ggX6_stoolOf_X6_of : GoodIn wsX6_stoolOf wsX6_of := goodIn_ca (goodIn_r _ [19, 6, 20, 21, 22, 23, 24, 25, 26, 27, 28, 29, 30, 31, 32, 33, 34, 35, 36, 37, 38, 39] (by decide +kernel) (by decide +kernel)) (goodIn_sub (fun _ h => List.mem_cons_of_mem _ (List.mem_append_right _ h)) (by decide +kernel))
set_option maxRecDepth 20000 in
theorem gX6_stoolOf_X6_of : GoodIn wsX6_stoolOf (wsV RX6 74 RX6 yX6_of wsX6_of) := goodIn_app (goodIn_of _ (by decide +kernel)) ggX6_stoolOf_X6_of
theorem dX6_stoolOf_0 : decode cX6_stoolOf 0 = .ok (.aload_n 0, 1) := by decide +kernel
theorem dX6_stoolOf_1 : decode cX6_stoolOf 1 = .ok (.aload_n 0, 1) := by decide +kernel
theorem dX6_stoolOf_2 : decode cX6_stoolOf 2 = .ok (.iload_n 1, 1) := by decide +kernel
theorem dX6_stoolOf_3 : decode cX6_stoolOf 3 = .ok (.invokevirtual 106, 3) := by decide +kernel
theorem dX6_stoolOf_6 : decode cX6_stoolOf 6 = .ok (.ifCond .ne 7, 3) := by decide +kernel
theorem dX6_stoolOf_9 : decode cX6_stoolOf 9 = .ok (.iconst 1, 1) := by decide +kernel
theorem dX6_stoolOf_10 : decode cX6_stoolOf 10 = .ok (.goto 17, 3) := by decide +kernel
theorem dX6_stoolOf_13 : decode cX6_stoolOf 13 = .ok (.iload_n 2, 1) := by decide +kernel
theorem dX6_stoolOf_14 : decode cX6_stoolOf 14 = .ok (.iconst 0, 1) := by decide +kernel
theorem dX6_stoolOf_15 : decode cX6_stoolOf 15 = .ok (.iconst 5, 1) := by decide +kernel
theorem dX6_stoolOf_16 : decode cX6_stoolOf 16 = .ok (.invokestatic 62, 3) := by decide +kernel
theorem dX6_stoolOf_19 : decode cX6_stoolOf 19 = .ok (.ifCond .eq 7, 3) := by decide +kernel
theorem dX6_stoolOf_22 : decode cX6_stoolOf 22 = .ok (.iconst 0, 1) := by decide +kernel
theorem dX6_stoolOf_23 : decode cX6_stoolOf 23 = .ok (.goto 4, 3) := by decide +kernel
theorem dX6_stoolOf_26 : decode cX6_stoolOf 26 = .ok (.iconst 2, 1) := by decide +kernel
theorem dX6_stoolOf_27 : decode cX6_stoolOf 27 = .ok (.invokevirtual 77, 3) := by decide +kernel
theorem dX6_stoolOf_30 : decode cX6_stoolOf 30 = .ok (.ifCond .eq 7, 3) := by decide +kernel
theorem dX6_stoolOf_33 : decode cX6_stoolOf 33 = .ok (.iconst 0, 1) := by decide +kernel
theorem dX6_stoolOf_34 : decode cX6_stoolOf 34 = .ok (.goto 9, 3) := by decide +kernel
theorem dX6_stoolOf_37 : decode cX6_stoolOf 37 = .ok (.aload_n 0, 1) := by decide +kernel
theorem dX6_stoolOf_38 : decode cX6_stoolOf 38 = .ok (.iload_n 1, 1) := by decide +kernel
theorem dX6_stoolOf_39 : decode cX6_stoolOf 39 = .ok (.iload_n 2, 1) := by decide +kernel
theorem dX6_stoolOf_40 : decode cX6_stoolOf 40 = .ok (.invokevirtual 74, 3) := by decide +kernel
theorem dX6_stoolOf_43 : decode cX6_stoolOf 43 = .ok (.ireturn, 1) := by decide +kernel
set_option maxRecDepth 20000 in
theorem ggX6_sitterOf_X6_isSitter : GoodIn wsX6_sitterOf wsX6_isSitter := goodIn_ca (goodIn_r _ [5, 6, 7, 8, 4, 9, 41, 42, 43, 44, 45, 46, 47, 48, 49, 50, 51, 52, 53, 54, 55, 56, 57, 58, 59, 60] (by decide +kernel) (by decide +kernel)) (goodIn_sub (fun _ h => List.mem_cons_of_mem _ (List.mem_append_right _ h)) (by decide +kernel))
set_option maxRecDepth 20000 in
theorem gX6_sitterOf_X6_isSitter : GoodIn wsX6_sitterOf (wsV RX6 103 RX6 yX6_isSitter wsX6_isSitter) := goodIn_app (goodIn_of _ (by decide +kernel)) ggX6_sitterOf_X6_isSitter
set_option maxRecDepth 20000 in
theorem ggX6_sitterOf_X6_in : GoodIn wsX6_sitterOf wsX6_in := goodIn_r _ [9] (by decide +kernel) (by decide +kernel)
set_option maxRecDepth 20000 in
theorem gX6_sitterOf_X6_in : GoodIn wsX6_sitterOf (va_wsS RX6 62 yX6_in wsX6_in) := goodIn_app (goodIn_of _ (by decide +kernel)) ggX6_sitterOf_X6_in
set_option maxRecDepth 20000 in
theorem ggX6_sitterOf_X6_fails : GoodIn wsX6_sitterOf wsX6_fails := goodIn_r _ [13, 14, 15, 41, 42, 43, 44, 45, 46, 47, 48, 49, 50, 51, 52, 53, 54, 55, 56, 57, 58, 59, 60] (by decide +kernel) (by decide +kernel)
set_option maxRecDepth 20000 in
theorem gX6_sitterOf_X6_fails : GoodIn wsX6_sitterOf (wsV RX6 77 RX6 yX6_fails wsX6_fails) := goodIn_app (goodIn_of _ (by decide +kernel)) ggX6_sitterOf_X6_fails
set_option maxRecDepth 20000 in
theorem ggX6_sitterOf_X6_by : GoodIn wsX6_sitterOf wsX6_by := goodIn_ca (goodIn_r _ [19, 6, 41, 42, 43, 44, 45, 46, 47, 48, 49, 50, 51, 52, 53, 54, 55, 56, 57, 58, 59, 60] (by decide +kernel) (by decide +kernel)) (goodIn_sub (fun _ h => List.mem_cons_of_mem _ (List.mem_append_right _ h)) (by decide +kernel))
set_option maxRecDepth 20000 in
theorem gX6_sitterOf_X6_by : GoodIn wsX6_sitterOf (wsV RX6 66 RX6 yX6_by wsX6_by) := goodIn_app (goodIn_of _ (by decide +kernel)) ggX6_sitterOf_X6_by
set_option maxRecDepth 20000 in
theorem ggX6_sitterOf_X6_isCat : GoodIn wsX6_sitterOf wsX6_isCat := goodIn_ca (goodIn_r _ [23, 16, 17, 18, 4, 19, 6, 41, 42, 43, 44, 45, 46, 47, 48, 49, 50, 51, 52, 53, 54, 55, 56, 57, 58, 59, 60] (by decide +kernel) (by decide +kernel)) (goodIn_sub (fun _ h => List.mem_cons_of_mem _ (List.mem_append_right _ h)) (by decide +kernel))
set_option maxRecDepth 20000 in
theorem gX6_sitterOf_X6_isCat : GoodIn wsX6_sitterOf (wsV RX6 70 RX6 yX6_isCat wsX6_isCat) := goodIn_app (goodIn_of _ (by decide +kernel)) ggX6_sitterOf_X6_isCat
set_option maxRecDepth 20000 in
theorem ggX6_sitterOf_X6_laysSeats : GoodIn wsX6_sitterOf wsX6_laysSeats := goodIn_ca (goodIn_r _ [27, 6, 28, 16, 17, 18, 4, 19, 41, 42, 43, 44, 45, 46, 47, 48, 49, 50, 51, 52, 53, 54, 55, 56, 57, 58, 59, 60] (by decide +kernel) (by decide +kernel)) (goodIn_sub (fun _ h => List.mem_cons_of_mem _ (List.mem_append_right _ h)) (by decide +kernel))
set_option maxRecDepth 20000 in
theorem gX6_sitterOf_X6_laysSeats : GoodIn wsX6_sitterOf (wsV RX6 112 RX6 yX6_laysSeats wsX6_laysSeats) := goodIn_app (goodIn_of _ (by decide +kernel)) ggX6_sitterOf_X6_laysSeats
set_option maxRecDepth 20000 in
theorem ggX6_sitterOf_X6_clashesOf : GoodIn wsX6_sitterOf wsX6_clashesOf := goodIn_ca (goodIn_r _ [32, 6, 33, 34, 35, 4, 36, 28, 16, 17, 18, 19, 37, 38, 39, 40, 41, 42, 43, 44, 45, 46, 47, 48, 49, 50, 51, 52, 53, 54, 55, 56, 57, 58, 59, 60] (by decide +kernel) (by decide +kernel)) (goodIn_sub (fun _ h => List.mem_cons_of_mem _ (List.mem_append_right _ h)) (by decide +kernel))
set_option maxRecDepth 20000 in
theorem gX6_sitterOf_X6_clashesOf : GoodIn wsX6_sitterOf (wsV RX6 99 RX6 yX6_clashesOf wsX6_clashesOf) := goodIn_app (goodIn_of _ (by decide +kernel)) ggX6_sitterOf_X6_clashesOf
theorem dX6_sitterOf_0 : decode cX6_sitterOf 0 = .ok (.aload_n 0, 1) := by decide +kernel
theorem dX6_sitterOf_1 : decode cX6_sitterOf 1 = .ok (.aload_n 0, 1) := by decide +kernel
theorem dX6_sitterOf_2 : decode cX6_sitterOf 2 = .ok (.iload_n 1, 1) := by decide +kernel
theorem dX6_sitterOf_3 : decode cX6_sitterOf 3 = .ok (.invokevirtual 103, 3) := by decide +kernel
theorem dX6_sitterOf_6 : decode cX6_sitterOf 6 = .ok (.ifCond .ne 7, 3) := by decide +kernel
theorem dX6_sitterOf_9 : decode cX6_sitterOf 9 = .ok (.iconst 1, 1) := by decide +kernel
theorem dX6_sitterOf_10 : decode cX6_sitterOf 10 = .ok (.goto 17, 3) := by decide +kernel
theorem dX6_sitterOf_13 : decode cX6_sitterOf 13 = .ok (.iload_n 2, 1) := by decide +kernel
theorem dX6_sitterOf_14 : decode cX6_sitterOf 14 = .ok (.iconst 0, 1) := by decide +kernel
theorem dX6_sitterOf_15 : decode cX6_sitterOf 15 = .ok (.iconst 4, 1) := by decide +kernel
theorem dX6_sitterOf_16 : decode cX6_sitterOf 16 = .ok (.invokestatic 62, 3) := by decide +kernel
theorem dX6_sitterOf_19 : decode cX6_sitterOf 19 = .ok (.ifCond .eq 7, 3) := by decide +kernel
theorem dX6_sitterOf_22 : decode cX6_sitterOf 22 = .ok (.iconst 0, 1) := by decide +kernel
theorem dX6_sitterOf_23 : decode cX6_sitterOf 23 = .ok (.goto 4, 3) := by decide +kernel
theorem dX6_sitterOf_26 : decode cX6_sitterOf 26 = .ok (.iconst 2, 1) := by decide +kernel
theorem dX6_sitterOf_27 : decode cX6_sitterOf 27 = .ok (.invokevirtual 77, 3) := by decide +kernel
theorem dX6_sitterOf_30 : decode cX6_sitterOf 30 = .ok (.ifCond .eq 5, 3) := by decide +kernel
theorem dX6_sitterOf_33 : decode cX6_sitterOf 33 = .ok (.iconst 0, 1) := by decide +kernel
theorem dX6_sitterOf_34 : decode cX6_sitterOf 34 = .ok (.ireturn, 1) := by decide +kernel
theorem dX6_sitterOf_35 : decode cX6_sitterOf 35 = .ok (.iload_n 2, 1) := by decide +kernel
theorem dX6_sitterOf_36 : decode cX6_sitterOf 36 = .ok (.iconst 3, 1) := by decide +kernel
theorem dX6_sitterOf_37 : decode cX6_sitterOf 37 = .ok (.if_icmp .ge 10, 3) := by decide +kernel
theorem dX6_sitterOf_40 : decode cX6_sitterOf 40 = .ok (.aload_n 0, 1) := by decide +kernel
theorem dX6_sitterOf_41 : decode cX6_sitterOf 41 = .ok (.iload_n 1, 1) := by decide +kernel
theorem dX6_sitterOf_42 : decode cX6_sitterOf 42 = .ok (.iload_n 2, 1) := by decide +kernel
theorem dX6_sitterOf_43 : decode cX6_sitterOf 43 = .ok (.invokevirtual 66, 3) := by decide +kernel
theorem dX6_sitterOf_46 : decode cX6_sitterOf 46 = .ok (.ireturn, 1) := by decide +kernel
theorem dX6_sitterOf_47 : decode cX6_sitterOf 47 = .ok (.iload_n 2, 1) := by decide +kernel
theorem dX6_sitterOf_48 : decode cX6_sitterOf 48 = .ok (.iconst 4, 1) := by decide +kernel
theorem dX6_sitterOf_49 : decode cX6_sitterOf 49 = .ok (.if_icmp .ne 17, 3) := by decide +kernel
theorem dX6_sitterOf_52 : decode cX6_sitterOf 52 = .ok (.aload_n 0, 1) := by decide +kernel
theorem dX6_sitterOf_53 : decode cX6_sitterOf 53 = .ok (.iload_n 1, 1) := by decide +kernel
theorem dX6_sitterOf_54 : decode cX6_sitterOf 54 = .ok (.invokevirtual 70, 3) := by decide +kernel
theorem dX6_sitterOf_57 : decode cX6_sitterOf 57 = .ok (.ifCond .eq 7, 3) := by decide +kernel
theorem dX6_sitterOf_60 : decode cX6_sitterOf 60 = .ok (.iconst 1, 1) := by decide +kernel
theorem dX6_sitterOf_61 : decode cX6_sitterOf 61 = .ok (.goto 4, 3) := by decide +kernel
theorem dX6_sitterOf_64 : decode cX6_sitterOf 64 = .ok (.iconst 0, 1) := by decide +kernel
theorem dX6_sitterOf_65 : decode cX6_sitterOf 65 = .ok (.ireturn, 1) := by decide +kernel
theorem dX6_sitterOf_66 : decode cX6_sitterOf 66 = .ok (.aload_n 0, 1) := by decide +kernel
theorem dX6_sitterOf_67 : decode cX6_sitterOf 67 = .ok (.invokevirtual 112, 3) := by decide +kernel
theorem dX6_sitterOf_70 : decode cX6_sitterOf 70 = .ok (.aload_n 0, 1) := by decide +kernel
theorem dX6_sitterOf_71 : decode cX6_sitterOf 71 = .ok (.iload_n 1, 1) := by decide +kernel
theorem dX6_sitterOf_72 : decode cX6_sitterOf 72 = .ok (.invokevirtual 99, 3) := by decide +kernel
theorem dX6_sitterOf_75 : decode cX6_sitterOf 75 = .ok (.ireturn, 1) := by decide +kernel
set_option maxRecDepth 20000 in
theorem ggX6_clashes_X6_laysSeats : GoodIn wsX6_clashes wsX6_laysSeats := goodIn_ca (goodIn_r _ [6, 7, 8, 9, 10, 11, 5, 12, 29, 30, 31, 32, 33, 34, 35, 36, 37, 38, 39, 40, 41, 42, 43, 44, 45, 46, 47, 48] (by decide +kernel) (by decide +kernel)) (goodIn_sub (fun _ h => List.mem_cons_of_mem _ (List.mem_append_right _ h)) (by decide +kernel))
set_option maxRecDepth 20000 in
theorem gX6_clashes_X6_laysSeats : GoodIn wsX6_clashes (wsV RX6 112 RX6 yX6_laysSeats wsX6_laysSeats) := goodIn_app (goodIn_of _ (by decide +kernel)) ggX6_clashes_X6_laysSeats
set_option maxRecDepth 20000 in
theorem ggX6_clashes_X6_clashesTried : GoodIn wsX6_clashes wsX6_clashesTried := goodIn_ca (goodIn_r _ [16, 7, 17, 18, 19, 5, 20, 21, 22, 23, 24, 8, 9, 10, 11, 12, 25, 26, 27, 28, 29, 30, 31, 32, 33, 34, 35, 36, 37, 38, 39, 40, 41, 42, 43, 44, 45, 46, 47, 48] (by decide +kernel) (by decide +kernel)) (goodIn_sub (fun _ h => List.mem_cons_of_mem _ (List.mem_append_right _ h)) (by decide +kernel))
set_option maxRecDepth 20000 in
theorem gX6_clashes_X6_clashesTried : GoodIn wsX6_clashes (wsV RX6 118 RX6 yX6_clashesTried wsX6_clashesTried) := goodIn_app (goodIn_of _ (by decide +kernel)) ggX6_clashes_X6_clashesTried
theorem dX6_clashes_0 : decode cX6_clashes 0 = .ok (.aload_n 0, 1) := by decide +kernel
theorem dX6_clashes_1 : decode cX6_clashes 1 = .ok (.iconst 0, 1) := by decide +kernel
theorem dX6_clashes_2 : decode cX6_clashes 2 = .ok (.putfield 39, 3) := by decide +kernel
theorem dX6_clashes_5 : decode cX6_clashes 5 = .ok (.aload_n 0, 1) := by decide +kernel
theorem dX6_clashes_6 : decode cX6_clashes 6 = .ok (.invokevirtual 112, 3) := by decide +kernel
theorem dX6_clashes_9 : decode cX6_clashes 9 = .ok (.aload_n 0, 1) := by decide +kernel
theorem dX6_clashes_10 : decode cX6_clashes 10 = .ok (.invokevirtual 118, 3) := by decide +kernel
theorem dX6_clashes_13 : decode cX6_clashes 13 = .ok (.ireturn, 1) := by decide +kernel
set_option maxRecDepth 20000 in
theorem ggX6_clash_X6_isSitter : GoodIn wsX6_clash wsX6_isSitter := goodIn_ca (goodIn_r _ [5, 6, 7, 8, 4, 9, 33, 34, 35, 36, 37, 38, 39, 40, 41, 42, 43, 44, 45, 46, 47, 48, 49, 50, 51, 52] (by decide +kernel) (by decide +kernel)) (goodIn_sub (fun _ h => List.mem_cons_of_mem _ (List.mem_append_right _ h)) (by decide +kernel))
set_option maxRecDepth 20000 in
theorem gX6_clash_X6_isSitter : GoodIn wsX6_clash (wsV RX6 103 RX6 yX6_isSitter wsX6_isSitter) := goodIn_app (goodIn_of _ (by decide +kernel)) ggX6_clash_X6_isSitter
set_option maxRecDepth 20000 in
theorem ggX6_clash_X6_fails : GoodIn wsX6_clash wsX6_fails := goodIn_r _ [13, 14, 15, 33, 34, 35, 36, 37, 38, 39, 40, 41, 42, 43, 44, 45, 46, 47, 48, 49, 50, 51, 52] (by decide +kernel) (by decide +kernel)
set_option maxRecDepth 20000 in
theorem gX6_clash_X6_fails : GoodIn wsX6_clash (wsV RX6 77 RX6 yX6_fails wsX6_fails) := goodIn_app (goodIn_of _ (by decide +kernel)) ggX6_clash_X6_fails
set_option maxRecDepth 20000 in
theorem ggX6_clash_X6_laysSeats : GoodIn wsX6_clash wsX6_laysSeats := goodIn_ca (goodIn_r _ [19, 6, 20, 21, 22, 23, 4, 24, 33, 34, 35, 36, 37, 38, 39, 40, 41, 42, 43, 44, 45, 46, 47, 48, 49, 50, 51, 52] (by decide +kernel) (by decide +kernel)) (goodIn_sub (fun _ h => List.mem_cons_of_mem _ (List.mem_append_right _ h)) (by decide +kernel))
set_option maxRecDepth 20000 in
theorem gX6_clash_X6_laysSeats : GoodIn wsX6_clash (wsV RX6 112 RX6 yX6_laysSeats wsX6_laysSeats) := goodIn_app (goodIn_of _ (by decide +kernel)) ggX6_clash_X6_laysSeats
set_option maxRecDepth 20000 in
theorem ggX6_clash_X6_areClashing : GoodIn wsX6_clash wsX6_areClashing := goodIn_ca (goodIn_r _ [28, 20, 21, 22, 23, 4, 24, 6, 29, 30, 31, 32, 33, 34, 35, 36, 37, 38, 39, 40, 41, 42, 43, 44, 45, 46, 47, 48, 49, 50, 51, 52] (by decide +kernel) (by decide +kernel)) (goodIn_sub (fun _ h => List.mem_cons_of_mem _ (List.mem_append_right _ h)) (by decide +kernel))
set_option maxRecDepth 20000 in
theorem gX6_clash_X6_areClashing : GoodIn wsX6_clash (wsV RX6 95 RX6 yX6_areClashing wsX6_areClashing) := goodIn_app (goodIn_of _ (by decide +kernel)) ggX6_clash_X6_areClashing
theorem dX6_clash_0 : decode cX6_clash 0 = .ok (.aload_n 0, 1) := by decide +kernel
theorem dX6_clash_1 : decode cX6_clash 1 = .ok (.aload_n 0, 1) := by decide +kernel
theorem dX6_clash_2 : decode cX6_clash 2 = .ok (.iload_n 1, 1) := by decide +kernel
theorem dX6_clash_3 : decode cX6_clash 3 = .ok (.invokevirtual 103, 3) := by decide +kernel
theorem dX6_clash_6 : decode cX6_clash 6 = .ok (.ifCond .eq 15, 3) := by decide +kernel
theorem dX6_clash_9 : decode cX6_clash 9 = .ok (.aload_n 0, 1) := by decide +kernel
theorem dX6_clash_10 : decode cX6_clash 10 = .ok (.iload_n 2, 1) := by decide +kernel
theorem dX6_clash_11 : decode cX6_clash 11 = .ok (.invokevirtual 103, 3) := by decide +kernel
theorem dX6_clash_14 : decode cX6_clash 14 = .ok (.ifCond .eq 7, 3) := by decide +kernel
theorem dX6_clash_17 : decode cX6_clash 17 = .ok (.iconst 0, 1) := by decide +kernel
theorem dX6_clash_18 : decode cX6_clash 18 = .ok (.goto 4, 3) := by decide +kernel
theorem dX6_clash_21 : decode cX6_clash 21 = .ok (.iconst 1, 1) := by decide +kernel
theorem dX6_clash_22 : decode cX6_clash 22 = .ok (.invokevirtual 77, 3) := by decide +kernel
theorem dX6_clash_25 : decode cX6_clash 25 = .ok (.ifCond .eq 5, 3) := by decide +kernel
theorem dX6_clash_28 : decode cX6_clash 28 = .ok (.iconst 0, 1) := by decide +kernel
theorem dX6_clash_29 : decode cX6_clash 29 = .ok (.ireturn, 1) := by decide +kernel
theorem dX6_clash_30 : decode cX6_clash 30 = .ok (.aload_n 0, 1) := by decide +kernel
theorem dX6_clash_31 : decode cX6_clash 31 = .ok (.invokevirtual 112, 3) := by decide +kernel
theorem dX6_clash_34 : decode cX6_clash 34 = .ok (.aload_n 0, 1) := by decide +kernel
theorem dX6_clash_35 : decode cX6_clash 35 = .ok (.iload_n 1, 1) := by decide +kernel
theorem dX6_clash_36 : decode cX6_clash 36 = .ok (.iload_n 2, 1) := by decide +kernel
theorem dX6_clash_37 : decode cX6_clash 37 = .ok (.invokevirtual 95, 3) := by decide +kernel
theorem dX6_clash_40 : decode cX6_clash 40 = .ok (.ireturn, 1) := by decide +kernel
set_option maxRecDepth 20000 in
theorem ggX6_isAhead_X6_by : GoodIn wsX6_isAhead wsX6_by := goodIn_ca (goodIn_r _ [5, 6, 7, 8, 9, 10, 11, 12, 13, 14, 15, 16, 17, 18, 19, 20, 21, 22, 23, 24, 25, 26] (by decide +kernel) (by decide +kernel)) (goodIn_sub (fun _ h => List.mem_cons_of_mem _ (List.mem_append_right _ h)) (by decide +kernel))
set_option maxRecDepth 20000 in
theorem gX6_isAhead_X6_by : GoodIn wsX6_isAhead (wsV RX6 66 RX6 yX6_by wsX6_by) := goodIn_app (goodIn_of _ (by decide +kernel)) ggX6_isAhead_X6_by
theorem dX6_isAhead_0 : decode cX6_isAhead 0 = .ok (.aload_n 0, 1) := by decide +kernel
theorem dX6_isAhead_1 : decode cX6_isAhead 1 = .ok (.iload_n 1, 1) := by decide +kernel
theorem dX6_isAhead_2 : decode cX6_isAhead 2 = .ok (.iconst 0, 1) := by decide +kernel
theorem dX6_isAhead_3 : decode cX6_isAhead 3 = .ok (.invokevirtual 66, 3) := by decide +kernel
theorem dX6_isAhead_6 : decode cX6_isAhead 6 = .ok (.aload_n 0, 1) := by decide +kernel
theorem dX6_isAhead_7 : decode cX6_isAhead 7 = .ok (.iload_n 2, 1) := by decide +kernel
theorem dX6_isAhead_8 : decode cX6_isAhead 8 = .ok (.iconst 0, 1) := by decide +kernel
theorem dX6_isAhead_9 : decode cX6_isAhead 9 = .ok (.invokevirtual 66, 3) := by decide +kernel
theorem dX6_isAhead_12 : decode cX6_isAhead 12 = .ok (.isub, 1) := by decide +kernel
theorem dX6_isAhead_13 : decode cX6_isAhead 13 = .ok (.istore_n 3, 1) := by decide +kernel
theorem dX6_isAhead_14 : decode cX6_isAhead 14 = .ok (.iload_n 3, 1) := by decide +kernel
theorem dX6_isAhead_15 : decode cX6_isAhead 15 = .ok (.ifCond .eq 13, 3) := by decide +kernel
theorem dX6_isAhead_18 : decode cX6_isAhead 18 = .ok (.iload_n 3, 1) := by decide +kernel
theorem dX6_isAhead_19 : decode cX6_isAhead 19 = .ok (.ifCond .le 7, 3) := by decide +kernel
theorem dX6_isAhead_22 : decode cX6_isAhead 22 = .ok (.iconst 1, 1) := by decide +kernel
theorem dX6_isAhead_23 : decode cX6_isAhead 23 = .ok (.goto 4, 3) := by decide +kernel
theorem dX6_isAhead_26 : decode cX6_isAhead 26 = .ok (.iconst 0, 1) := by decide +kernel
theorem dX6_isAhead_27 : decode cX6_isAhead 27 = .ok (.ireturn, 1) := by decide +kernel
theorem dX6_isAhead_28 : decode cX6_isAhead 28 = .ok (.aload_n 0, 1) := by decide +kernel
theorem dX6_isAhead_29 : decode cX6_isAhead 29 = .ok (.iload_n 1, 1) := by decide +kernel
theorem dX6_isAhead_30 : decode cX6_isAhead 30 = .ok (.iconst 1, 1) := by decide +kernel
theorem dX6_isAhead_31 : decode cX6_isAhead 31 = .ok (.invokevirtual 66, 3) := by decide +kernel
theorem dX6_isAhead_34 : decode cX6_isAhead 34 = .ok (.aload_n 0, 1) := by decide +kernel
theorem dX6_isAhead_35 : decode cX6_isAhead 35 = .ok (.iload_n 2, 1) := by decide +kernel
theorem dX6_isAhead_36 : decode cX6_isAhead 36 = .ok (.iconst 1, 1) := by decide +kernel
theorem dX6_isAhead_37 : decode cX6_isAhead 37 = .ok (.invokevirtual 66, 3) := by decide +kernel
theorem dX6_isAhead_40 : decode cX6_isAhead 40 = .ok (.isub, 1) := by decide +kernel
theorem dX6_isAhead_41 : decode cX6_isAhead 41 = .ok (.istore 4, 2) := by decide +kernel
theorem dX6_isAhead_43 : decode cX6_isAhead 43 = .ok (.iload 4, 2) := by decide +kernel
theorem dX6_isAhead_45 : decode cX6_isAhead 45 = .ok (.ifCond .gt 13, 3) := by decide +kernel
theorem dX6_isAhead_48 : decode cX6_isAhead 48 = .ok (.iload 4, 2) := by decide +kernel
theorem dX6_isAhead_50 : decode cX6_isAhead 50 = .ok (.ifCond .ne 12, 3) := by decide +kernel
theorem dX6_isAhead_53 : decode cX6_isAhead 53 = .ok (.iload_n 1, 1) := by decide +kernel
theorem dX6_isAhead_54 : decode cX6_isAhead 54 = .ok (.iload_n 2, 1) := by decide +kernel
theorem dX6_isAhead_55 : decode cX6_isAhead 55 = .ok (.if_icmp .ge 7, 3) := by decide +kernel
theorem dX6_isAhead_58 : decode cX6_isAhead 58 = .ok (.iconst 1, 1) := by decide +kernel
theorem dX6_isAhead_59 : decode cX6_isAhead 59 = .ok (.goto 4, 3) := by decide +kernel
theorem dX6_isAhead_62 : decode cX6_isAhead 62 = .ok (.iconst 0, 1) := by decide +kernel
theorem dX6_isAhead_63 : decode cX6_isAhead 63 = .ok (.ireturn, 1) := by decide +kernel
set_option maxRecDepth 20000 in
theorem ggX6_atPlace_X6_isAhead : GoodIn wsX6_atPlace wsX6_isAhead := goodIn_ca (goodIn_r _ [6, 7, 8, 9, 5, 10, 1, 11, 12, 13, 14, 15, 16, 17, 18, 19, 20, 21, 22, 23, 24, 25, 26, 27, 28, 29, 30] (by decide +kernel) (by decide +kernel)) (goodIn_sub (fun _ h => List.mem_cons_of_mem _ (List.mem_append_right _ h)) (by decide +kernel))
set_option maxRecDepth 20000 in
theorem gX6_atPlace_X6_isAhead : GoodIn wsX6_atPlace (wsV RX6 122 RX6 yX6_isAhead wsX6_isAhead) := goodIn_app (goodIn_of _ (by decide +kernel)) ggX6_atPlace_X6_isAhead
theorem dX6_atPlace_0 : decode cX6_atPlace 0 = .ok (.iconst 0, 1) := by decide +kernel
theorem dX6_atPlace_1 : decode cX6_atPlace 1 = .ok (.istore_n 2, 1) := by decide +kernel
theorem dX6_atPlace_2 : decode cX6_atPlace 2 = .ok (.iload_n 2, 1) := by decide +kernel
theorem dX6_atPlace_3 : decode cX6_atPlace 3 = .ok (.aload_n 0, 1) := by decide +kernel
theorem dX6_atPlace_4 : decode cX6_atPlace 4 = .ok (.getfield 7, 3) := by decide +kernel
theorem dX6_atPlace_7 : decode cX6_atPlace 7 = .ok (.iconst 1, 1) := by decide +kernel
theorem dX6_atPlace_8 : decode cX6_atPlace 8 = .ok (.iaload, 1) := by decide +kernel
theorem dX6_atPlace_9 : decode cX6_atPlace 9 = .ok (.if_icmp .ge 56, 3) := by decide +kernel
theorem dX6_atPlace_12 : decode cX6_atPlace 12 = .ok (.iconst 0, 1) := by decide +kernel
theorem dX6_atPlace_13 : decode cX6_atPlace 13 = .ok (.istore_n 3, 1) := by decide +kernel
theorem dX6_atPlace_14 : decode cX6_atPlace 14 = .ok (.iconst 0, 1) := by decide +kernel
theorem dX6_atPlace_15 : decode cX6_atPlace 15 = .ok (.istore 4, 2) := by decide +kernel
theorem dX6_atPlace_17 : decode cX6_atPlace 17 = .ok (.iload 4, 2) := by decide +kernel
theorem dX6_atPlace_19 : decode cX6_atPlace 19 = .ok (.aload_n 0, 1) := by decide +kernel
theorem dX6_atPlace_20 : decode cX6_atPlace 20 = .ok (.getfield 7, 3) := by decide +kernel
theorem dX6_atPlace_23 : decode cX6_atPlace 23 = .ok (.iconst 1, 1) := by decide +kernel
theorem dX6_atPlace_24 : decode cX6_atPlace 24 = .ok (.iaload, 1) := by decide +kernel
theorem dX6_atPlace_25 : decode cX6_atPlace 25 = .ok (.if_icmp .ge 27, 3) := by decide +kernel
theorem dX6_atPlace_28 : decode cX6_atPlace 28 = .ok (.iload_n 3, 1) := by decide +kernel
theorem dX6_atPlace_29 : decode cX6_atPlace 29 = .ok (.aload_n 0, 1) := by decide +kernel
theorem dX6_atPlace_30 : decode cX6_atPlace 30 = .ok (.iload 4, 2) := by decide +kernel
theorem dX6_atPlace_32 : decode cX6_atPlace 32 = .ok (.iload_n 2, 1) := by decide +kernel
theorem dX6_atPlace_33 : decode cX6_atPlace 33 = .ok (.invokevirtual 122, 3) := by decide +kernel
theorem dX6_atPlace_36 : decode cX6_atPlace 36 = .ok (.ifCond .eq 7, 3) := by decide +kernel
theorem dX6_atPlace_39 : decode cX6_atPlace 39 = .ok (.iconst 1, 1) := by decide +kernel
theorem dX6_atPlace_40 : decode cX6_atPlace 40 = .ok (.goto 4, 3) := by decide +kernel
theorem dX6_atPlace_43 : decode cX6_atPlace 43 = .ok (.iconst 0, 1) := by decide +kernel
theorem dX6_atPlace_44 : decode cX6_atPlace 44 = .ok (.iadd, 1) := by decide +kernel
theorem dX6_atPlace_45 : decode cX6_atPlace 45 = .ok (.istore_n 3, 1) := by decide +kernel
theorem dX6_atPlace_46 : decode cX6_atPlace 46 = .ok (.iinc 4 1, 3) := by decide +kernel
theorem dX6_atPlace_49 : decode cX6_atPlace 49 = .ok (.goto (-32), 3) := by decide +kernel
theorem dX6_atPlace_52 : decode cX6_atPlace 52 = .ok (.iload_n 3, 1) := by decide +kernel
theorem dX6_atPlace_53 : decode cX6_atPlace 53 = .ok (.iload_n 1, 1) := by decide +kernel
theorem dX6_atPlace_54 : decode cX6_atPlace 54 = .ok (.if_icmp .ne 5, 3) := by decide +kernel
theorem dX6_atPlace_57 : decode cX6_atPlace 57 = .ok (.iload_n 2, 1) := by decide +kernel
theorem dX6_atPlace_58 : decode cX6_atPlace 58 = .ok (.ireturn, 1) := by decide +kernel
theorem dX6_atPlace_59 : decode cX6_atPlace 59 = .ok (.iinc 2 1, 3) := by decide +kernel
theorem dX6_atPlace_62 : decode cX6_atPlace 62 = .ok (.goto (-60), 3) := by decide +kernel
theorem dX6_atPlace_65 : decode cX6_atPlace 65 = .ok (.iconst (-1), 1) := by decide +kernel
theorem dX6_atPlace_66 : decode cX6_atPlace 66 = .ok (.ireturn, 1) := by decide +kernel
theorem dX6_isFree_0 : decode cX6_isFree 0 = .ok (.iconst 0, 1) := by decide +kernel
theorem dX6_isFree_1 : decode cX6_isFree 1 = .ok (.istore_n 2, 1) := by decide +kernel
theorem dX6_isFree_2 : decode cX6_isFree 2 = .ok (.iload_n 2, 1) := by decide +kernel
theorem dX6_isFree_3 : decode cX6_isFree 3 = .ok (.aload_n 0, 1) := by decide +kernel
theorem dX6_isFree_4 : decode cX6_isFree 4 = .ok (.getfield 7, 3) := by decide +kernel
theorem dX6_isFree_7 : decode cX6_isFree 7 = .ok (.iconst 1, 1) := by decide +kernel
theorem dX6_isFree_8 : decode cX6_isFree 8 = .ok (.iaload, 1) := by decide +kernel
theorem dX6_isFree_9 : decode cX6_isFree 9 = .ok (.if_icmp .ge 21, 3) := by decide +kernel
theorem dX6_isFree_12 : decode cX6_isFree 12 = .ok (.aload_n 0, 1) := by decide +kernel
theorem dX6_isFree_13 : decode cX6_isFree 13 = .ok (.getfield 33, 3) := by decide +kernel
theorem dX6_isFree_16 : decode cX6_isFree 16 = .ok (.iload_n 2, 1) := by decide +kernel
theorem dX6_isFree_17 : decode cX6_isFree 17 = .ok (.iaload, 1) := by decide +kernel
theorem dX6_isFree_18 : decode cX6_isFree 18 = .ok (.iload_n 1, 1) := by decide +kernel
theorem dX6_isFree_19 : decode cX6_isFree 19 = .ok (.if_icmp .ne 5, 3) := by decide +kernel
theorem dX6_isFree_22 : decode cX6_isFree 22 = .ok (.iconst 0, 1) := by decide +kernel
theorem dX6_isFree_23 : decode cX6_isFree 23 = .ok (.ireturn, 1) := by decide +kernel
theorem dX6_isFree_24 : decode cX6_isFree 24 = .ok (.iinc 2 1, 3) := by decide +kernel
theorem dX6_isFree_27 : decode cX6_isFree 27 = .ok (.goto (-25), 3) := by decide +kernel
theorem dX6_isFree_30 : decode cX6_isFree 30 = .ok (.iconst 1, 1) := by decide +kernel
theorem dX6_isFree_31 : decode cX6_isFree 31 = .ok (.ireturn, 1) := by decide +kernel
set_option maxRecDepth 20000 in
theorem ggX6_stoolFor_X6_isFree : GoodIn wsX6_stoolFor wsX6_isFree := goodIn_ca (goodIn_r _ [5, 6, 7, 24, 25, 26, 27, 28, 29, 30, 31, 32, 33, 34, 35, 36, 37, 38, 39, 40, 41, 42, 43] (by decide +kernel) (by decide +kernel)) (goodIn_sub (fun _ h => List.mem_cons_of_mem _ (List.mem_append_right _ h)) (by decide +kernel))
set_option maxRecDepth 20000 in
theorem gX6_stoolFor_X6_isFree : GoodIn wsX6_stoolFor (wsV RX6 125 RX6 yX6_isFree wsX6_isFree) := goodIn_app (goodIn_of _ (by decide +kernel)) ggX6_stoolFor_X6_isFree
set_option maxRecDepth 20000 in
theorem ggX6_stoolFor_X6_maySit : GoodIn wsX6_stoolFor wsX6_maySit := goodIn_ca (goodIn_r _ [11, 12, 13, 14, 4, 15, 16, 17, 18, 19, 6, 20, 21, 22, 23, 24, 25, 26, 27, 28, 29, 30, 31, 32, 33, 34, 35, 36, 37, 38, 39, 40, 41, 42, 43] (by decide +kernel) (by decide +kernel)) (goodIn_sub (fun _ h => List.mem_cons_of_mem _ (List.mem_append_right _ h)) (by decide +kernel))
set_option maxRecDepth 20000 in
theorem gX6_stoolFor_X6_maySit : GoodIn wsX6_stoolFor (wsV RX6 109 RX6 yX6_maySit wsX6_maySit) := goodIn_app (goodIn_of _ (by decide +kernel)) ggX6_stoolFor_X6_maySit
set_option maxRecDepth 20000 in
theorem ggX6_stoolFor_X6_of : GoodIn wsX6_stoolFor wsX6_of := goodIn_ca (goodIn_r _ [23, 6, 24, 25, 26, 27, 28, 29, 30, 31, 32, 33, 34, 35, 36, 37, 38, 39, 40, 41, 42, 43] (by decide +kernel) (by decide +kernel)) (goodIn_sub (fun _ h => List.mem_cons_of_mem _ (List.mem_append_right _ h)) (by decide +kernel))
set_option maxRecDepth 20000 in
theorem gX6_stoolFor_X6_of : GoodIn wsX6_stoolFor (wsV RX6 74 RX6 yX6_of wsX6_of) := goodIn_app (goodIn_of _ (by decide +kernel)) ggX6_stoolFor_X6_of
theorem dX6_stoolFor_0 : decode cX6_stoolFor 0 = .ok (.iconst (-1), 1) := by decide +kernel
theorem dX6_stoolFor_1 : decode cX6_stoolFor 1 = .ok (.istore 4, 2) := by decide +kernel
theorem dX6_stoolFor_3 : decode cX6_stoolFor 3 = .ok (.iload_n 2, 1) := by decide +kernel
theorem dX6_stoolFor_4 : decode cX6_stoolFor 4 = .ok (.istore 5, 2) := by decide +kernel
theorem dX6_stoolFor_6 : decode cX6_stoolFor 6 = .ok (.iload 5, 2) := by decide +kernel
theorem dX6_stoolFor_8 : decode cX6_stoolFor 8 = .ok (.iload_n 3, 1) := by decide +kernel
theorem dX6_stoolFor_9 : decode cX6_stoolFor 9 = .ok (.if_icmp .gt 54, 3) := by decide +kernel
theorem dX6_stoolFor_12 : decode cX6_stoolFor 12 = .ok (.aload_n 0, 1) := by decide +kernel
theorem dX6_stoolFor_13 : decode cX6_stoolFor 13 = .ok (.iload 5, 2) := by decide +kernel
theorem dX6_stoolFor_15 : decode cX6_stoolFor 15 = .ok (.invokevirtual 125, 3) := by decide +kernel
theorem dX6_stoolFor_18 : decode cX6_stoolFor 18 = .ok (.ifCond .eq 39, 3) := by decide +kernel
theorem dX6_stoolFor_21 : decode cX6_stoolFor 21 = .ok (.aload_n 0, 1) := by decide +kernel
theorem dX6_stoolFor_22 : decode cX6_stoolFor 22 = .ok (.iload_n 1, 1) := by decide +kernel
theorem dX6_stoolFor_23 : decode cX6_stoolFor 23 = .ok (.iload 5, 2) := by decide +kernel
theorem dX6_stoolFor_25 : decode cX6_stoolFor 25 = .ok (.invokevirtual 109, 3) := by decide +kernel
theorem dX6_stoolFor_28 : decode cX6_stoolFor 28 = .ok (.ifCond .eq 29, 3) := by decide +kernel
theorem dX6_stoolFor_31 : decode cX6_stoolFor 31 = .ok (.iload 4, 2) := by decide +kernel
theorem dX6_stoolFor_33 : decode cX6_stoolFor 33 = .ok (.ifCond .lt 20, 3) := by decide +kernel
theorem dX6_stoolFor_36 : decode cX6_stoolFor 36 = .ok (.aload_n 0, 1) := by decide +kernel
theorem dX6_stoolFor_37 : decode cX6_stoolFor 37 = .ok (.iload 5, 2) := by decide +kernel
theorem dX6_stoolFor_39 : decode cX6_stoolFor 39 = .ok (.iconst 0, 1) := by decide +kernel
theorem dX6_stoolFor_40 : decode cX6_stoolFor 40 = .ok (.invokevirtual 74, 3) := by decide +kernel
theorem dX6_stoolFor_43 : decode cX6_stoolFor 43 = .ok (.aload_n 0, 1) := by decide +kernel
theorem dX6_stoolFor_44 : decode cX6_stoolFor 44 = .ok (.iload 4, 2) := by decide +kernel
theorem dX6_stoolFor_46 : decode cX6_stoolFor 46 = .ok (.iconst 0, 1) := by decide +kernel
theorem dX6_stoolFor_47 : decode cX6_stoolFor 47 = .ok (.invokevirtual 74, 3) := by decide +kernel
theorem dX6_stoolFor_50 : decode cX6_stoolFor 50 = .ok (.if_icmp .le 7, 3) := by decide +kernel
theorem dX6_stoolFor_53 : decode cX6_stoolFor 53 = .ok (.iload 5, 2) := by decide +kernel
theorem dX6_stoolFor_55 : decode cX6_stoolFor 55 = .ok (.istore 4, 2) := by decide +kernel
theorem dX6_stoolFor_57 : decode cX6_stoolFor 57 = .ok (.iinc 5 1, 3) := by decide +kernel
theorem dX6_stoolFor_60 : decode cX6_stoolFor 60 = .ok (.goto (-54), 3) := by decide +kernel
theorem dX6_stoolFor_63 : decode cX6_stoolFor 63 = .ok (.iload 4, 2) := by decide +kernel
theorem dX6_stoolFor_65 : decode cX6_stoolFor 65 = .ok (.ireturn, 1) := by decide +kernel
set_option maxRecDepth 20000 in
theorem ggX6_reseats_X6_laysSeats : GoodIn wsX6_reseats wsX6_laysSeats := goodIn_ca (goodIn_r _ [7, 1, 2, 8, 9, 10, 6, 11, 43, 44, 45, 46, 47, 48, 49, 50, 51, 52, 53, 54, 55, 56, 57, 58, 59, 60, 61, 62] (by decide +kernel) (by decide +kernel)) (goodIn_sub (fun _ h => List.mem_cons_of_mem _ (List.mem_append_right _ h)) (by decide +kernel))
set_option maxRecDepth 20000 in
theorem gX6_reseats_X6_laysSeats : GoodIn wsX6_reseats (wsV RX6 112 RX6 yX6_laysSeats wsX6_laysSeats) := goodIn_app (goodIn_of _ (by decide +kernel)) ggX6_reseats_X6_laysSeats
set_option maxRecDepth 20000 in
theorem ggX6_reseats_X6_in : GoodIn wsX6_reseats wsX6_in := goodIn_r _ [14] (by decide +kernel) (by decide +kernel)
set_option maxRecDepth 20000 in
theorem gX6_reseats_X6_in : GoodIn wsX6_reseats (va_wsS RX6 62 yX6_in wsX6_in) := goodIn_app (goodIn_of _ (by decide +kernel)) ggX6_reseats_X6_in
set_option maxRecDepth 20000 in
theorem ggX6_reseats_X6_atPlace : GoodIn wsX6_reseats wsX6_atPlace := goodIn_ca (goodIn_r _ [18, 1, 19, 20, 21, 6, 22, 8, 9, 10, 11, 43, 44, 45, 46, 47, 48, 49, 50, 51, 52, 53, 54, 55, 56, 57, 58, 59, 60, 61, 62] (by decide +kernel) (by decide +kernel)) (goodIn_sub (fun _ h => List.mem_cons_of_mem _ (List.mem_append_right _ h)) (by decide +kernel))
set_option maxRecDepth 20000 in
theorem gX6_reseats_X6_atPlace : GoodIn wsX6_reseats (wsV RX6 128 RX6 yX6_atPlace wsX6_atPlace) := goodIn_app (goodIn_of _ (by decide +kernel)) ggX6_reseats_X6_atPlace
set_option maxRecDepth 20000 in
theorem ggX6_reseats_X6_stoolFor : GoodIn wsX6_reseats wsX6_stoolFor := goodIn_ca (goodIn_r _ [26, 27, 28, 29, 6, 30, 1, 2, 31, 32, 33, 34, 35, 36, 37, 38, 8, 9, 10, 11, 39, 40, 41, 42, 43, 44, 45, 46, 47, 48, 49, 50, 51, 52, 53, 54, 55, 56, 57, 58, 59, 60, 61, 62] (by decide +kernel) (by decide +kernel)) (goodIn_sub (fun _ h => List.mem_cons_of_mem _ (List.mem_append_right _ h)) (by decide +kernel))
set_option maxRecDepth 20000 in
theorem gX6_reseats_X6_stoolFor : GoodIn wsX6_reseats (wsV RX6 131 RX6 yX6_stoolFor wsX6_stoolFor) := goodIn_app (goodIn_of _ (by decide +kernel)) ggX6_reseats_X6_stoolFor
set_option maxRecDepth 20000 in
theorem ggX6_reseats_X6_by : GoodIn wsX6_reseats wsX6_by := goodIn_ca (goodIn_r _ [11, 1, 43, 44, 45, 46, 47, 48, 49, 50, 51, 52, 53, 54, 55, 56, 57, 58, 59, 60, 61, 62] (by decide +kernel) (by decide +kernel)) (goodIn_sub (fun _ h => List.mem_cons_of_mem _ (List.mem_append_right _ h)) (by decide +kernel))
set_option maxRecDepth 20000 in
theorem gX6_reseats_X6_by : GoodIn wsX6_reseats (wsV RX6 66 RX6 yX6_by wsX6_by) := goodIn_app (goodIn_of _ (by decide +kernel)) ggX6_reseats_X6_by
theorem dX6_reseats_0 : decode cX6_reseats 0 = .ok (.aload_n 0, 1) := by decide +kernel
theorem dX6_reseats_1 : decode cX6_reseats 1 = .ok (.invokevirtual 112, 3) := by decide +kernel
theorem dX6_reseats_4 : decode cX6_reseats 4 = .ok (.iconst 0, 1) := by decide +kernel
theorem dX6_reseats_5 : decode cX6_reseats 5 = .ok (.istore_n 3, 1) := by decide +kernel
theorem dX6_reseats_6 : decode cX6_reseats 6 = .ok (.iconst 0, 1) := by decide +kernel
theorem dX6_reseats_7 : decode cX6_reseats 7 = .ok (.istore 4, 2) := by decide +kernel
theorem dX6_reseats_9 : decode cX6_reseats 9 = .ok (.iload 4, 2) := by decide +kernel
theorem dX6_reseats_11 : decode cX6_reseats 11 = .ok (.aload_n 0, 1) := by decide +kernel
theorem dX6_reseats_12 : decode cX6_reseats 12 = .ok (.getfield 7, 3) := by decide +kernel
theorem dX6_reseats_15 : decode cX6_reseats 15 = .ok (.iconst 1, 1) := by decide +kernel
theorem dX6_reseats_16 : decode cX6_reseats 16 = .ok (.iaload, 1) := by decide +kernel
theorem dX6_reseats_17 : decode cX6_reseats 17 = .ok (.if_icmp .ge 42, 3) := by decide +kernel
theorem dX6_reseats_20 : decode cX6_reseats 20 = .ok (.aload_n 0, 1) := by decide +kernel
theorem dX6_reseats_21 : decode cX6_reseats 21 = .ok (.getfield 33, 3) := by decide +kernel
theorem dX6_reseats_24 : decode cX6_reseats 24 = .ok (.iload 4, 2) := by decide +kernel
theorem dX6_reseats_26 : decode cX6_reseats 26 = .ok (.iaload, 1) := by decide +kernel
theorem dX6_reseats_27 : decode cX6_reseats 27 = .ok (.iload_n 1, 1) := by decide +kernel
theorem dX6_reseats_28 : decode cX6_reseats 28 = .ok (.iload_n 2, 1) := by decide +kernel
theorem dX6_reseats_29 : decode cX6_reseats 29 = .ok (.invokestatic 62, 3) := by decide +kernel
theorem dX6_reseats_32 : decode cX6_reseats 32 = .ok (.ifCond .ne 6, 3) := by decide +kernel
theorem dX6_reseats_35 : decode cX6_reseats 35 = .ok (.goto 18, 3) := by decide +kernel
theorem dX6_reseats_38 : decode cX6_reseats 38 = .ok (.aload_n 0, 1) := by decide +kernel
theorem dX6_reseats_39 : decode cX6_reseats 39 = .ok (.getfield 33, 3) := by decide +kernel
theorem dX6_reseats_42 : decode cX6_reseats 42 = .ok (.iload 4, 2) := by decide +kernel
theorem dX6_reseats_44 : decode cX6_reseats 44 = .ok (.iconst (-1), 1) := by decide +kernel
theorem dX6_reseats_45 : decode cX6_reseats 45 = .ok (.iastore, 1) := by decide +kernel
theorem dX6_reseats_46 : decode cX6_reseats 46 = .ok (.iload_n 3, 1) := by decide +kernel
theorem dX6_reseats_47 : decode cX6_reseats 47 = .ok (.iconst 1, 1) := by decide +kernel
theorem dX6_reseats_48 : decode cX6_reseats 48 = .ok (.iload 4, 2) := by decide +kernel
theorem dX6_reseats_50 : decode cX6_reseats 50 = .ok (.ishl, 1) := by decide +kernel
theorem dX6_reseats_51 : decode cX6_reseats 51 = .ok (.ior, 1) := by decide +kernel
theorem dX6_reseats_52 : decode cX6_reseats 52 = .ok (.istore_n 3, 1) := by decide +kernel
theorem dX6_reseats_53 : decode cX6_reseats 53 = .ok (.iinc 4 1, 3) := by decide +kernel
theorem dX6_reseats_56 : decode cX6_reseats 56 = .ok (.goto (-47), 3) := by decide +kernel
theorem dX6_reseats_59 : decode cX6_reseats 59 = .ok (.iconst 0, 1) := by decide +kernel
theorem dX6_reseats_60 : decode cX6_reseats 60 = .ok (.istore 4, 2) := by decide +kernel
theorem dX6_reseats_62 : decode cX6_reseats 62 = .ok (.iconst 0, 1) := by decide +kernel
theorem dX6_reseats_63 : decode cX6_reseats 63 = .ok (.istore 5, 2) := by decide +kernel
theorem dX6_reseats_65 : decode cX6_reseats 65 = .ok (.iload 5, 2) := by decide +kernel
theorem dX6_reseats_67 : decode cX6_reseats 67 = .ok (.aload_n 0, 1) := by decide +kernel
theorem dX6_reseats_68 : decode cX6_reseats 68 = .ok (.getfield 7, 3) := by decide +kernel
theorem dX6_reseats_71 : decode cX6_reseats 71 = .ok (.iconst 1, 1) := by decide +kernel
theorem dX6_reseats_72 : decode cX6_reseats 72 = .ok (.iaload, 1) := by decide +kernel
theorem dX6_reseats_73 : decode cX6_reseats 73 = .ok (.if_icmp .ge 71, 3) := by decide +kernel
theorem dX6_reseats_76 : decode cX6_reseats 76 = .ok (.aload_n 0, 1) := by decide +kernel
theorem dX6_reseats_77 : decode cX6_reseats 77 = .ok (.iload 5, 2) := by decide +kernel
theorem dX6_reseats_79 : decode cX6_reseats 79 = .ok (.invokevirtual 128, 3) := by decide +kernel
theorem dX6_reseats_82 : decode cX6_reseats 82 = .ok (.istore 6, 2) := by decide +kernel
theorem dX6_reseats_84 : decode cX6_reseats 84 = .ok (.iload_n 3, 1) := by decide +kernel
theorem dX6_reseats_85 : decode cX6_reseats 85 = .ok (.iload 6, 2) := by decide +kernel
theorem dX6_reseats_87 : decode cX6_reseats 87 = .ok (.ishr, 1) := by decide +kernel
theorem dX6_reseats_88 : decode cX6_reseats 88 = .ok (.iconst 1, 1) := by decide +kernel
theorem dX6_reseats_89 : decode cX6_reseats 89 = .ok (.iand, 1) := by decide +kernel
theorem dX6_reseats_90 : decode cX6_reseats 90 = .ok (.ifCond .ne 6, 3) := by decide +kernel
theorem dX6_reseats_93 : decode cX6_reseats 93 = .ok (.goto 45, 3) := by decide +kernel
theorem dX6_reseats_96 : decode cX6_reseats 96 = .ok (.aload_n 0, 1) := by decide +kernel
theorem dX6_reseats_97 : decode cX6_reseats 97 = .ok (.getfield 33, 3) := by decide +kernel
theorem dX6_reseats_100 : decode cX6_reseats 100 = .ok (.iload 6, 2) := by decide +kernel
theorem dX6_reseats_102 : decode cX6_reseats 102 = .ok (.aload_n 0, 1) := by decide +kernel
theorem dX6_reseats_103 : decode cX6_reseats 103 = .ok (.iload 6, 2) := by decide +kernel
theorem dX6_reseats_105 : decode cX6_reseats 105 = .ok (.iload_n 1, 1) := by decide +kernel
theorem dX6_reseats_106 : decode cX6_reseats 106 = .ok (.iload_n 2, 1) := by decide +kernel
theorem dX6_reseats_107 : decode cX6_reseats 107 = .ok (.invokevirtual 131, 3) := by decide +kernel
theorem dX6_reseats_110 : decode cX6_reseats 110 = .ok (.iastore, 1) := by decide +kernel
theorem dX6_reseats_111 : decode cX6_reseats 111 = .ok (.iload 4, 2) := by decide +kernel
theorem dX6_reseats_113 : decode cX6_reseats 113 = .ok (.aload_n 0, 1) := by decide +kernel
theorem dX6_reseats_114 : decode cX6_reseats 114 = .ok (.getfield 33, 3) := by decide +kernel
theorem dX6_reseats_117 : decode cX6_reseats 117 = .ok (.iload 6, 2) := by decide +kernel
theorem dX6_reseats_119 : decode cX6_reseats 119 = .ok (.iaload, 1) := by decide +kernel
theorem dX6_reseats_120 : decode cX6_reseats 120 = .ok (.aload_n 0, 1) := by decide +kernel
theorem dX6_reseats_121 : decode cX6_reseats 121 = .ok (.iload 6, 2) := by decide +kernel
theorem dX6_reseats_123 : decode cX6_reseats 123 = .ok (.iconst 2, 1) := by decide +kernel
theorem dX6_reseats_124 : decode cX6_reseats 124 = .ok (.invokevirtual 66, 3) := by decide +kernel
theorem dX6_reseats_127 : decode cX6_reseats 127 = .ok (.if_icmp .eq 7, 3) := by decide +kernel
theorem dX6_reseats_130 : decode cX6_reseats 130 = .ok (.iconst 1, 1) := by decide +kernel
theorem dX6_reseats_131 : decode cX6_reseats 131 = .ok (.goto 4, 3) := by decide +kernel
theorem dX6_reseats_134 : decode cX6_reseats 134 = .ok (.iconst 0, 1) := by decide +kernel
theorem dX6_reseats_135 : decode cX6_reseats 135 = .ok (.iadd, 1) := by decide +kernel
theorem dX6_reseats_136 : decode cX6_reseats 136 = .ok (.istore 4, 2) := by decide +kernel
theorem dX6_reseats_138 : decode cX6_reseats 138 = .ok (.iinc 5 1, 3) := by decide +kernel
theorem dX6_reseats_141 : decode cX6_reseats 141 = .ok (.goto (-76), 3) := by decide +kernel
theorem dX6_reseats_144 : decode cX6_reseats 144 = .ok (.iload 4, 2) := by decide +kernel
theorem dX6_reseats_146 : decode cX6_reseats 146 = .ok (.ireturn, 1) := by decide +kernel
set_option maxRecDepth 20000 in
theorem ggX6_taken_X6_of : GoodIn wsX6_taken wsX6_of := goodIn_ca (goodIn_r _ [5, 6, 7, 8, 9, 10, 11, 12, 13, 14, 15, 16, 17, 18, 19, 20, 21, 22, 23, 24, 25, 26] (by decide +kernel) (by decide +kernel)) (goodIn_sub (fun _ h => List.mem_cons_of_mem _ (List.mem_append_right _ h)) (by decide +kernel))
set_option maxRecDepth 20000 in
theorem gX6_taken_X6_of : GoodIn wsX6_taken (wsV RX6 74 RX6 yX6_of wsX6_of) := goodIn_app (goodIn_of _ (by decide +kernel)) ggX6_taken_X6_of
theorem dX6_taken_0 : decode cX6_taken 0 = .ok (.iconst 0, 1) := by decide +kernel
theorem dX6_taken_1 : decode cX6_taken 1 = .ok (.istore_n 3, 1) := by decide +kernel
theorem dX6_taken_2 : decode cX6_taken 2 = .ok (.iload_n 1, 1) := by decide +kernel
theorem dX6_taken_3 : decode cX6_taken 3 = .ok (.istore 4, 2) := by decide +kernel
theorem dX6_taken_5 : decode cX6_taken 5 = .ok (.iload 4, 2) := by decide +kernel
theorem dX6_taken_7 : decode cX6_taken 7 = .ok (.iload_n 2, 1) := by decide +kernel
theorem dX6_taken_8 : decode cX6_taken 8 = .ok (.if_icmp .gt 27, 3) := by decide +kernel
theorem dX6_taken_11 : decode cX6_taken 11 = .ok (.iload_n 3, 1) := by decide +kernel
theorem dX6_taken_12 : decode cX6_taken 12 = .ok (.aload_n 0, 1) := by decide +kernel
theorem dX6_taken_13 : decode cX6_taken 13 = .ok (.iload 4, 2) := by decide +kernel
theorem dX6_taken_15 : decode cX6_taken 15 = .ok (.iconst 5, 1) := by decide +kernel
theorem dX6_taken_16 : decode cX6_taken 16 = .ok (.invokevirtual 74, 3) := by decide +kernel
theorem dX6_taken_19 : decode cX6_taken 19 = .ok (.ifCond .lt 7, 3) := by decide +kernel
theorem dX6_taken_22 : decode cX6_taken 22 = .ok (.iconst 1, 1) := by decide +kernel
theorem dX6_taken_23 : decode cX6_taken 23 = .ok (.goto 4, 3) := by decide +kernel
theorem dX6_taken_26 : decode cX6_taken 26 = .ok (.iconst 0, 1) := by decide +kernel
theorem dX6_taken_27 : decode cX6_taken 27 = .ok (.iadd, 1) := by decide +kernel
theorem dX6_taken_28 : decode cX6_taken 28 = .ok (.istore_n 3, 1) := by decide +kernel
theorem dX6_taken_29 : decode cX6_taken 29 = .ok (.iinc 4 1, 3) := by decide +kernel
theorem dX6_taken_32 : decode cX6_taken 32 = .ok (.goto (-27), 3) := by decide +kernel
theorem dX6_taken_35 : decode cX6_taken 35 = .ok (.iload_n 3, 1) := by decide +kernel
theorem dX6_taken_36 : decode cX6_taken 36 = .ok (.ireturn, 1) := by decide +kernel
set_option maxRecDepth 20000 in
theorem ggX6_brawl_X6_isStool : GoodIn wsX6_brawl wsX6_isStool := goodIn_ca (goodIn_r _ [6, 1, 7, 8, 5, 9, 85, 86, 87, 88, 89, 90, 91, 92, 93, 94, 95, 96, 97, 98, 99, 100, 101, 102, 103, 104] (by decide +kernel) (by decide +kernel)) (goodIn_sub (fun _ h => List.mem_cons_of_mem _ (List.mem_append_right _ h)) (by decide +kernel))
set_option maxRecDepth 20000 in
theorem gX6_brawl_X6_isStool : GoodIn wsX6_brawl (wsV RX6 106 RX6 yX6_isStool wsX6_isStool) := goodIn_app (goodIn_of _ (by decide +kernel)) ggX6_brawl_X6_isStool
set_option maxRecDepth 20000 in
theorem ggX6_brawl_X6_fails : GoodIn wsX6_brawl wsX6_fails := goodIn_r _ [13, 14, 15, 85, 86, 87, 88, 89, 90, 91, 92, 93, 94, 95, 96, 97, 98, 99, 100, 101, 102, 103, 104] (by decide +kernel) (by decide +kernel)
set_option maxRecDepth 20000 in
theorem gX6_brawl_X6_fails : GoodIn wsX6_brawl (wsV RX6 77 RX6 yX6_fails wsX6_fails) := goodIn_app (goodIn_of _ (by decide +kernel)) ggX6_brawl_X6_fails
set_option maxRecDepth 20000 in
theorem ggX6_brawl_X6_taken : GoodIn wsX6_brawl wsX6_taken := goodIn_ca (goodIn_r _ [19, 20, 21, 22, 5, 23, 1, 85, 86, 87, 88, 89, 90, 91, 92, 93, 94, 95, 96, 97, 98, 99, 100, 101, 102, 103, 104] (by decide +kernel) (by decide +kernel)) (goodIn_sub (fun _ h => List.mem_cons_of_mem _ (List.mem_append_right _ h)) (by decide +kernel))
set_option maxRecDepth 20000 in
theorem gX6_brawl_X6_taken : GoodIn wsX6_brawl (wsV RX6 134 RX6 yX6_taken wsX6_taken) := goodIn_app (goodIn_of _ (by decide +kernel)) ggX6_brawl_X6_taken
set_option maxRecDepth 20000 in
theorem ggX6_brawl_X6_refuses : GoodIn wsX6_brawl wsX6_refuses := goodIn_r _ [27, 14, 15, 28, 29, 85, 86, 87, 88, 89, 90, 91, 92, 93, 94, 95, 96, 97, 98, 99, 100, 101, 102, 103, 104] (by decide +kernel) (by decide +kernel)
set_option maxRecDepth 20000 in
theorem gX6_brawl_X6_refuses : GoodIn wsX6_brawl (wsV RX6 80 RX6 yX6_refuses wsX6_refuses) := goodIn_app (goodIn_of _ (by decide +kernel)) ggX6_brawl_X6_refuses
set_option maxRecDepth 20000 in
theorem ggX6_brawl_X6_keeps : GoodIn wsX6_brawl wsX6_keeps := goodIn_ca (goodIn_r _ [33, 14, 34, 35, 36, 37, 38, 5, 39, 85, 86, 87, 88, 89, 90, 91, 92, 93, 94, 95, 96, 97, 98, 99, 100, 101, 102, 103, 104] (by decide +kernel) (by decide +kernel)) (goodIn_sub (fun _ h => List.mem_cons_of_mem _ (List.mem_append_right _ h)) (by decide +kernel))
set_option maxRecDepth 20000 in
theorem gX6_brawl_X6_keeps : GoodIn wsX6_brawl (wsV RX6 84 RX6 yX6_keeps wsX6_keeps) := goodIn_app (goodIn_of _ (by decide +kernel)) ggX6_brawl_X6_keeps
set_option maxRecDepth 20000 in
theorem ggX6_brawl_X6_reseats : GoodIn wsX6_brawl wsX6_reseats := goodIn_ca (goodIn_r _ [43, 1, 44, 45, 46, 47, 5, 48, 49, 50, 51, 52, 7, 8, 9, 53, 54, 55, 56, 57, 58, 59, 60, 61, 62, 63, 64, 65, 66, 67, 68, 69, 70, 71, 72, 73, 74, 75, 76, 20, 21, 22, 23, 85, 86, 87, 88, 89, 90, 91, 92, 93, 94, 95, 96, 97, 98, 99, 100, 101, 102, 103, 104] (by decide +kernel) (by decide +kernel)) (goodIn_sub (fun _ h => List.mem_cons_of_mem _ (List.mem_append_right _ h)) (by decide +kernel))
set_option maxRecDepth 20000 in
theorem gX6_brawl_X6_reseats : GoodIn wsX6_brawl (wsV RX6 137 RX6 yX6_reseats wsX6_reseats) := goodIn_app (goodIn_of _ (by decide +kernel)) ggX6_brawl_X6_reseats
set_option maxRecDepth 20000 in
theorem ggX6_brawl_X6_takesSeats : GoodIn wsX6_brawl wsX6_takesSeats := goodIn_ca (goodIn_r _ [80, 1, 44, 81, 82, 83, 5, 84, 85, 86, 87, 88, 89, 90, 91, 92, 93, 94, 95, 96, 97, 98, 99, 100, 101, 102, 103, 104] (by decide +kernel) (by decide +kernel)) (goodIn_sub (fun _ h => List.mem_cons_of_mem _ (List.mem_append_right _ h)) (by decide +kernel))
set_option maxRecDepth 20000 in
theorem gX6_brawl_X6_takesSeats : GoodIn wsX6_brawl (wsV RX6 115 RX6 yX6_takesSeats wsX6_takesSeats) := goodIn_app (goodIn_of _ (by decide +kernel)) ggX6_brawl_X6_takesSeats
theorem dX6_brawl_0 : decode cX6_brawl 0 = .ok (.aload_n 0, 1) := by decide +kernel
theorem dX6_brawl_1 : decode cX6_brawl 1 = .ok (.aload_n 0, 1) := by decide +kernel
theorem dX6_brawl_2 : decode cX6_brawl 2 = .ok (.iload_n 1, 1) := by decide +kernel
theorem dX6_brawl_3 : decode cX6_brawl 3 = .ok (.invokevirtual 106, 3) := by decide +kernel
theorem dX6_brawl_6 : decode cX6_brawl 6 = .ok (.ifCond .eq 11, 3) := by decide +kernel
theorem dX6_brawl_9 : decode cX6_brawl 9 = .ok (.aload_n 0, 1) := by decide +kernel
theorem dX6_brawl_10 : decode cX6_brawl 10 = .ok (.iload_n 2, 1) := by decide +kernel
theorem dX6_brawl_11 : decode cX6_brawl 11 = .ok (.invokevirtual 106, 3) := by decide +kernel
theorem dX6_brawl_14 : decode cX6_brawl 14 = .ok (.ifCond .ne 7, 3) := by decide +kernel
theorem dX6_brawl_17 : decode cX6_brawl 17 = .ok (.iconst 1, 1) := by decide +kernel
theorem dX6_brawl_18 : decode cX6_brawl 18 = .ok (.goto 13, 3) := by decide +kernel
theorem dX6_brawl_21 : decode cX6_brawl 21 = .ok (.iload_n 2, 1) := by decide +kernel
theorem dX6_brawl_22 : decode cX6_brawl 22 = .ok (.iload_n 1, 1) := by decide +kernel
theorem dX6_brawl_23 : decode cX6_brawl 23 = .ok (.if_icmp .ge 7, 3) := by decide +kernel
theorem dX6_brawl_26 : decode cX6_brawl 26 = .ok (.iconst 2, 1) := by decide +kernel
theorem dX6_brawl_27 : decode cX6_brawl 27 = .ok (.goto 4, 3) := by decide +kernel
theorem dX6_brawl_30 : decode cX6_brawl 30 = .ok (.iconst 0, 1) := by decide +kernel
theorem dX6_brawl_31 : decode cX6_brawl 31 = .ok (.invokevirtual 77, 3) := by decide +kernel
theorem dX6_brawl_34 : decode cX6_brawl 34 = .ok (.ifCond .eq 5, 3) := by decide +kernel
theorem dX6_brawl_37 : decode cX6_brawl 37 = .ok (.iconst 0, 1) := by decide +kernel
theorem dX6_brawl_38 : decode cX6_brawl 38 = .ok (.ireturn, 1) := by decide +kernel
theorem dX6_brawl_39 : decode cX6_brawl 39 = .ok (.aload_n 0, 1) := by decide +kernel
theorem dX6_brawl_40 : decode cX6_brawl 40 = .ok (.iload_n 1, 1) := by decide +kernel
theorem dX6_brawl_41 : decode cX6_brawl 41 = .ok (.iload_n 2, 1) := by decide +kernel
theorem dX6_brawl_42 : decode cX6_brawl 42 = .ok (.invokevirtual 134, 3) := by decide +kernel
theorem dX6_brawl_45 : decode cX6_brawl 45 = .ok (.ifCond .ne 24, 3) := by decide +kernel
theorem dX6_brawl_48 : decode cX6_brawl 48 = .ok (.aload_n 0, 1) := by decide +kernel
theorem dX6_brawl_49 : decode cX6_brawl 49 = .ok (.iconst 3, 1) := by decide +kernel
theorem dX6_brawl_50 : decode cX6_brawl 50 = .ok (.bipush 8, 2) := by decide +kernel
theorem dX6_brawl_52 : decode cX6_brawl 52 = .ok (.aload_n 0, 1) := by decide +kernel
theorem dX6_brawl_53 : decode cX6_brawl 53 = .ok (.iconst 0, 1) := by decide +kernel
theorem dX6_brawl_54 : decode cX6_brawl 54 = .ok (.aload_n 0, 1) := by decide +kernel
theorem dX6_brawl_55 : decode cX6_brawl 55 = .ok (.getfield 7, 3) := by decide +kernel
theorem dX6_brawl_58 : decode cX6_brawl 58 = .ok (.iconst 0, 1) := by decide +kernel
theorem dX6_brawl_59 : decode cX6_brawl 59 = .ok (.iaload, 1) := by decide +kernel
theorem dX6_brawl_60 : decode cX6_brawl 60 = .ok (.iconst 1, 1) := by decide +kernel
theorem dX6_brawl_61 : decode cX6_brawl 61 = .ok (.isub, 1) := by decide +kernel
theorem dX6_brawl_62 : decode cX6_brawl 62 = .ok (.invokevirtual 134, 3) := by decide +kernel
theorem dX6_brawl_65 : decode cX6_brawl 65 = .ok (.invokevirtual 80, 3) := by decide +kernel
theorem dX6_brawl_68 : decode cX6_brawl 68 = .ok (.ireturn, 1) := by decide +kernel
theorem dX6_brawl_69 : decode cX6_brawl 69 = .ok (.aload_n 0, 1) := by decide +kernel
theorem dX6_brawl_70 : decode cX6_brawl 70 = .ok (.aload_n 0, 1) := by decide +kernel
theorem dX6_brawl_71 : decode cX6_brawl 71 = .ok (.getfield 7, 3) := by decide +kernel
theorem dX6_brawl_74 : decode cX6_brawl 74 = .ok (.invokevirtual 84, 3) := by decide +kernel
theorem dX6_brawl_77 : decode cX6_brawl 77 = .ok (.aload_n 0, 1) := by decide +kernel
theorem dX6_brawl_78 : decode cX6_brawl 78 = .ok (.iload_n 1, 1) := by decide +kernel
theorem dX6_brawl_79 : decode cX6_brawl 79 = .ok (.iload_n 2, 1) := by decide +kernel
theorem dX6_brawl_80 : decode cX6_brawl 80 = .ok (.invokevirtual 137, 3) := by decide +kernel
theorem dX6_brawl_83 : decode cX6_brawl 83 = .ok (.istore_n 3, 1) := by decide +kernel
theorem dX6_brawl_84 : decode cX6_brawl 84 = .ok (.aload_n 0, 1) := by decide +kernel
theorem dX6_brawl_85 : decode cX6_brawl 85 = .ok (.invokevirtual 115, 3) := by decide +kernel
theorem dX6_brawl_88 : decode cX6_brawl 88 = .ok (.aload_n 0, 1) := by decide +kernel
theorem dX6_brawl_89 : decode cX6_brawl 89 = .ok (.getfield 7, 3) := by decide +kernel
theorem dX6_brawl_92 : decode cX6_brawl 92 = .ok (.iconst 4, 1) := by decide +kernel
theorem dX6_brawl_93 : decode cX6_brawl 93 = .ok (.dup2, 1) := by decide +kernel
theorem dX6_brawl_94 : decode cX6_brawl 94 = .ok (.iaload, 1) := by decide +kernel
theorem dX6_brawl_95 : decode cX6_brawl 95 = .ok (.iconst 1, 1) := by decide +kernel
theorem dX6_brawl_96 : decode cX6_brawl 96 = .ok (.iadd, 1) := by decide +kernel
theorem dX6_brawl_97 : decode cX6_brawl 97 = .ok (.iastore, 1) := by decide +kernel
theorem dX6_brawl_98 : decode cX6_brawl 98 = .ok (.iload_n 3, 1) := by decide +kernel
theorem dX6_brawl_99 : decode cX6_brawl 99 = .ok (.ireturn, 1) := by decide +kernel
set_option maxRecDepth 20000 in
theorem ggX6_wouldMove_X6_reseats : GoodIn wsX6_wouldMove wsX6_reseats := goodIn_ca (goodIn_r _ [7, 2, 8, 9, 10, 11, 6, 12, 13, 14, 15, 16, 17, 18, 19, 20, 21, 22, 23, 24, 25, 26, 27, 28, 29, 30, 31, 32, 33, 34, 35, 36, 37, 38, 39, 40, 41, 42, 43, 44, 45, 46, 47, 48, 49, 50, 51, 52, 53, 54, 55, 56, 57, 58, 59, 60, 61, 62, 63, 64, 65, 66, 67] (by decide +kernel) (by decide +kernel)) (goodIn_sub (fun _ h => List.mem_cons_of_mem _ (List.mem_append_right _ h)) (by decide +kernel))
set_option maxRecDepth 20000 in
theorem gX6_wouldMove_X6_reseats : GoodIn wsX6_wouldMove (wsV RX6 137 RX6 yX6_reseats wsX6_reseats) := goodIn_app (goodIn_of _ (by decide +kernel)) ggX6_wouldMove_X6_reseats
theorem dX6_wouldMove_0 : decode cX6_wouldMove 0 = .ok (.aload_n 0, 1) := by decide +kernel
theorem dX6_wouldMove_1 : decode cX6_wouldMove 1 = .ok (.iconst 0, 1) := by decide +kernel
theorem dX6_wouldMove_2 : decode cX6_wouldMove 2 = .ok (.putfield 39, 3) := by decide +kernel
theorem dX6_wouldMove_5 : decode cX6_wouldMove 5 = .ok (.aload_n 0, 1) := by decide +kernel
theorem dX6_wouldMove_6 : decode cX6_wouldMove 6 = .ok (.iconst 0, 1) := by decide +kernel
theorem dX6_wouldMove_7 : decode cX6_wouldMove 7 = .ok (.aload_n 0, 1) := by decide +kernel
theorem dX6_wouldMove_8 : decode cX6_wouldMove 8 = .ok (.getfield 7, 3) := by decide +kernel
theorem dX6_wouldMove_11 : decode cX6_wouldMove 11 = .ok (.iconst 0, 1) := by decide +kernel
theorem dX6_wouldMove_12 : decode cX6_wouldMove 12 = .ok (.iaload, 1) := by decide +kernel
theorem dX6_wouldMove_13 : decode cX6_wouldMove 13 = .ok (.iconst 1, 1) := by decide +kernel
theorem dX6_wouldMove_14 : decode cX6_wouldMove 14 = .ok (.isub, 1) := by decide +kernel
theorem dX6_wouldMove_15 : decode cX6_wouldMove 15 = .ok (.invokevirtual 137, 3) := by decide +kernel
theorem dX6_wouldMove_18 : decode cX6_wouldMove 18 = .ok (.ireturn, 1) := by decide +kernel
set_option maxRecDepth 20000 in
theorem ggX6_canSwap_X6_by : GoodIn wsX6_canSwap wsX6_by := goodIn_ca (goodIn_r _ [5, 6, 19, 20, 21, 22, 23, 24, 25, 26, 27, 28, 29, 30, 31, 32, 33, 34, 35, 36, 37, 38] (by decide +kernel) (by decide +kernel)) (goodIn_sub (fun _ h => List.mem_cons_of_mem _ (List.mem_append_right _ h)) (by decide +kernel))
set_option maxRecDepth 20000 in
theorem gX6_canSwap_X6_by : GoodIn wsX6_canSwap (wsV RX6 66 RX6 yX6_by wsX6_by) := goodIn_app (goodIn_of _ (by decide +kernel)) ggX6_canSwap_X6_by
set_option maxRecDepth 20000 in
theorem ggX6_canSwap_X6_maySit : GoodIn wsX6_canSwap wsX6_maySit := goodIn_ca (goodIn_r _ [10, 11, 12, 13, 4, 14, 1, 2, 3, 5, 6, 15, 16, 17, 18, 19, 20, 21, 22, 23, 24, 25, 26, 27, 28, 29, 30, 31, 32, 33, 34, 35, 36, 37, 38] (by decide +kernel) (by decide +kernel)) (goodIn_sub (fun _ h => List.mem_cons_of_mem _ (List.mem_append_right _ h)) (by decide +kernel))
set_option maxRecDepth 20000 in
theorem gX6_canSwap_X6_maySit : GoodIn wsX6_canSwap (wsV RX6 109 RX6 yX6_maySit wsX6_maySit) := goodIn_app (goodIn_of _ (by decide +kernel)) ggX6_canSwap_X6_maySit
theorem dX6_canSwap_0 : decode cX6_canSwap 0 = .ok (.aload_n 0, 1) := by decide +kernel
theorem dX6_canSwap_1 : decode cX6_canSwap 1 = .ok (.iload_n 1, 1) := by decide +kernel
theorem dX6_canSwap_2 : decode cX6_canSwap 2 = .ok (.iconst 2, 1) := by decide +kernel
theorem dX6_canSwap_3 : decode cX6_canSwap 3 = .ok (.invokevirtual 66, 3) := by decide +kernel
theorem dX6_canSwap_6 : decode cX6_canSwap 6 = .ok (.ifCond .lt 44, 3) := by decide +kernel
theorem dX6_canSwap_9 : decode cX6_canSwap 9 = .ok (.aload_n 0, 1) := by decide +kernel
theorem dX6_canSwap_10 : decode cX6_canSwap 10 = .ok (.iload_n 2, 1) := by decide +kernel
theorem dX6_canSwap_11 : decode cX6_canSwap 11 = .ok (.iconst 2, 1) := by decide +kernel
theorem dX6_canSwap_12 : decode cX6_canSwap 12 = .ok (.invokevirtual 66, 3) := by decide +kernel
theorem dX6_canSwap_15 : decode cX6_canSwap 15 = .ok (.ifCond .lt 35, 3) := by decide +kernel
theorem dX6_canSwap_18 : decode cX6_canSwap 18 = .ok (.aload_n 0, 1) := by decide +kernel
theorem dX6_canSwap_19 : decode cX6_canSwap 19 = .ok (.iload_n 1, 1) := by decide +kernel
theorem dX6_canSwap_20 : decode cX6_canSwap 20 = .ok (.aload_n 0, 1) := by decide +kernel
theorem dX6_canSwap_21 : decode cX6_canSwap 21 = .ok (.iload_n 2, 1) := by decide +kernel
theorem dX6_canSwap_22 : decode cX6_canSwap 22 = .ok (.iconst 2, 1) := by decide +kernel
theorem dX6_canSwap_23 : decode cX6_canSwap 23 = .ok (.invokevirtual 66, 3) := by decide +kernel
theorem dX6_canSwap_26 : decode cX6_canSwap 26 = .ok (.invokevirtual 109, 3) := by decide +kernel
theorem dX6_canSwap_29 : decode cX6_canSwap 29 = .ok (.ifCond .eq 21, 3) := by decide +kernel
theorem dX6_canSwap_32 : decode cX6_canSwap 32 = .ok (.aload_n 0, 1) := by decide +kernel
theorem dX6_canSwap_33 : decode cX6_canSwap 33 = .ok (.iload_n 2, 1) := by decide +kernel
theorem dX6_canSwap_34 : decode cX6_canSwap 34 = .ok (.aload_n 0, 1) := by decide +kernel
theorem dX6_canSwap_35 : decode cX6_canSwap 35 = .ok (.iload_n 1, 1) := by decide +kernel
theorem dX6_canSwap_36 : decode cX6_canSwap 36 = .ok (.iconst 2, 1) := by decide +kernel
theorem dX6_canSwap_37 : decode cX6_canSwap 37 = .ok (.invokevirtual 66, 3) := by decide +kernel
theorem dX6_canSwap_40 : decode cX6_canSwap 40 = .ok (.invokevirtual 109, 3) := by decide +kernel
theorem dX6_canSwap_43 : decode cX6_canSwap 43 = .ok (.ifCond .eq 7, 3) := by decide +kernel
theorem dX6_canSwap_46 : decode cX6_canSwap 46 = .ok (.iconst 1, 1) := by decide +kernel
theorem dX6_canSwap_47 : decode cX6_canSwap 47 = .ok (.goto 4, 3) := by decide +kernel
theorem dX6_canSwap_50 : decode cX6_canSwap 50 = .ok (.iconst 0, 1) := by decide +kernel
theorem dX6_canSwap_51 : decode cX6_canSwap 51 = .ok (.ireturn, 1) := by decide +kernel
set_option maxRecDepth 20000 in
theorem ggX6_swaps_X6_laysSeats : GoodIn wsX6_swaps wsX6_laysSeats := goodIn_ca (goodIn_r _ [6, 7, 1, 8, 9, 10, 5, 11, 12, 13, 14, 15, 16, 17, 18, 19, 20, 21, 22, 23, 24, 25, 26, 27, 28, 29, 30, 31] (by decide +kernel) (by decide +kernel)) (goodIn_sub (fun _ h => List.mem_cons_of_mem _ (List.mem_append_right _ h)) (by decide +kernel))
set_option maxRecDepth 20000 in
theorem gX6_swaps_X6_laysSeats : GoodIn wsX6_swaps (wsV RX6 112 RX6 yX6_laysSeats wsX6_laysSeats) := goodIn_app (goodIn_of _ (by decide +kernel)) ggX6_swaps_X6_laysSeats
set_option maxRecDepth 20000 in
theorem ggX6_swaps_X6_by : GoodIn wsX6_swaps wsX6_by := goodIn_ca (goodIn_r _ [11, 7, 12, 13, 14, 15, 16, 17, 18, 19, 20, 21, 22, 23, 24, 25, 26, 27, 28, 29, 30, 31] (by decide +kernel) (by decide +kernel)) (goodIn_sub (fun _ h => List.mem_cons_of_mem _ (List.mem_append_right _ h)) (by decide +kernel))
set_option maxRecDepth 20000 in
theorem gX6_swaps_X6_by : GoodIn wsX6_swaps (wsV RX6 66 RX6 yX6_by wsX6_by) := goodIn_app (goodIn_of _ (by decide +kernel)) ggX6_swaps_X6_by
theorem dX6_swaps_0 : decode cX6_swaps 0 = .ok (.aload_n 0, 1) := by decide +kernel
theorem dX6_swaps_1 : decode cX6_swaps 1 = .ok (.invokevirtual 112, 3) := by decide +kernel
theorem dX6_swaps_4 : decode cX6_swaps 4 = .ok (.aload_n 0, 1) := by decide +kernel
theorem dX6_swaps_5 : decode cX6_swaps 5 = .ok (.getfield 33, 3) := by decide +kernel
theorem dX6_swaps_8 : decode cX6_swaps 8 = .ok (.iload_n 1, 1) := by decide +kernel
theorem dX6_swaps_9 : decode cX6_swaps 9 = .ok (.aload_n 0, 1) := by decide +kernel
theorem dX6_swaps_10 : decode cX6_swaps 10 = .ok (.iload_n 2, 1) := by decide +kernel
theorem dX6_swaps_11 : decode cX6_swaps 11 = .ok (.iconst 2, 1) := by decide +kernel
theorem dX6_swaps_12 : decode cX6_swaps 12 = .ok (.invokevirtual 66, 3) := by decide +kernel
theorem dX6_swaps_15 : decode cX6_swaps 15 = .ok (.iastore, 1) := by decide +kernel
theorem dX6_swaps_16 : decode cX6_swaps 16 = .ok (.aload_n 0, 1) := by decide +kernel
theorem dX6_swaps_17 : decode cX6_swaps 17 = .ok (.getfield 33, 3) := by decide +kernel
theorem dX6_swaps_20 : decode cX6_swaps 20 = .ok (.iload_n 2, 1) := by decide +kernel
theorem dX6_swaps_21 : decode cX6_swaps 21 = .ok (.aload_n 0, 1) := by decide +kernel
theorem dX6_swaps_22 : decode cX6_swaps 22 = .ok (.iload_n 1, 1) := by decide +kernel
theorem dX6_swaps_23 : decode cX6_swaps 23 = .ok (.iconst 2, 1) := by decide +kernel
theorem dX6_swaps_24 : decode cX6_swaps 24 = .ok (.invokevirtual 66, 3) := by decide +kernel
theorem dX6_swaps_27 : decode cX6_swaps 27 = .ok (.iastore, 1) := by decide +kernel
theorem dX6_swaps_28 : decode cX6_swaps 28 = .ok (.return_, 1) := by decide +kernel
set_option maxRecDepth 20000 in
theorem ggX6_swap_X6_isSitter : GoodIn wsX6_swap wsX6_isSitter := goodIn_ca (goodIn_r _ [6, 1, 7, 8, 5, 9, 77, 78, 79, 80, 81, 82, 83, 84, 85, 86, 87, 88, 89, 90, 91, 92, 93, 94, 95, 96] (by decide +kernel) (by decide +kernel)) (goodIn_sub (fun _ h => List.mem_cons_of_mem _ (List.mem_append_right _ h)) (by decide +kernel))
set_option maxRecDepth 20000 in
theorem gX6_swap_X6_isSitter : GoodIn wsX6_swap (wsV RX6 103 RX6 yX6_isSitter wsX6_isSitter) := goodIn_app (goodIn_of _ (by decide +kernel)) ggX6_swap_X6_isSitter
set_option maxRecDepth 20000 in
theorem ggX6_swap_X6_fails : GoodIn wsX6_swap wsX6_fails := goodIn_r _ [13, 14, 15, 77, 78, 79, 80, 81, 82, 83, 84, 85, 86, 87, 88, 89, 90, 91, 92, 93, 94, 95, 96] (by decide +kernel) (by decide +kernel)
set_option maxRecDepth 20000 in
theorem gX6_swap_X6_fails : GoodIn wsX6_swap (wsV RX6 77 RX6 yX6_fails wsX6_fails) := goodIn_app (goodIn_of _ (by decide +kernel)) ggX6_swap_X6_fails
set_option maxRecDepth 20000 in
theorem ggX6_swap_X6_by : GoodIn wsX6_swap wsX6_by := goodIn_ca (goodIn_r _ [19, 1, 77, 78, 79, 80, 81, 82, 83, 84, 85, 86, 87, 88, 89, 90, 91, 92, 93, 94, 95, 96] (by decide +kernel) (by decide +kernel)) (goodIn_sub (fun _ h => List.mem_cons_of_mem _ (List.mem_append_right _ h)) (by decide +kernel))
set_option maxRecDepth 20000 in
theorem gX6_swap_X6_by : GoodIn wsX6_swap (wsV RX6 66 RX6 yX6_by wsX6_by) := goodIn_app (goodIn_of _ (by decide +kernel)) ggX6_swap_X6_by
set_option maxRecDepth 20000 in
theorem ggX6_swap_X6_refuses : GoodIn wsX6_swap wsX6_refuses := goodIn_r _ [23, 14, 15, 24, 25, 77, 78, 79, 80, 81, 82, 83, 84, 85, 86, 87, 88, 89, 90, 91, 92, 93, 94, 95, 96] (by decide +kernel) (by decide +kernel)
set_option maxRecDepth 20000 in
theorem gX6_swap_X6_refuses : GoodIn wsX6_swap (wsV RX6 80 RX6 yX6_refuses wsX6_refuses) := goodIn_app (goodIn_of _ (by decide +kernel)) ggX6_swap_X6_refuses
set_option maxRecDepth 20000 in
theorem ggX6_swap_X6_maySit : GoodIn wsX6_swap wsX6_maySit := goodIn_ca (goodIn_r _ [29, 30, 31, 32, 5, 33, 16, 17, 18, 19, 1, 34, 35, 36, 37, 77, 78, 79, 80, 81, 82, 83, 84, 85, 86, 87, 88, 89, 90, 91, 92, 93, 94, 95, 96] (by decide +kernel) (by decide +kernel)) (goodIn_sub (fun _ h => List.mem_cons_of_mem _ (List.mem_append_right _ h)) (by decide +kernel))
set_option maxRecDepth 20000 in
theorem gX6_swap_X6_maySit : GoodIn wsX6_swap (wsV RX6 109 RX6 yX6_maySit wsX6_maySit) := goodIn_app (goodIn_of _ (by decide +kernel)) ggX6_swap_X6_maySit
set_option maxRecDepth 20000 in
theorem ggX6_swap_X6_keeps : GoodIn wsX6_swap wsX6_keeps := goodIn_ca (goodIn_r _ [41, 14, 42, 43, 44, 45, 46, 5, 47, 77, 78, 79, 80, 81, 82, 83, 84, 85, 86, 87, 88, 89, 90, 91, 92, 93, 94, 95, 96] (by decide +kernel) (by decide +kernel)) (goodIn_sub (fun _ h => List.mem_cons_of_mem _ (List.mem_append_right _ h)) (by decide +kernel))
set_option maxRecDepth 20000 in
theorem gX6_swap_X6_keeps : GoodIn wsX6_swap (wsV RX6 84 RX6 yX6_keeps wsX6_keeps) := goodIn_app (goodIn_of _ (by decide +kernel)) ggX6_swap_X6_keeps
set_option maxRecDepth 20000 in
theorem ggX6_swap_X6_swaps : GoodIn wsX6_swap wsX6_swaps := goodIn_ca (goodIn_r _ [51, 52, 53, 54, 55, 5, 56, 1, 16, 17, 18, 19, 77, 78, 79, 80, 81, 82, 83, 84, 85, 86, 87, 88, 89, 90, 91, 92, 93, 94, 95, 96] (by decide +kernel) (by decide +kernel)) (goodIn_sub (fun _ h => List.mem_cons_of_mem _ (List.mem_append_right _ h)) (by decide +kernel))
set_option maxRecDepth 20000 in
theorem gX6_swap_X6_swaps : GoodIn wsX6_swap (wsV RX6 140 RX6 yX6_swaps wsX6_swaps) := goodIn_app (goodIn_of _ (by decide +kernel)) ggX6_swap_X6_swaps
set_option maxRecDepth 20000 in
theorem ggX6_swap_X6_takesSeats : GoodIn wsX6_swap wsX6_takesSeats := goodIn_ca (goodIn_r _ [60, 1, 52, 61, 62, 63, 5, 64, 77, 78, 79, 80, 81, 82, 83, 84, 85, 86, 87, 88, 89, 90, 91, 92, 93, 94, 95, 96] (by decide +kernel) (by decide +kernel)) (goodIn_sub (fun _ h => List.mem_cons_of_mem _ (List.mem_append_right _ h)) (by decide +kernel))
set_option maxRecDepth 20000 in
theorem gX6_swap_X6_takesSeats : GoodIn wsX6_swap (wsV RX6 115 RX6 yX6_takesSeats wsX6_takesSeats) := goodIn_app (goodIn_of _ (by decide +kernel)) ggX6_swap_X6_takesSeats
set_option maxRecDepth 20000 in
theorem ggX6_swap_X6_clashesTried : GoodIn wsX6_swap wsX6_clashesTried := goodIn_ca (goodIn_r _ [68, 1, 69, 70, 71, 5, 72, 73, 74, 75, 76, 52, 16, 17, 18, 19, 34, 35, 36, 37, 77, 78, 79, 80, 81, 82, 83, 84, 85, 86, 87, 88, 89, 90, 91, 92, 93, 94, 95, 96] (by decide +kernel) (by decide +kernel)) (goodIn_sub (fun _ h => List.mem_cons_of_mem _ (List.mem_append_right _ h)) (by decide +kernel))
set_option maxRecDepth 20000 in
theorem gX6_swap_X6_clashesTried : GoodIn wsX6_swap (wsV RX6 118 RX6 yX6_clashesTried wsX6_clashesTried) := goodIn_app (goodIn_of _ (by decide +kernel)) ggX6_swap_X6_clashesTried
theorem dX6_swap_0 : decode cX6_swap 0 = .ok (.aload_n 0, 1) := by decide +kernel
theorem dX6_swap_1 : decode cX6_swap 1 = .ok (.aload_n 0, 1) := by decide +kernel
theorem dX6_swap_2 : decode cX6_swap 2 = .ok (.iload_n 1, 1) := by decide +kernel
theorem dX6_swap_3 : decode cX6_swap 3 = .ok (.invokevirtual 103, 3) := by decide +kernel
theorem dX6_swap_6 : decode cX6_swap 6 = .ok (.ifCond .eq 11, 3) := by decide +kernel
theorem dX6_swap_9 : decode cX6_swap 9 = .ok (.aload_n 0, 1) := by decide +kernel
theorem dX6_swap_10 : decode cX6_swap 10 = .ok (.iload_n 2, 1) := by decide +kernel
theorem dX6_swap_11 : decode cX6_swap 11 = .ok (.invokevirtual 103, 3) := by decide +kernel
theorem dX6_swap_14 : decode cX6_swap 14 = .ok (.ifCond .ne 7, 3) := by decide +kernel
theorem dX6_swap_17 : decode cX6_swap 17 = .ok (.iconst 1, 1) := by decide +kernel
theorem dX6_swap_18 : decode cX6_swap 18 = .ok (.goto 13, 3) := by decide +kernel
theorem dX6_swap_21 : decode cX6_swap 21 = .ok (.iload_n 1, 1) := by decide +kernel
theorem dX6_swap_22 : decode cX6_swap 22 = .ok (.iload_n 2, 1) := by decide +kernel
theorem dX6_swap_23 : decode cX6_swap 23 = .ok (.if_icmp .ne 7, 3) := by decide +kernel
theorem dX6_swap_26 : decode cX6_swap 26 = .ok (.iconst 2, 1) := by decide +kernel
theorem dX6_swap_27 : decode cX6_swap 27 = .ok (.goto 4, 3) := by decide +kernel
theorem dX6_swap_30 : decode cX6_swap 30 = .ok (.iconst 0, 1) := by decide +kernel
theorem dX6_swap_31 : decode cX6_swap 31 = .ok (.invokevirtual 77, 3) := by decide +kernel
theorem dX6_swap_34 : decode cX6_swap 34 = .ok (.ifCond .eq 5, 3) := by decide +kernel
theorem dX6_swap_37 : decode cX6_swap 37 = .ok (.iconst 0, 1) := by decide +kernel
theorem dX6_swap_38 : decode cX6_swap 38 = .ok (.ireturn, 1) := by decide +kernel
theorem dX6_swap_39 : decode cX6_swap 39 = .ok (.aload_n 0, 1) := by decide +kernel
theorem dX6_swap_40 : decode cX6_swap 40 = .ok (.iload_n 1, 1) := by decide +kernel
theorem dX6_swap_41 : decode cX6_swap 41 = .ok (.iconst 2, 1) := by decide +kernel
theorem dX6_swap_42 : decode cX6_swap 42 = .ok (.invokevirtual 66, 3) := by decide +kernel
theorem dX6_swap_45 : decode cX6_swap 45 = .ok (.ifCond .ge 11, 3) := by decide +kernel
theorem dX6_swap_48 : decode cX6_swap 48 = .ok (.aload_n 0, 1) := by decide +kernel
theorem dX6_swap_49 : decode cX6_swap 49 = .ok (.iconst 3, 1) := by decide +kernel
theorem dX6_swap_50 : decode cX6_swap 50 = .ok (.iconst 4, 1) := by decide +kernel
theorem dX6_swap_51 : decode cX6_swap 51 = .ok (.iload_n 1, 1) := by decide +kernel
theorem dX6_swap_52 : decode cX6_swap 52 = .ok (.invokevirtual 80, 3) := by decide +kernel
theorem dX6_swap_55 : decode cX6_swap 55 = .ok (.ireturn, 1) := by decide +kernel
theorem dX6_swap_56 : decode cX6_swap 56 = .ok (.aload_n 0, 1) := by decide +kernel
theorem dX6_swap_57 : decode cX6_swap 57 = .ok (.iload_n 2, 1) := by decide +kernel
theorem dX6_swap_58 : decode cX6_swap 58 = .ok (.iconst 2, 1) := by decide +kernel
theorem dX6_swap_59 : decode cX6_swap 59 = .ok (.invokevirtual 66, 3) := by decide +kernel
theorem dX6_swap_62 : decode cX6_swap 62 = .ok (.ifCond .ge 11, 3) := by decide +kernel
theorem dX6_swap_65 : decode cX6_swap 65 = .ok (.aload_n 0, 1) := by decide +kernel
theorem dX6_swap_66 : decode cX6_swap 66 = .ok (.iconst 3, 1) := by decide +kernel
theorem dX6_swap_67 : decode cX6_swap 67 = .ok (.iconst 4, 1) := by decide +kernel
theorem dX6_swap_68 : decode cX6_swap 68 = .ok (.iload_n 2, 1) := by decide +kernel
theorem dX6_swap_69 : decode cX6_swap 69 = .ok (.invokevirtual 80, 3) := by decide +kernel
theorem dX6_swap_72 : decode cX6_swap 72 = .ok (.ireturn, 1) := by decide +kernel
theorem dX6_swap_73 : decode cX6_swap 73 = .ok (.aload_n 0, 1) := by decide +kernel
theorem dX6_swap_74 : decode cX6_swap 74 = .ok (.iload_n 1, 1) := by decide +kernel
theorem dX6_swap_75 : decode cX6_swap 75 = .ok (.aload_n 0, 1) := by decide +kernel
theorem dX6_swap_76 : decode cX6_swap 76 = .ok (.iload_n 2, 1) := by decide +kernel
theorem dX6_swap_77 : decode cX6_swap 77 = .ok (.iconst 2, 1) := by decide +kernel
theorem dX6_swap_78 : decode cX6_swap 78 = .ok (.invokevirtual 66, 3) := by decide +kernel
theorem dX6_swap_81 : decode cX6_swap 81 = .ok (.invokevirtual 109, 3) := by decide +kernel
theorem dX6_swap_84 : decode cX6_swap 84 = .ok (.ifCond .ne 16, 3) := by decide +kernel
theorem dX6_swap_87 : decode cX6_swap 87 = .ok (.aload_n 0, 1) := by decide +kernel
theorem dX6_swap_88 : decode cX6_swap 88 = .ok (.iconst 3, 1) := by decide +kernel
theorem dX6_swap_89 : decode cX6_swap 89 = .ok (.iconst 3, 1) := by decide +kernel
theorem dX6_swap_90 : decode cX6_swap 90 = .ok (.aload_n 0, 1) := by decide +kernel
theorem dX6_swap_91 : decode cX6_swap 91 = .ok (.iload_n 2, 1) := by decide +kernel
theorem dX6_swap_92 : decode cX6_swap 92 = .ok (.iconst 2, 1) := by decide +kernel
theorem dX6_swap_93 : decode cX6_swap 93 = .ok (.invokevirtual 66, 3) := by decide +kernel
theorem dX6_swap_96 : decode cX6_swap 96 = .ok (.invokevirtual 80, 3) := by decide +kernel
theorem dX6_swap_99 : decode cX6_swap 99 = .ok (.ireturn, 1) := by decide +kernel
theorem dX6_swap_100 : decode cX6_swap 100 = .ok (.aload_n 0, 1) := by decide +kernel
theorem dX6_swap_101 : decode cX6_swap 101 = .ok (.iload_n 2, 1) := by decide +kernel
theorem dX6_swap_102 : decode cX6_swap 102 = .ok (.aload_n 0, 1) := by decide +kernel
theorem dX6_swap_103 : decode cX6_swap 103 = .ok (.iload_n 1, 1) := by decide +kernel
theorem dX6_swap_104 : decode cX6_swap 104 = .ok (.iconst 2, 1) := by decide +kernel
theorem dX6_swap_105 : decode cX6_swap 105 = .ok (.invokevirtual 66, 3) := by decide +kernel
theorem dX6_swap_108 : decode cX6_swap 108 = .ok (.invokevirtual 109, 3) := by decide +kernel
theorem dX6_swap_111 : decode cX6_swap 111 = .ok (.ifCond .ne 16, 3) := by decide +kernel
theorem dX6_swap_114 : decode cX6_swap 114 = .ok (.aload_n 0, 1) := by decide +kernel
theorem dX6_swap_115 : decode cX6_swap 115 = .ok (.iconst 3, 1) := by decide +kernel
theorem dX6_swap_116 : decode cX6_swap 116 = .ok (.iconst 3, 1) := by decide +kernel
theorem dX6_swap_117 : decode cX6_swap 117 = .ok (.aload_n 0, 1) := by decide +kernel
theorem dX6_swap_118 : decode cX6_swap 118 = .ok (.iload_n 1, 1) := by decide +kernel
theorem dX6_swap_119 : decode cX6_swap 119 = .ok (.iconst 2, 1) := by decide +kernel
theorem dX6_swap_120 : decode cX6_swap 120 = .ok (.invokevirtual 66, 3) := by decide +kernel
theorem dX6_swap_123 : decode cX6_swap 123 = .ok (.invokevirtual 80, 3) := by decide +kernel
theorem dX6_swap_126 : decode cX6_swap 126 = .ok (.ireturn, 1) := by decide +kernel
theorem dX6_swap_127 : decode cX6_swap 127 = .ok (.aload_n 0, 1) := by decide +kernel
theorem dX6_swap_128 : decode cX6_swap 128 = .ok (.aload_n 0, 1) := by decide +kernel
theorem dX6_swap_129 : decode cX6_swap 129 = .ok (.getfield 7, 3) := by decide +kernel
theorem dX6_swap_132 : decode cX6_swap 132 = .ok (.invokevirtual 84, 3) := by decide +kernel
theorem dX6_swap_135 : decode cX6_swap 135 = .ok (.aload_n 0, 1) := by decide +kernel
theorem dX6_swap_136 : decode cX6_swap 136 = .ok (.iload_n 1, 1) := by decide +kernel
theorem dX6_swap_137 : decode cX6_swap 137 = .ok (.iload_n 2, 1) := by decide +kernel
theorem dX6_swap_138 : decode cX6_swap 138 = .ok (.invokevirtual 140, 3) := by decide +kernel
theorem dX6_swap_141 : decode cX6_swap 141 = .ok (.aload_n 0, 1) := by decide +kernel
theorem dX6_swap_142 : decode cX6_swap 142 = .ok (.invokevirtual 115, 3) := by decide +kernel
theorem dX6_swap_145 : decode cX6_swap 145 = .ok (.aload_n 0, 1) := by decide +kernel
theorem dX6_swap_146 : decode cX6_swap 146 = .ok (.invokevirtual 118, 3) := by decide +kernel
theorem dX6_swap_149 : decode cX6_swap 149 = .ok (.ireturn, 1) := by decide +kernel
set_option maxRecDepth 20000 in
theorem ggX6_bestSwap_X6_laysSeats : GoodIn wsX6_bestSwap wsX6_laysSeats := goodIn_ca (goodIn_r _ [6, 1, 7, 8, 9, 10, 5, 11, 50, 51, 52, 53, 54, 55, 56, 57, 58, 59, 60, 61, 62, 63, 64, 65, 66, 67, 68, 69] (by decide +kernel) (by decide +kernel)) (goodIn_sub (fun _ h => List.mem_cons_of_mem _ (List.mem_append_right _ h)) (by decide +kernel))
set_option maxRecDepth 20000 in
theorem gX6_bestSwap_X6_laysSeats : GoodIn wsX6_bestSwap (wsV RX6 112 RX6 yX6_laysSeats wsX6_laysSeats) := goodIn_app (goodIn_of _ (by decide +kernel)) ggX6_bestSwap_X6_laysSeats
set_option maxRecDepth 20000 in
theorem ggX6_bestSwap_X6_clashesTried : GoodIn wsX6_bestSwap wsX6_clashesTried := goodIn_ca (goodIn_r _ [15, 1, 16, 17, 18, 5, 19, 20, 21, 22, 23, 7, 8, 9, 10, 11, 24, 25, 26, 27, 50, 51, 52, 53, 54, 55, 56, 57, 58, 59, 60, 61, 62, 63, 64, 65, 66, 67, 68, 69] (by decide +kernel) (by decide +kernel)) (goodIn_sub (fun _ h => List.mem_cons_of_mem _ (List.mem_append_right _ h)) (by decide +kernel))
set_option maxRecDepth 20000 in
theorem gX6_bestSwap_X6_clashesTried : GoodIn wsX6_bestSwap (wsV RX6 118 RX6 yX6_clashesTried wsX6_clashesTried) := goodIn_app (goodIn_of _ (by decide +kernel)) ggX6_bestSwap_X6_clashesTried
set_option maxRecDepth 20000 in
theorem ggX6_bestSwap_X6_canSwap : GoodIn wsX6_bestSwap wsX6_canSwap := goodIn_ca (goodIn_r _ [31, 8, 9, 10, 5, 11, 1, 32, 33, 34, 35, 36, 37, 38, 39, 24, 25, 26, 27, 50, 51, 52, 53, 54, 55, 56, 57, 58, 59, 60, 61, 62, 63, 64, 65, 66, 67, 68, 69] (by decide +kernel) (by decide +kernel)) (goodIn_sub (fun _ h => List.mem_cons_of_mem _ (List.mem_append_right _ h)) (by decide +kernel))
set_option maxRecDepth 20000 in
theorem gX6_bestSwap_X6_canSwap : GoodIn wsX6_bestSwap (wsV RX6 144 RX6 yX6_canSwap wsX6_canSwap) := goodIn_app (goodIn_of _ (by decide +kernel)) ggX6_bestSwap_X6_canSwap
set_option maxRecDepth 20000 in
theorem ggX6_bestSwap_X6_swaps : GoodIn wsX6_bestSwap wsX6_swaps := goodIn_ca (goodIn_r _ [43, 7, 2, 3, 4, 5, 6, 1, 8, 9, 10, 11, 50, 51, 52, 53, 54, 55, 56, 57, 58, 59, 60, 61, 62, 63, 64, 65, 66, 67, 68, 69] (by decide +kernel) (by decide +kernel)) (goodIn_sub (fun _ h => List.mem_cons_of_mem _ (List.mem_append_right _ h)) (by decide +kernel))
set_option maxRecDepth 20000 in
theorem gX6_bestSwap_X6_swaps : GoodIn wsX6_bestSwap (wsV RX6 140 RX6 yX6_swaps wsX6_swaps) := goodIn_app (goodIn_of _ (by decide +kernel)) ggX6_bestSwap_X6_swaps
set_option maxRecDepth 20000 in
theorem ggX6_bestSwap_X6_fails : GoodIn wsX6_bestSwap wsX6_fails := goodIn_r _ [47, 48, 49, 50, 51, 52, 53, 54, 55, 56, 57, 58, 59, 60, 61, 62, 63, 64, 65, 66, 67, 68, 69] (by decide +kernel) (by decide +kernel)
set_option maxRecDepth 20000 in
theorem gX6_bestSwap_X6_fails : GoodIn wsX6_bestSwap (wsV RX6 77 RX6 yX6_fails wsX6_fails) := goodIn_app (goodIn_of _ (by decide +kernel)) ggX6_bestSwap_X6_fails
theorem dX6_bestSwap_0 : decode cX6_bestSwap 0 = .ok (.aload_n 0, 1) := by decide +kernel
theorem dX6_bestSwap_1 : decode cX6_bestSwap 1 = .ok (.invokevirtual 112, 3) := by decide +kernel
theorem dX6_bestSwap_4 : decode cX6_bestSwap 4 = .ok (.aload_n 0, 1) := by decide +kernel
theorem dX6_bestSwap_5 : decode cX6_bestSwap 5 = .ok (.invokevirtual 118, 3) := by decide +kernel
theorem dX6_bestSwap_8 : decode cX6_bestSwap 8 = .ok (.istore_n 2, 1) := by decide +kernel
theorem dX6_bestSwap_9 : decode cX6_bestSwap 9 = .ok (.iconst (-1), 1) := by decide +kernel
theorem dX6_bestSwap_10 : decode cX6_bestSwap 10 = .ok (.istore_n 3, 1) := by decide +kernel
theorem dX6_bestSwap_11 : decode cX6_bestSwap 11 = .ok (.iconst (-1), 1) := by decide +kernel
theorem dX6_bestSwap_12 : decode cX6_bestSwap 12 = .ok (.istore 4, 2) := by decide +kernel
theorem dX6_bestSwap_14 : decode cX6_bestSwap 14 = .ok (.iconst 0, 1) := by decide +kernel
theorem dX6_bestSwap_15 : decode cX6_bestSwap 15 = .ok (.istore 5, 2) := by decide +kernel
theorem dX6_bestSwap_17 : decode cX6_bestSwap 17 = .ok (.iload 5, 2) := by decide +kernel
theorem dX6_bestSwap_19 : decode cX6_bestSwap 19 = .ok (.aload_n 0, 1) := by decide +kernel
theorem dX6_bestSwap_20 : decode cX6_bestSwap 20 = .ok (.getfield 7, 3) := by decide +kernel
theorem dX6_bestSwap_23 : decode cX6_bestSwap 23 = .ok (.iconst 1, 1) := by decide +kernel
theorem dX6_bestSwap_24 : decode cX6_bestSwap 24 = .ok (.iaload, 1) := by decide +kernel
theorem dX6_bestSwap_25 : decode cX6_bestSwap 25 = .ok (.if_icmp .ge 79, 3) := by decide +kernel
theorem dX6_bestSwap_28 : decode cX6_bestSwap 28 = .ok (.iload 5, 2) := by decide +kernel
theorem dX6_bestSwap_30 : decode cX6_bestSwap 30 = .ok (.iconst 1, 1) := by decide +kernel
theorem dX6_bestSwap_31 : decode cX6_bestSwap 31 = .ok (.iadd, 1) := by decide +kernel
theorem dX6_bestSwap_32 : decode cX6_bestSwap 32 = .ok (.istore 6, 2) := by decide +kernel
theorem dX6_bestSwap_34 : decode cX6_bestSwap 34 = .ok (.iload 6, 2) := by decide +kernel
theorem dX6_bestSwap_36 : decode cX6_bestSwap 36 = .ok (.aload_n 0, 1) := by decide +kernel
theorem dX6_bestSwap_37 : decode cX6_bestSwap 37 = .ok (.getfield 7, 3) := by decide +kernel
theorem dX6_bestSwap_40 : decode cX6_bestSwap 40 = .ok (.iconst 1, 1) := by decide +kernel
theorem dX6_bestSwap_41 : decode cX6_bestSwap 41 = .ok (.iaload, 1) := by decide +kernel
theorem dX6_bestSwap_42 : decode cX6_bestSwap 42 = .ok (.if_icmp .ge 56, 3) := by decide +kernel
theorem dX6_bestSwap_45 : decode cX6_bestSwap 45 = .ok (.aload_n 0, 1) := by decide +kernel
theorem dX6_bestSwap_46 : decode cX6_bestSwap 46 = .ok (.iload 5, 2) := by decide +kernel
theorem dX6_bestSwap_48 : decode cX6_bestSwap 48 = .ok (.iload 6, 2) := by decide +kernel
theorem dX6_bestSwap_50 : decode cX6_bestSwap 50 = .ok (.invokevirtual 144, 3) := by decide +kernel
theorem dX6_bestSwap_53 : decode cX6_bestSwap 53 = .ok (.ifCond .ne 6, 3) := by decide +kernel
theorem dX6_bestSwap_56 : decode cX6_bestSwap 56 = .ok (.goto 36, 3) := by decide +kernel
theorem dX6_bestSwap_59 : decode cX6_bestSwap 59 = .ok (.aload_n 0, 1) := by decide +kernel
theorem dX6_bestSwap_60 : decode cX6_bestSwap 60 = .ok (.iload 5, 2) := by decide +kernel
theorem dX6_bestSwap_62 : decode cX6_bestSwap 62 = .ok (.iload 6, 2) := by decide +kernel
theorem dX6_bestSwap_64 : decode cX6_bestSwap 64 = .ok (.invokevirtual 140, 3) := by decide +kernel
theorem dX6_bestSwap_67 : decode cX6_bestSwap 67 = .ok (.aload_n 0, 1) := by decide +kernel
theorem dX6_bestSwap_68 : decode cX6_bestSwap 68 = .ok (.invokevirtual 118, 3) := by decide +kernel
theorem dX6_bestSwap_71 : decode cX6_bestSwap 71 = .ok (.istore 7, 2) := by decide +kernel
theorem dX6_bestSwap_73 : decode cX6_bestSwap 73 = .ok (.iload 7, 2) := by decide +kernel
theorem dX6_bestSwap_75 : decode cX6_bestSwap 75 = .ok (.iload_n 2, 1) := by decide +kernel
theorem dX6_bestSwap_76 : decode cX6_bestSwap 76 = .ok (.if_icmp .lt 6, 3) := by decide +kernel
theorem dX6_bestSwap_79 : decode cX6_bestSwap 79 = .ok (.goto 13, 3) := by decide +kernel
theorem dX6_bestSwap_82 : decode cX6_bestSwap 82 = .ok (.iload 7, 2) := by decide +kernel
theorem dX6_bestSwap_84 : decode cX6_bestSwap 84 = .ok (.istore_n 2, 1) := by decide +kernel
theorem dX6_bestSwap_85 : decode cX6_bestSwap 85 = .ok (.iload 5, 2) := by decide +kernel
theorem dX6_bestSwap_87 : decode cX6_bestSwap 87 = .ok (.istore_n 3, 1) := by decide +kernel
theorem dX6_bestSwap_88 : decode cX6_bestSwap 88 = .ok (.iload 6, 2) := by decide +kernel
theorem dX6_bestSwap_90 : decode cX6_bestSwap 90 = .ok (.istore 4, 2) := by decide +kernel
theorem dX6_bestSwap_92 : decode cX6_bestSwap 92 = .ok (.iinc 6 1, 3) := by decide +kernel
theorem dX6_bestSwap_95 : decode cX6_bestSwap 95 = .ok (.goto (-61), 3) := by decide +kernel
theorem dX6_bestSwap_98 : decode cX6_bestSwap 98 = .ok (.iinc 5 1, 3) := by decide +kernel
theorem dX6_bestSwap_101 : decode cX6_bestSwap 101 = .ok (.goto (-84), 3) := by decide +kernel
theorem dX6_bestSwap_104 : decode cX6_bestSwap 104 = .ok (.aload_n 0, 1) := by decide +kernel
theorem dX6_bestSwap_105 : decode cX6_bestSwap 105 = .ok (.iload_n 3, 1) := by decide +kernel
theorem dX6_bestSwap_106 : decode cX6_bestSwap 106 = .ok (.ifCond .ge 7, 3) := by decide +kernel
theorem dX6_bestSwap_109 : decode cX6_bestSwap 109 = .ok (.iconst 1, 1) := by decide +kernel
theorem dX6_bestSwap_110 : decode cX6_bestSwap 110 = .ok (.goto 4, 3) := by decide +kernel
theorem dX6_bestSwap_113 : decode cX6_bestSwap 113 = .ok (.iconst 0, 1) := by decide +kernel
theorem dX6_bestSwap_114 : decode cX6_bestSwap 114 = .ok (.invokevirtual 77, 3) := by decide +kernel
theorem dX6_bestSwap_117 : decode cX6_bestSwap 117 = .ok (.ifCond .eq 7, 3) := by decide +kernel
theorem dX6_bestSwap_120 : decode cX6_bestSwap 120 = .ok (.iconst 0, 1) := by decide +kernel
theorem dX6_bestSwap_121 : decode cX6_bestSwap 121 = .ok (.goto 13, 3) := by decide +kernel
theorem dX6_bestSwap_124 : decode cX6_bestSwap 124 = .ok (.iload_n 1, 1) := by decide +kernel
theorem dX6_bestSwap_125 : decode cX6_bestSwap 125 = .ok (.ifCond .eq 8, 3) := by decide +kernel
theorem dX6_bestSwap_128 : decode cX6_bestSwap 128 = .ok (.iload 4, 2) := by decide +kernel
theorem dX6_bestSwap_130 : decode cX6_bestSwap 130 = .ok (.goto 4, 3) := by decide +kernel
theorem dX6_bestSwap_133 : decode cX6_bestSwap 133 = .ok (.iload_n 3, 1) := by decide +kernel
theorem dX6_bestSwap_134 : decode cX6_bestSwap 134 = .ok (.ireturn, 1) := by decide +kernel
set_option maxRecDepth 20000 in
theorem ggX6_underStools_X6_of : GoodIn wsX6_underStools wsX6_of := goodIn_ca (goodIn_r _ [6, 1, 7, 8, 9, 10, 11, 12, 13, 14, 15, 16, 17, 18, 19, 20, 21, 22, 23, 24, 25, 26] (by decide +kernel) (by decide +kernel)) (goodIn_sub (fun _ h => List.mem_cons_of_mem _ (List.mem_append_right _ h)) (by decide +kernel))
set_option maxRecDepth 20000 in
theorem gX6_underStools_X6_of : GoodIn wsX6_underStools (wsV RX6 74 RX6 yX6_of wsX6_of) := goodIn_app (goodIn_of _ (by decide +kernel)) ggX6_underStools_X6_of
theorem dX6_underStools_0 : decode cX6_underStools 0 = .ok (.iconst 0, 1) := by decide +kernel
theorem dX6_underStools_1 : decode cX6_underStools 1 = .ok (.istore_n 1, 1) := by decide +kernel
theorem dX6_underStools_2 : decode cX6_underStools 2 = .ok (.iconst 0, 1) := by decide +kernel
theorem dX6_underStools_3 : decode cX6_underStools 3 = .ok (.istore_n 2, 1) := by decide +kernel
theorem dX6_underStools_4 : decode cX6_underStools 4 = .ok (.iload_n 2, 1) := by decide +kernel
theorem dX6_underStools_5 : decode cX6_underStools 5 = .ok (.aload_n 0, 1) := by decide +kernel
theorem dX6_underStools_6 : decode cX6_underStools 6 = .ok (.getfield 7, 3) := by decide +kernel
theorem dX6_underStools_9 : decode cX6_underStools 9 = .ok (.iconst 0, 1) := by decide +kernel
theorem dX6_underStools_10 : decode cX6_underStools 10 = .ok (.iaload, 1) := by decide +kernel
theorem dX6_underStools_11 : decode cX6_underStools 11 = .ok (.if_icmp .ge 18, 3) := by decide +kernel
theorem dX6_underStools_14 : decode cX6_underStools 14 = .ok (.iload_n 1, 1) := by decide +kernel
theorem dX6_underStools_15 : decode cX6_underStools 15 = .ok (.aload_n 0, 1) := by decide +kernel
theorem dX6_underStools_16 : decode cX6_underStools 16 = .ok (.iload_n 2, 1) := by decide +kernel
theorem dX6_underStools_17 : decode cX6_underStools 17 = .ok (.iconst 4, 1) := by decide +kernel
theorem dX6_underStools_18 : decode cX6_underStools 18 = .ok (.invokevirtual 74, 3) := by decide +kernel
theorem dX6_underStools_21 : decode cX6_underStools 21 = .ok (.iadd, 1) := by decide +kernel
theorem dX6_underStools_22 : decode cX6_underStools 22 = .ok (.istore_n 1, 1) := by decide +kernel
theorem dX6_underStools_23 : decode cX6_underStools 23 = .ok (.iinc 2 1, 3) := by decide +kernel
theorem dX6_underStools_26 : decode cX6_underStools 26 = .ok (.goto (-22), 3) := by decide +kernel
theorem dX6_underStools_29 : decode cX6_underStools 29 = .ok (.iload_n 1, 1) := by decide +kernel
theorem dX6_underStools_30 : decode cX6_underStools 30 = .ok (.ireturn, 1) := by decide +kernel
set_option maxRecDepth 20000 in
theorem ggX6_coin_X6_isStool : GoodIn wsX6_coin wsX6_isStool := goodIn_ca (goodIn_r _ [6, 1, 7, 8, 5, 9, 44, 45, 46, 47, 48, 49, 50, 51, 52, 53, 54, 55, 56, 57, 58, 59, 60, 61, 62, 63] (by decide +kernel) (by decide +kernel)) (goodIn_sub (fun _ h => List.mem_cons_of_mem _ (List.mem_append_right _ h)) (by decide +kernel))
set_option maxRecDepth 20000 in
theorem gX6_coin_X6_isStool : GoodIn wsX6_coin (wsV RX6 106 RX6 yX6_isStool wsX6_isStool) := goodIn_app (goodIn_of _ (by decide +kernel)) ggX6_coin_X6_isStool
set_option maxRecDepth 20000 in
theorem ggX6_coin_X6_fails : GoodIn wsX6_coin wsX6_fails := goodIn_r _ [13, 14, 15, 44, 45, 46, 47, 48, 49, 50, 51, 52, 53, 54, 55, 56, 57, 58, 59, 60, 61, 62, 63] (by decide +kernel) (by decide +kernel)
set_option maxRecDepth 20000 in
theorem gX6_coin_X6_fails : GoodIn wsX6_coin (wsV RX6 77 RX6 yX6_fails wsX6_fails) := goodIn_app (goodIn_of _ (by decide +kernel)) ggX6_coin_X6_fails
set_option maxRecDepth 20000 in
theorem ggX6_coin_X6_underStools : GoodIn wsX6_coin wsX6_underStools := goodIn_ca (goodIn_r _ [19, 1, 20, 21, 22, 5, 23, 44, 45, 46, 47, 48, 49, 50, 51, 52, 53, 54, 55, 56, 57, 58, 59, 60, 61, 62, 63] (by decide +kernel) (by decide +kernel)) (goodIn_sub (fun _ h => List.mem_cons_of_mem _ (List.mem_append_right _ h)) (by decide +kernel))
set_option maxRecDepth 20000 in
theorem gX6_coin_X6_underStools : GoodIn wsX6_coin (wsV RX6 147 RX6 yX6_underStools wsX6_underStools) := goodIn_app (goodIn_of _ (by decide +kernel)) ggX6_coin_X6_underStools
set_option maxRecDepth 20000 in
theorem ggX6_coin_X6_refuses : GoodIn wsX6_coin wsX6_refuses := goodIn_r _ [27, 14, 15, 28, 29, 44, 45, 46, 47, 48, 49, 50, 51, 52, 53, 54, 55, 56, 57, 58, 59, 60, 61, 62, 63] (by decide +kernel) (by decide +kernel)
set_option maxRecDepth 20000 in
theorem gX6_coin_X6_refuses : GoodIn wsX6_coin (wsV RX6 80 RX6 yX6_refuses wsX6_refuses) := goodIn_app (goodIn_of _ (by decide +kernel)) ggX6_coin_X6_refuses
set_option maxRecDepth 20000 in
theorem ggX6_coin_X6_of : GoodIn wsX6_coin wsX6_of := goodIn_ca (goodIn_r _ [23, 1, 44, 45, 46, 47, 48, 49, 50, 51, 52, 53, 54, 55, 56, 57, 58, 59, 60, 61, 62, 63] (by decide +kernel) (by decide +kernel)) (goodIn_sub (fun _ h => List.mem_cons_of_mem _ (List.mem_append_right _ h)) (by decide +kernel))
set_option maxRecDepth 20000 in
theorem gX6_coin_X6_of : GoodIn wsX6_coin (wsV RX6 74 RX6 yX6_of wsX6_of) := goodIn_app (goodIn_of _ (by decide +kernel)) ggX6_coin_X6_of
set_option maxRecDepth 20000 in
theorem ggX6_coin_X6_keeps : GoodIn wsX6_coin wsX6_keeps := goodIn_ca (goodIn_r _ [33, 14, 34, 35, 36, 37, 38, 5, 39, 44, 45, 46, 47, 48, 49, 50, 51, 52, 53, 54, 55, 56, 57, 58, 59, 60, 61, 62, 63] (by decide +kernel) (by decide +kernel)) (goodIn_sub (fun _ h => List.mem_cons_of_mem _ (List.mem_append_right _ h)) (by decide +kernel))
set_option maxRecDepth 20000 in
theorem gX6_coin_X6_keeps : GoodIn wsX6_coin (wsV RX6 84 RX6 yX6_keeps wsX6_keeps) := goodIn_app (goodIn_of _ (by decide +kernel)) ggX6_coin_X6_keeps
set_option maxRecDepth 20000 in
theorem ggX6_coin_X6_lays : GoodIn wsX6_coin wsX6_lays := goodIn_ca (goodIn_r _ [43, 1, 44, 45, 46, 47, 48, 49, 50, 51, 52, 53, 54, 55, 56, 57, 58, 59, 60, 61, 62, 63] (by decide +kernel) (by decide +kernel)) (goodIn_sub (fun _ h => List.mem_cons_of_mem _ (List.mem_append_right _ h)) (by decide +kernel))
set_option maxRecDepth 20000 in
theorem gX6_coin_X6_lays : GoodIn wsX6_coin (wsV RX6 88 RX6 yX6_lays wsX6_lays) := goodIn_app (goodIn_of _ (by decide +kernel)) ggX6_coin_X6_lays
theorem dX6_coin_0 : decode cX6_coin 0 = .ok (.aload_n 0, 1) := by decide +kernel
theorem dX6_coin_1 : decode cX6_coin 1 = .ok (.aload_n 0, 1) := by decide +kernel
theorem dX6_coin_2 : decode cX6_coin 2 = .ok (.iload_n 1, 1) := by decide +kernel
theorem dX6_coin_3 : decode cX6_coin 3 = .ok (.invokevirtual 106, 3) := by decide +kernel
theorem dX6_coin_6 : decode cX6_coin 6 = .ok (.ifCond .eq 7, 3) := by decide +kernel
theorem dX6_coin_9 : decode cX6_coin 9 = .ok (.iconst 0, 1) := by decide +kernel
theorem dX6_coin_10 : decode cX6_coin 10 = .ok (.goto 4, 3) := by decide +kernel
theorem dX6_coin_13 : decode cX6_coin 13 = .ok (.iconst 1, 1) := by decide +kernel
theorem dX6_coin_14 : decode cX6_coin 14 = .ok (.invokevirtual 77, 3) := by decide +kernel
theorem dX6_coin_17 : decode cX6_coin 17 = .ok (.ifCond .eq 5, 3) := by decide +kernel
theorem dX6_coin_20 : decode cX6_coin 20 = .ok (.iconst 0, 1) := by decide +kernel
theorem dX6_coin_21 : decode cX6_coin 21 = .ok (.ireturn, 1) := by decide +kernel
theorem dX6_coin_22 : decode cX6_coin 22 = .ok (.aload_n 0, 1) := by decide +kernel
theorem dX6_coin_23 : decode cX6_coin 23 = .ok (.getfield 7, 3) := by decide +kernel
theorem dX6_coin_26 : decode cX6_coin 26 = .ok (.iconst 2, 1) := by decide +kernel
theorem dX6_coin_27 : decode cX6_coin 27 = .ok (.iaload, 1) := by decide +kernel
theorem dX6_coin_28 : decode cX6_coin 28 = .ok (.ifCond .ne 14, 3) := by decide +kernel
theorem dX6_coin_31 : decode cX6_coin 31 = .ok (.aload_n 0, 1) := by decide +kernel
theorem dX6_coin_32 : decode cX6_coin 32 = .ok (.iconst 2, 1) := by decide +kernel
theorem dX6_coin_33 : decode cX6_coin 33 = .ok (.iconst 5, 1) := by decide +kernel
theorem dX6_coin_34 : decode cX6_coin 34 = .ok (.aload_n 0, 1) := by decide +kernel
theorem dX6_coin_35 : decode cX6_coin 35 = .ok (.invokevirtual 147, 3) := by decide +kernel
theorem dX6_coin_38 : decode cX6_coin 38 = .ok (.invokevirtual 80, 3) := by decide +kernel
theorem dX6_coin_41 : decode cX6_coin 41 = .ok (.ireturn, 1) := by decide +kernel
theorem dX6_coin_42 : decode cX6_coin 42 = .ok (.aload_n 0, 1) := by decide +kernel
theorem dX6_coin_43 : decode cX6_coin 43 = .ok (.iload_n 1, 1) := by decide +kernel
theorem dX6_coin_44 : decode cX6_coin 44 = .ok (.iconst 2, 1) := by decide +kernel
theorem dX6_coin_45 : decode cX6_coin 45 = .ok (.invokevirtual 74, 3) := by decide +kernel
theorem dX6_coin_48 : decode cX6_coin 48 = .ok (.ifCond .ne 17, 3) := by decide +kernel
theorem dX6_coin_51 : decode cX6_coin 51 = .ok (.aload_n 0, 1) := by decide +kernel
theorem dX6_coin_52 : decode cX6_coin 52 = .ok (.iconst 2, 1) := by decide +kernel
theorem dX6_coin_53 : decode cX6_coin 53 = .ok (.bipush 6, 2) := by decide +kernel
theorem dX6_coin_55 : decode cX6_coin 55 = .ok (.aload_n 0, 1) := by decide +kernel
theorem dX6_coin_56 : decode cX6_coin 56 = .ok (.iload_n 1, 1) := by decide +kernel
theorem dX6_coin_57 : decode cX6_coin 57 = .ok (.iconst 4, 1) := by decide +kernel
theorem dX6_coin_58 : decode cX6_coin 58 = .ok (.invokevirtual 74, 3) := by decide +kernel
theorem dX6_coin_61 : decode cX6_coin 61 = .ok (.invokevirtual 80, 3) := by decide +kernel
theorem dX6_coin_64 : decode cX6_coin 64 = .ok (.ireturn, 1) := by decide +kernel
theorem dX6_coin_65 : decode cX6_coin 65 = .ok (.aload_n 0, 1) := by decide +kernel
theorem dX6_coin_66 : decode cX6_coin 66 = .ok (.aload_n 0, 1) := by decide +kernel
theorem dX6_coin_67 : decode cX6_coin 67 = .ok (.getfield 7, 3) := by decide +kernel
theorem dX6_coin_70 : decode cX6_coin 70 = .ok (.invokevirtual 84, 3) := by decide +kernel
theorem dX6_coin_73 : decode cX6_coin 73 = .ok (.aload_n 0, 1) := by decide +kernel
theorem dX6_coin_74 : decode cX6_coin 74 = .ok (.getfield 7, 3) := by decide +kernel
theorem dX6_coin_77 : decode cX6_coin 77 = .ok (.iconst 2, 1) := by decide +kernel
theorem dX6_coin_78 : decode cX6_coin 78 = .ok (.dup2, 1) := by decide +kernel
theorem dX6_coin_79 : decode cX6_coin 79 = .ok (.iaload, 1) := by decide +kernel
theorem dX6_coin_80 : decode cX6_coin 80 = .ok (.iconst 1, 1) := by decide +kernel
theorem dX6_coin_81 : decode cX6_coin 81 = .ok (.isub, 1) := by decide +kernel
theorem dX6_coin_82 : decode cX6_coin 82 = .ok (.iastore, 1) := by decide +kernel
theorem dX6_coin_83 : decode cX6_coin 83 = .ok (.aload_n 0, 1) := by decide +kernel
theorem dX6_coin_84 : decode cX6_coin 84 = .ok (.iload_n 1, 1) := by decide +kernel
theorem dX6_coin_85 : decode cX6_coin 85 = .ok (.iconst 4, 1) := by decide +kernel
theorem dX6_coin_86 : decode cX6_coin 86 = .ok (.aload_n 0, 1) := by decide +kernel
theorem dX6_coin_87 : decode cX6_coin 87 = .ok (.iload_n 1, 1) := by decide +kernel
theorem dX6_coin_88 : decode cX6_coin 88 = .ok (.iconst 4, 1) := by decide +kernel
theorem dX6_coin_89 : decode cX6_coin 89 = .ok (.invokevirtual 74, 3) := by decide +kernel
theorem dX6_coin_92 : decode cX6_coin 92 = .ok (.iconst 1, 1) := by decide +kernel
theorem dX6_coin_93 : decode cX6_coin 93 = .ok (.iadd, 1) := by decide +kernel
theorem dX6_coin_94 : decode cX6_coin 94 = .ok (.invokevirtual 88, 3) := by decide +kernel
theorem dX6_coin_97 : decode cX6_coin 97 = .ok (.aload_n 0, 1) := by decide +kernel
theorem dX6_coin_98 : decode cX6_coin 98 = .ok (.iload_n 1, 1) := by decide +kernel
theorem dX6_coin_99 : decode cX6_coin 99 = .ok (.iconst 2, 1) := by decide +kernel
theorem dX6_coin_100 : decode cX6_coin 100 = .ok (.aload_n 0, 1) := by decide +kernel
theorem dX6_coin_101 : decode cX6_coin 101 = .ok (.iload_n 1, 1) := by decide +kernel
theorem dX6_coin_102 : decode cX6_coin 102 = .ok (.iconst 2, 1) := by decide +kernel
theorem dX6_coin_103 : decode cX6_coin 103 = .ok (.invokevirtual 74, 3) := by decide +kernel
theorem dX6_coin_106 : decode cX6_coin 106 = .ok (.iconst 1, 1) := by decide +kernel
theorem dX6_coin_107 : decode cX6_coin 107 = .ok (.isub, 1) := by decide +kernel
theorem dX6_coin_108 : decode cX6_coin 108 = .ok (.invokevirtual 88, 3) := by decide +kernel
theorem dX6_coin_111 : decode cX6_coin 111 = .ok (.aload_n 0, 1) := by decide +kernel
theorem dX6_coin_112 : decode cX6_coin 112 = .ok (.iload_n 1, 1) := by decide +kernel
theorem dX6_coin_113 : decode cX6_coin 113 = .ok (.iconst 2, 1) := by decide +kernel
theorem dX6_coin_114 : decode cX6_coin 114 = .ok (.invokevirtual 74, 3) := by decide +kernel
theorem dX6_coin_117 : decode cX6_coin 117 = .ok (.ireturn, 1) := by decide +kernel
set_option maxRecDepth 20000 in
theorem ggX6_takeCoin_X6_isStool : GoodIn wsX6_takeCoin wsX6_isStool := goodIn_ca (goodIn_r _ [6, 1, 7, 8, 5, 9, 43, 44, 45, 46, 47, 48, 49, 50, 51, 52, 53, 54, 55, 56, 57, 58, 59, 60, 61, 62] (by decide +kernel) (by decide +kernel)) (goodIn_sub (fun _ h => List.mem_cons_of_mem _ (List.mem_append_right _ h)) (by decide +kernel))
set_option maxRecDepth 20000 in
theorem gX6_takeCoin_X6_isStool : GoodIn wsX6_takeCoin (wsV RX6 106 RX6 yX6_isStool wsX6_isStool) := goodIn_app (goodIn_of _ (by decide +kernel)) ggX6_takeCoin_X6_isStool
set_option maxRecDepth 20000 in
theorem ggX6_takeCoin_X6_fails : GoodIn wsX6_takeCoin wsX6_fails := goodIn_r _ [13, 14, 15, 43, 44, 45, 46, 47, 48, 49, 50, 51, 52, 53, 54, 55, 56, 57, 58, 59, 60, 61, 62] (by decide +kernel) (by decide +kernel)
set_option maxRecDepth 20000 in
theorem gX6_takeCoin_X6_fails : GoodIn wsX6_takeCoin (wsV RX6 77 RX6 yX6_fails wsX6_fails) := goodIn_app (goodIn_of _ (by decide +kernel)) ggX6_takeCoin_X6_fails
set_option maxRecDepth 20000 in
theorem ggX6_takeCoin_X6_of : GoodIn wsX6_takeCoin wsX6_of := goodIn_ca (goodIn_r _ [19, 1, 43, 44, 45, 46, 47, 48, 49, 50, 51, 52, 53, 54, 55, 56, 57, 58, 59, 60, 61, 62] (by decide +kernel) (by decide +kernel)) (goodIn_sub (fun _ h => List.mem_cons_of_mem _ (List.mem_append_right _ h)) (by decide +kernel))
set_option maxRecDepth 20000 in
theorem gX6_takeCoin_X6_of : GoodIn wsX6_takeCoin (wsV RX6 74 RX6 yX6_of wsX6_of) := goodIn_app (goodIn_of _ (by decide +kernel)) ggX6_takeCoin_X6_of
set_option maxRecDepth 20000 in
theorem ggX6_takeCoin_X6_refuses : GoodIn wsX6_takeCoin wsX6_refuses := goodIn_r _ [23, 14, 15, 24, 25, 43, 44, 45, 46, 47, 48, 49, 50, 51, 52, 53, 54, 55, 56, 57, 58, 59, 60, 61, 62] (by decide +kernel) (by decide +kernel)
set_option maxRecDepth 20000 in
theorem gX6_takeCoin_X6_refuses : GoodIn wsX6_takeCoin (wsV RX6 80 RX6 yX6_refuses wsX6_refuses) := goodIn_app (goodIn_of _ (by decide +kernel)) ggX6_takeCoin_X6_refuses
set_option maxRecDepth 20000 in
theorem ggX6_takeCoin_X6_keeps : GoodIn wsX6_takeCoin wsX6_keeps := goodIn_ca (goodIn_r _ [29, 14, 30, 31, 32, 33, 34, 5, 35, 43, 44, 45, 46, 47, 48, 49, 50, 51, 52, 53, 54, 55, 56, 57, 58, 59, 60, 61, 62] (by decide +kernel) (by decide +kernel)) (goodIn_sub (fun _ h => List.mem_cons_of_mem _ (List.mem_append_right _ h)) (by decide +kernel))
set_option maxRecDepth 20000 in
theorem gX6_takeCoin_X6_keeps : GoodIn wsX6_takeCoin (wsV RX6 84 RX6 yX6_keeps wsX6_keeps) := goodIn_app (goodIn_of _ (by decide +kernel)) ggX6_takeCoin_X6_keeps
set_option maxRecDepth 20000 in
theorem ggX6_takeCoin_X6_lays : GoodIn wsX6_takeCoin wsX6_lays := goodIn_ca (goodIn_r _ [39, 1, 43, 44, 45, 46, 47, 48, 49, 50, 51, 52, 53, 54, 55, 56, 57, 58, 59, 60, 61, 62] (by decide +kernel) (by decide +kernel)) (goodIn_sub (fun _ h => List.mem_cons_of_mem _ (List.mem_append_right _ h)) (by decide +kernel))
set_option maxRecDepth 20000 in
theorem gX6_takeCoin_X6_lays : GoodIn wsX6_takeCoin (wsV RX6 88 RX6 yX6_lays wsX6_lays) := goodIn_app (goodIn_of _ (by decide +kernel)) ggX6_takeCoin_X6_lays
set_option maxRecDepth 20000 in
theorem ggX6_takeCoin_X6_atMost : GoodIn wsX6_takeCoin wsX6_atMost := goodIn_r _ [42] (by decide +kernel) (by decide +kernel)
set_option maxRecDepth 20000 in
theorem gX6_takeCoin_X6_atMost : GoodIn wsX6_takeCoin (va_wsS RX6 150 yX6_atMost wsX6_atMost) := goodIn_app (goodIn_of _ (by decide +kernel)) ggX6_takeCoin_X6_atMost
theorem dX6_takeCoin_0 : decode cX6_takeCoin 0 = .ok (.aload_n 0, 1) := by decide +kernel
theorem dX6_takeCoin_1 : decode cX6_takeCoin 1 = .ok (.aload_n 0, 1) := by decide +kernel
theorem dX6_takeCoin_2 : decode cX6_takeCoin 2 = .ok (.iload_n 1, 1) := by decide +kernel
theorem dX6_takeCoin_3 : decode cX6_takeCoin 3 = .ok (.invokevirtual 106, 3) := by decide +kernel
theorem dX6_takeCoin_6 : decode cX6_takeCoin 6 = .ok (.ifCond .eq 7, 3) := by decide +kernel
theorem dX6_takeCoin_9 : decode cX6_takeCoin 9 = .ok (.iconst 0, 1) := by decide +kernel
theorem dX6_takeCoin_10 : decode cX6_takeCoin 10 = .ok (.goto 4, 3) := by decide +kernel
theorem dX6_takeCoin_13 : decode cX6_takeCoin 13 = .ok (.iconst 1, 1) := by decide +kernel
theorem dX6_takeCoin_14 : decode cX6_takeCoin 14 = .ok (.invokevirtual 77, 3) := by decide +kernel
theorem dX6_takeCoin_17 : decode cX6_takeCoin 17 = .ok (.ifCond .eq 5, 3) := by decide +kernel
theorem dX6_takeCoin_20 : decode cX6_takeCoin 20 = .ok (.iconst 0, 1) := by decide +kernel
theorem dX6_takeCoin_21 : decode cX6_takeCoin 21 = .ok (.ireturn, 1) := by decide +kernel
theorem dX6_takeCoin_22 : decode cX6_takeCoin 22 = .ok (.aload_n 0, 1) := by decide +kernel
theorem dX6_takeCoin_23 : decode cX6_takeCoin 23 = .ok (.iload_n 1, 1) := by decide +kernel
theorem dX6_takeCoin_24 : decode cX6_takeCoin 24 = .ok (.iconst 4, 1) := by decide +kernel
theorem dX6_takeCoin_25 : decode cX6_takeCoin 25 = .ok (.invokevirtual 74, 3) := by decide +kernel
theorem dX6_takeCoin_28 : decode cX6_takeCoin 28 = .ok (.ifCond .ne 17, 3) := by decide +kernel
theorem dX6_takeCoin_31 : decode cX6_takeCoin 31 = .ok (.aload_n 0, 1) := by decide +kernel
theorem dX6_takeCoin_32 : decode cX6_takeCoin 32 = .ok (.iconst 2, 1) := by decide +kernel
theorem dX6_takeCoin_33 : decode cX6_takeCoin 33 = .ok (.bipush 7, 2) := by decide +kernel
theorem dX6_takeCoin_35 : decode cX6_takeCoin 35 = .ok (.aload_n 0, 1) := by decide +kernel
theorem dX6_takeCoin_36 : decode cX6_takeCoin 36 = .ok (.iload_n 1, 1) := by decide +kernel
theorem dX6_takeCoin_37 : decode cX6_takeCoin 37 = .ok (.iconst 2, 1) := by decide +kernel
theorem dX6_takeCoin_38 : decode cX6_takeCoin 38 = .ok (.invokevirtual 74, 3) := by decide +kernel
theorem dX6_takeCoin_41 : decode cX6_takeCoin 41 = .ok (.invokevirtual 80, 3) := by decide +kernel
theorem dX6_takeCoin_44 : decode cX6_takeCoin 44 = .ok (.ireturn, 1) := by decide +kernel
theorem dX6_takeCoin_45 : decode cX6_takeCoin 45 = .ok (.aload_n 0, 1) := by decide +kernel
theorem dX6_takeCoin_46 : decode cX6_takeCoin 46 = .ok (.aload_n 0, 1) := by decide +kernel
theorem dX6_takeCoin_47 : decode cX6_takeCoin 47 = .ok (.getfield 7, 3) := by decide +kernel
theorem dX6_takeCoin_50 : decode cX6_takeCoin 50 = .ok (.invokevirtual 84, 3) := by decide +kernel
theorem dX6_takeCoin_53 : decode cX6_takeCoin 53 = .ok (.aload_n 0, 1) := by decide +kernel
theorem dX6_takeCoin_54 : decode cX6_takeCoin 54 = .ok (.getfield 7, 3) := by decide +kernel
theorem dX6_takeCoin_57 : decode cX6_takeCoin 57 = .ok (.iconst 2, 1) := by decide +kernel
theorem dX6_takeCoin_58 : decode cX6_takeCoin 58 = .ok (.dup2, 1) := by decide +kernel
theorem dX6_takeCoin_59 : decode cX6_takeCoin 59 = .ok (.iaload, 1) := by decide +kernel
theorem dX6_takeCoin_60 : decode cX6_takeCoin 60 = .ok (.iconst 1, 1) := by decide +kernel
theorem dX6_takeCoin_61 : decode cX6_takeCoin 61 = .ok (.iadd, 1) := by decide +kernel
theorem dX6_takeCoin_62 : decode cX6_takeCoin 62 = .ok (.iastore, 1) := by decide +kernel
theorem dX6_takeCoin_63 : decode cX6_takeCoin 63 = .ok (.aload_n 0, 1) := by decide +kernel
theorem dX6_takeCoin_64 : decode cX6_takeCoin 64 = .ok (.iload_n 1, 1) := by decide +kernel
theorem dX6_takeCoin_65 : decode cX6_takeCoin 65 = .ok (.iconst 4, 1) := by decide +kernel
theorem dX6_takeCoin_66 : decode cX6_takeCoin 66 = .ok (.aload_n 0, 1) := by decide +kernel
theorem dX6_takeCoin_67 : decode cX6_takeCoin 67 = .ok (.iload_n 1, 1) := by decide +kernel
theorem dX6_takeCoin_68 : decode cX6_takeCoin 68 = .ok (.iconst 4, 1) := by decide +kernel
theorem dX6_takeCoin_69 : decode cX6_takeCoin 69 = .ok (.invokevirtual 74, 3) := by decide +kernel
theorem dX6_takeCoin_72 : decode cX6_takeCoin 72 = .ok (.iconst 1, 1) := by decide +kernel
theorem dX6_takeCoin_73 : decode cX6_takeCoin 73 = .ok (.isub, 1) := by decide +kernel
theorem dX6_takeCoin_74 : decode cX6_takeCoin 74 = .ok (.invokevirtual 88, 3) := by decide +kernel
theorem dX6_takeCoin_77 : decode cX6_takeCoin 77 = .ok (.aload_n 0, 1) := by decide +kernel
theorem dX6_takeCoin_78 : decode cX6_takeCoin 78 = .ok (.iload_n 1, 1) := by decide +kernel
theorem dX6_takeCoin_79 : decode cX6_takeCoin 79 = .ok (.iconst 2, 1) := by decide +kernel
theorem dX6_takeCoin_80 : decode cX6_takeCoin 80 = .ok (.aload_n 0, 1) := by decide +kernel
theorem dX6_takeCoin_81 : decode cX6_takeCoin 81 = .ok (.iload_n 1, 1) := by decide +kernel
theorem dX6_takeCoin_82 : decode cX6_takeCoin 82 = .ok (.iconst 2, 1) := by decide +kernel
theorem dX6_takeCoin_83 : decode cX6_takeCoin 83 = .ok (.invokevirtual 74, 3) := by decide +kernel
theorem dX6_takeCoin_86 : decode cX6_takeCoin 86 = .ok (.iconst 1, 1) := by decide +kernel
theorem dX6_takeCoin_87 : decode cX6_takeCoin 87 = .ok (.iadd, 1) := by decide +kernel
theorem dX6_takeCoin_88 : decode cX6_takeCoin 88 = .ok (.bipush 9, 2) := by decide +kernel
theorem dX6_takeCoin_90 : decode cX6_takeCoin 90 = .ok (.invokestatic 150, 3) := by decide +kernel
theorem dX6_takeCoin_93 : decode cX6_takeCoin 93 = .ok (.invokevirtual 88, 3) := by decide +kernel
theorem dX6_takeCoin_96 : decode cX6_takeCoin 96 = .ok (.aload_n 0, 1) := by decide +kernel
theorem dX6_takeCoin_97 : decode cX6_takeCoin 97 = .ok (.iload_n 1, 1) := by decide +kernel
theorem dX6_takeCoin_98 : decode cX6_takeCoin 98 = .ok (.iconst 2, 1) := by decide +kernel
theorem dX6_takeCoin_99 : decode cX6_takeCoin 99 = .ok (.invokevirtual 74, 3) := by decide +kernel
theorem dX6_takeCoin_102 : decode cX6_takeCoin 102 = .ok (.ireturn, 1) := by decide +kernel
set_option maxRecDepth 20000 in
theorem ggX6_tiltOf_X6_of : GoodIn wsX6_tiltOf wsX6_of := goodIn_ca (goodIn_r _ [5, 6, 7, 8, 9, 10, 11, 12, 13, 14, 15, 16, 17, 18, 19, 20, 21, 22, 23, 24, 25, 26] (by decide +kernel) (by decide +kernel)) (goodIn_sub (fun _ h => List.mem_cons_of_mem _ (List.mem_append_right _ h)) (by decide +kernel))
set_option maxRecDepth 20000 in
theorem gX6_tiltOf_X6_of : GoodIn wsX6_tiltOf (wsV RX6 74 RX6 yX6_of wsX6_of) := goodIn_app (goodIn_of _ (by decide +kernel)) ggX6_tiltOf_X6_of
theorem dX6_tiltOf_0 : decode cX6_tiltOf 0 = .ok (.aload_n 0, 1) := by decide +kernel
theorem dX6_tiltOf_1 : decode cX6_tiltOf 1 = .ok (.iload_n 1, 1) := by decide +kernel
theorem dX6_tiltOf_2 : decode cX6_tiltOf 2 = .ok (.iconst 2, 1) := by decide +kernel
theorem dX6_tiltOf_3 : decode cX6_tiltOf 3 = .ok (.invokevirtual 74, 3) := by decide +kernel
theorem dX6_tiltOf_6 : decode cX6_tiltOf 6 = .ok (.i2f, 1) := by decide +kernel
theorem dX6_tiltOf_7 : decode cX6_tiltOf 7 = .ok (.aload_n 0, 1) := by decide +kernel
theorem dX6_tiltOf_8 : decode cX6_tiltOf 8 = .ok (.iload_n 1, 1) := by decide +kernel
theorem dX6_tiltOf_9 : decode cX6_tiltOf 9 = .ok (.iconst 0, 1) := by decide +kernel
theorem dX6_tiltOf_10 : decode cX6_tiltOf 10 = .ok (.invokevirtual 74, 3) := by decide +kernel
theorem dX6_tiltOf_13 : decode cX6_tiltOf 13 = .ok (.i2f, 1) := by decide +kernel
theorem dX6_tiltOf_14 : decode cX6_tiltOf 14 = .ok (.fdiv, 1) := by decide +kernel
theorem dX6_tiltOf_15 : decode cX6_tiltOf 15 = .ok (.freturn, 1) := by decide +kernel
set_option maxRecDepth 20000 in
theorem ggX6_tilt_X6_isStool : GoodIn wsX6_tilt wsX6_isStool := goodIn_ca (goodIn_r _ [5, 6, 7, 8, 4, 9, 24, 25, 26, 27, 28, 29, 30, 31, 32, 33, 34, 35, 36, 37, 38, 39, 40, 41, 42, 43] (by decide +kernel) (by decide +kernel)) (goodIn_sub (fun _ h => List.mem_cons_of_mem _ (List.mem_append_right _ h)) (by decide +kernel))
set_option maxRecDepth 20000 in
theorem gX6_tilt_X6_isStool : GoodIn wsX6_tilt (wsV RX6 106 RX6 yX6_isStool wsX6_isStool) := goodIn_app (goodIn_of _ (by decide +kernel)) ggX6_tilt_X6_isStool
set_option maxRecDepth 20000 in
theorem ggX6_tilt_X6_fails : GoodIn wsX6_tilt wsX6_fails := goodIn_r _ [13, 14, 15, 24, 25, 26, 27, 28, 29, 30, 31, 32, 33, 34, 35, 36, 37, 38, 39, 40, 41, 42, 43] (by decide +kernel) (by decide +kernel)
set_option maxRecDepth 20000 in
theorem gX6_tilt_X6_fails : GoodIn wsX6_tilt (wsV RX6 77 RX6 yX6_fails wsX6_fails) := goodIn_app (goodIn_of _ (by decide +kernel)) ggX6_tilt_X6_fails
set_option maxRecDepth 20000 in
theorem ggX6_tilt_X6_tiltOf : GoodIn wsX6_tilt wsX6_tiltOf := goodIn_ca (goodIn_r _ [19, 20, 21, 22, 4, 23, 6, 24, 25, 26, 27, 28, 29, 30, 31, 32, 33, 34, 35, 36, 37, 38, 39, 40, 41, 42, 43] (by decide +kernel) (by decide +kernel)) (goodIn_sub (fun _ h => List.mem_cons_of_mem _ (List.mem_append_right _ h)) (by decide +kernel))
set_option maxRecDepth 20000 in
theorem gX6_tilt_X6_tiltOf : GoodIn wsX6_tilt (wsV RX6 153 RX6 yX6_tiltOf wsX6_tiltOf) := goodIn_app (goodIn_of _ (by decide +kernel)) ggX6_tilt_X6_tiltOf
theorem dX6_tilt_0 : decode cX6_tilt 0 = .ok (.aload_n 0, 1) := by decide +kernel
theorem dX6_tilt_1 : decode cX6_tilt 1 = .ok (.aload_n 0, 1) := by decide +kernel
theorem dX6_tilt_2 : decode cX6_tilt 2 = .ok (.iload_n 1, 1) := by decide +kernel
theorem dX6_tilt_3 : decode cX6_tilt 3 = .ok (.invokevirtual 106, 3) := by decide +kernel
theorem dX6_tilt_6 : decode cX6_tilt 6 = .ok (.ifCond .eq 7, 3) := by decide +kernel
theorem dX6_tilt_9 : decode cX6_tilt 9 = .ok (.iconst 0, 1) := by decide +kernel
theorem dX6_tilt_10 : decode cX6_tilt 10 = .ok (.goto 4, 3) := by decide +kernel
theorem dX6_tilt_13 : decode cX6_tilt 13 = .ok (.iconst 1, 1) := by decide +kernel
theorem dX6_tilt_14 : decode cX6_tilt 14 = .ok (.invokevirtual 77, 3) := by decide +kernel
theorem dX6_tilt_17 : decode cX6_tilt 17 = .ok (.ifCond .eq 7, 3) := by decide +kernel
theorem dX6_tilt_20 : decode cX6_tilt 20 = .ok (.fconst 0, 1) := by decide +kernel
theorem dX6_tilt_21 : decode cX6_tilt 21 = .ok (.goto 8, 3) := by decide +kernel
theorem dX6_tilt_24 : decode cX6_tilt 24 = .ok (.aload_n 0, 1) := by decide +kernel
theorem dX6_tilt_25 : decode cX6_tilt 25 = .ok (.iload_n 1, 1) := by decide +kernel
theorem dX6_tilt_26 : decode cX6_tilt 26 = .ok (.invokevirtual 153, 3) := by decide +kernel
theorem dX6_tilt_29 : decode cX6_tilt 29 = .ok (.freturn, 1) := by decide +kernel
set_option maxRecDepth 20000 in
theorem ggX6_tiltBits_X6_isStool : GoodIn wsX6_tiltBits wsX6_isStool := goodIn_ca (goodIn_r _ [5, 6, 7, 8, 4, 9, 36, 37, 38, 39, 40, 41, 42, 43, 44, 45, 46, 47, 48, 49, 50, 51, 52, 53, 54, 55] (by decide +kernel) (by decide +kernel)) (goodIn_sub (fun _ h => List.mem_cons_of_mem _ (List.mem_append_right _ h)) (by decide +kernel))
set_option maxRecDepth 20000 in
theorem gX6_tiltBits_X6_isStool : GoodIn wsX6_tiltBits (wsV RX6 106 RX6 yX6_isStool wsX6_isStool) := goodIn_app (goodIn_of _ (by decide +kernel)) ggX6_tiltBits_X6_isStool
set_option maxRecDepth 20000 in
theorem ggX6_tiltBits_X6_fails : GoodIn wsX6_tiltBits wsX6_fails := goodIn_r _ [13, 14, 15, 36, 37, 38, 39, 40, 41, 42, 43, 44, 45, 46, 47, 48, 49, 50, 51, 52, 53, 54, 55] (by decide +kernel) (by decide +kernel)
set_option maxRecDepth 20000 in
theorem gX6_tiltBits_X6_fails : GoodIn wsX6_tiltBits (wsV RX6 77 RX6 yX6_fails wsX6_fails) := goodIn_app (goodIn_of _ (by decide +kernel)) ggX6_tiltBits_X6_fails
set_option maxRecDepth 20000 in
theorem ggX6_tiltBits_X6_tiltOf : GoodIn wsX6_tiltBits wsX6_tiltOf := goodIn_ca (goodIn_r _ [19, 20, 21, 22, 4, 23, 6, 36, 37, 38, 39, 40, 41, 42, 43, 44, 45, 46, 47, 48, 49, 50, 51, 52, 53, 54, 55] (by decide +kernel) (by decide +kernel)) (goodIn_sub (fun _ h => List.mem_cons_of_mem _ (List.mem_append_right _ h)) (by decide +kernel))
set_option maxRecDepth 20000 in
theorem gX6_tiltBits_X6_tiltOf : GoodIn wsX6_tiltBits (wsV RX6 153 RX6 yX6_tiltOf wsX6_tiltOf) := goodIn_app (goodIn_of _ (by decide +kernel)) ggX6_tiltBits_X6_tiltOf
set_option maxRecDepth 20000 in
theorem ggX6_tiltBits_Jxf58ca_floatToIntBits_5c35a : GoodIn wsX6_tiltBits wsJxf58ca_floatToIntBits_5c35a := goodIn_r _ [27, 28, 29, 30, 31, 32, 33, 34, 26, 35] (by decide +kernel) (by decide +kernel)
set_option maxRecDepth 20000 in
theorem gX6_tiltBits_Jxf58ca_floatToIntBits_5c35a : GoodIn wsX6_tiltBits (va_wsS RX6 157 yJxf58ca_floatToIntBits_5c35a wsJxf58ca_floatToIntBits_5c35a) := goodIn_app (goodIn_of _ (by decide +kernel)) ggX6_tiltBits_Jxf58ca_floatToIntBits_5c35a
theorem dX6_tiltBits_0 : decode cX6_tiltBits 0 = .ok (.aload_n 0, 1) := by decide +kernel
theorem dX6_tiltBits_1 : decode cX6_tiltBits 1 = .ok (.aload_n 0, 1) := by decide +kernel
theorem dX6_tiltBits_2 : decode cX6_tiltBits 2 = .ok (.iload_n 1, 1) := by decide +kernel
theorem dX6_tiltBits_3 : decode cX6_tiltBits 3 = .ok (.invokevirtual 106, 3) := by decide +kernel
theorem dX6_tiltBits_6 : decode cX6_tiltBits 6 = .ok (.ifCond .eq 7, 3) := by decide +kernel
theorem dX6_tiltBits_9 : decode cX6_tiltBits 9 = .ok (.iconst 0, 1) := by decide +kernel
theorem dX6_tiltBits_10 : decode cX6_tiltBits 10 = .ok (.goto 4, 3) := by decide +kernel
theorem dX6_tiltBits_13 : decode cX6_tiltBits 13 = .ok (.iconst 1, 1) := by decide +kernel
theorem dX6_tiltBits_14 : decode cX6_tiltBits 14 = .ok (.invokevirtual 77, 3) := by decide +kernel
theorem dX6_tiltBits_17 : decode cX6_tiltBits 17 = .ok (.ifCond .eq 7, 3) := by decide +kernel
theorem dX6_tiltBits_20 : decode cX6_tiltBits 20 = .ok (.iconst 0, 1) := by decide +kernel
theorem dX6_tiltBits_21 : decode cX6_tiltBits 21 = .ok (.goto 11, 3) := by decide +kernel
theorem dX6_tiltBits_24 : decode cX6_tiltBits 24 = .ok (.aload_n 0, 1) := by decide +kernel
theorem dX6_tiltBits_25 : decode cX6_tiltBits 25 = .ok (.iload_n 1, 1) := by decide +kernel
theorem dX6_tiltBits_26 : decode cX6_tiltBits 26 = .ok (.invokevirtual 153, 3) := by decide +kernel
theorem dX6_tiltBits_29 : decode cX6_tiltBits 29 = .ok (.invokestatic 157, 3) := by decide +kernel
theorem dX6_tiltBits_32 : decode cX6_tiltBits 32 = .ok (.ireturn, 1) := by decide +kernel
set_option maxRecDepth 20000 in
theorem ggX6_plusTilt_X6_isStool : GoodIn wsX6_plusTilt wsX6_isStool := goodIn_ca (goodIn_r _ [10, 11, 12, 13, 9, 14, 40, 41, 42, 43, 44, 45, 46, 47, 48, 49, 50, 51, 52, 53, 54, 55, 56, 57, 58, 59] (by decide +kernel) (by decide +kernel)) (goodIn_sub (fun _ h => List.mem_cons_of_mem _ (List.mem_append_right _ h)) (by decide +kernel))
set_option maxRecDepth 20000 in
theorem gX6_plusTilt_X6_isStool : GoodIn wsX6_plusTilt (wsV RX6 106 RX6 yX6_isStool wsX6_isStool) := goodIn_app (goodIn_of _ (by decide +kernel)) ggX6_plusTilt_X6_isStool
set_option maxRecDepth 20000 in
theorem ggX6_plusTilt_X6_in : GoodIn wsX6_plusTilt wsX6_in := goodIn_r _ [14] (by decide +kernel) (by decide +kernel)
set_option maxRecDepth 20000 in
theorem gX6_plusTilt_X6_in : GoodIn wsX6_plusTilt (va_wsS RX6 62 yX6_in wsX6_in) := goodIn_app (goodIn_of _ (by decide +kernel)) ggX6_plusTilt_X6_in
set_option maxRecDepth 20000 in
theorem ggX6_plusTilt_X6_fails : GoodIn wsX6_plusTilt wsX6_fails := goodIn_r _ [18, 19, 20, 40, 41, 42, 43, 44, 45, 46, 47, 48, 49, 50, 51, 52, 53, 54, 55, 56, 57, 58, 59] (by decide +kernel) (by decide +kernel)
set_option maxRecDepth 20000 in
theorem gX6_plusTilt_X6_fails : GoodIn wsX6_plusTilt (wsV RX6 77 RX6 yX6_fails wsX6_fails) := goodIn_app (goodIn_of _ (by decide +kernel)) ggX6_plusTilt_X6_fails
set_option maxRecDepth 20000 in
theorem ggX6_plusTilt_X6_tiltOf : GoodIn wsX6_plusTilt wsX6_tiltOf := goodIn_ca (goodIn_r _ [24, 25, 26, 27, 9, 28, 11, 40, 41, 42, 43, 44, 45, 46, 47, 48, 49, 50, 51, 52, 53, 54, 55, 56, 57, 58, 59] (by decide +kernel) (by decide +kernel)) (goodIn_sub (fun _ h => List.mem_cons_of_mem _ (List.mem_append_right _ h)) (by decide +kernel))
set_option maxRecDepth 20000 in
theorem gX6_plusTilt_X6_tiltOf : GoodIn wsX6_plusTilt (wsV RX6 153 RX6 yX6_tiltOf wsX6_tiltOf) := goodIn_app (goodIn_of _ (by decide +kernel)) ggX6_plusTilt_X6_tiltOf
set_option maxRecDepth 20000 in
theorem ggX6_plusTilt_Jxf58ca_floatToIntBits_5c35a : GoodIn wsX6_plusTilt wsJxf58ca_floatToIntBits_5c35a := goodIn_r _ [32, 33, 34, 35, 5, 36, 37, 38, 31, 39] (by decide +kernel) (by decide +kernel)
set_option maxRecDepth 20000 in
theorem gX6_plusTilt_Jxf58ca_floatToIntBits_5c35a : GoodIn wsX6_plusTilt (va_wsS RX6 157 yJxf58ca_floatToIntBits_5c35a wsJxf58ca_floatToIntBits_5c35a) := goodIn_app (goodIn_of _ (by decide +kernel)) ggX6_plusTilt_Jxf58ca_floatToIntBits_5c35a
theorem dX6_plusTilt_0 : decode cX6_plusTilt 0 = .ok (.aload_n 0, 1) := by decide +kernel
theorem dX6_plusTilt_1 : decode cX6_plusTilt 1 = .ok (.aload_n 0, 1) := by decide +kernel
theorem dX6_plusTilt_2 : decode cX6_plusTilt 2 = .ok (.iload_n 2, 1) := by decide +kernel
theorem dX6_plusTilt_3 : decode cX6_plusTilt 3 = .ok (.invokevirtual 106, 3) := by decide +kernel
theorem dX6_plusTilt_6 : decode cX6_plusTilt 6 = .ok (.ifCond .ne 7, 3) := by decide +kernel
theorem dX6_plusTilt_9 : decode cX6_plusTilt 9 = .ok (.iconst 1, 1) := by decide +kernel
theorem dX6_plusTilt_10 : decode cX6_plusTilt 10 = .ok (.goto 18, 3) := by decide +kernel
theorem dX6_plusTilt_13 : decode cX6_plusTilt 13 = .ok (.iload_n 1, 1) := by decide +kernel
theorem dX6_plusTilt_14 : decode cX6_plusTilt 14 = .ok (.iconst 0, 1) := by decide +kernel
theorem dX6_plusTilt_15 : decode cX6_plusTilt 15 = .ok (.ldc 163, 2) := by decide +kernel
theorem dX6_plusTilt_17 : decode cX6_plusTilt 17 = .ok (.invokestatic 62, 3) := by decide +kernel
theorem dX6_plusTilt_20 : decode cX6_plusTilt 20 = .ok (.ifCond .eq 7, 3) := by decide +kernel
theorem dX6_plusTilt_23 : decode cX6_plusTilt 23 = .ok (.iconst 0, 1) := by decide +kernel
theorem dX6_plusTilt_24 : decode cX6_plusTilt 24 = .ok (.goto 4, 3) := by decide +kernel
theorem dX6_plusTilt_27 : decode cX6_plusTilt 27 = .ok (.iconst 2, 1) := by decide +kernel
theorem dX6_plusTilt_28 : decode cX6_plusTilt 28 = .ok (.invokevirtual 77, 3) := by decide +kernel
theorem dX6_plusTilt_31 : decode cX6_plusTilt 31 = .ok (.ifCond .eq 5, 3) := by decide +kernel
theorem dX6_plusTilt_34 : decode cX6_plusTilt 34 = .ok (.iconst 0, 1) := by decide +kernel
theorem dX6_plusTilt_35 : decode cX6_plusTilt 35 = .ok (.ireturn, 1) := by decide +kernel
theorem dX6_plusTilt_36 : decode cX6_plusTilt 36 = .ok (.iload_n 1, 1) := by decide +kernel
theorem dX6_plusTilt_37 : decode cX6_plusTilt 37 = .ok (.invokestatic 164, 3) := by decide +kernel
theorem dX6_plusTilt_40 : decode cX6_plusTilt 40 = .ok (.aload_n 0, 1) := by decide +kernel
theorem dX6_plusTilt_41 : decode cX6_plusTilt 41 = .ok (.iload_n 2, 1) := by decide +kernel
theorem dX6_plusTilt_42 : decode cX6_plusTilt 42 = .ok (.invokevirtual 153, 3) := by decide +kernel
theorem dX6_plusTilt_45 : decode cX6_plusTilt 45 = .ok (.fadd, 1) := by decide +kernel
theorem dX6_plusTilt_46 : decode cX6_plusTilt 46 = .ok (.invokestatic 157, 3) := by decide +kernel
theorem dX6_plusTilt_49 : decode cX6_plusTilt 49 = .ok (.ireturn, 1) := by decide +kernel
set_option maxRecDepth 20000 in
theorem ggX6_noiseOn_X6_of : GoodIn wsX6_noiseOn wsX6_of := goodIn_ca (goodIn_r _ [5, 6, 15, 16, 17, 18, 19, 20, 21, 22, 23, 24, 25, 26, 27, 28, 29, 30, 31, 32, 33, 34] (by decide +kernel) (by decide +kernel)) (goodIn_sub (fun _ h => List.mem_cons_of_mem _ (List.mem_append_right _ h)) (by decide +kernel))
set_option maxRecDepth 20000 in
theorem gX6_noiseOn_X6_of : GoodIn wsX6_noiseOn (wsV RX6 74 RX6 yX6_of wsX6_of) := goodIn_app (goodIn_of _ (by decide +kernel)) ggX6_noiseOn_X6_of
set_option maxRecDepth 20000 in
theorem ggX6_noiseOn_X6_tiltOf : GoodIn wsX6_noiseOn wsX6_tiltOf := goodIn_ca (goodIn_r _ [10, 1, 2, 3, 4, 5, 6, 15, 16, 17, 18, 19, 20, 21, 22, 23, 24, 25, 26, 27, 28, 29, 30, 31, 32, 33, 34] (by decide +kernel) (by decide +kernel)) (goodIn_sub (fun _ h => List.mem_cons_of_mem _ (List.mem_append_right _ h)) (by decide +kernel))
set_option maxRecDepth 20000 in
theorem gX6_noiseOn_X6_tiltOf : GoodIn wsX6_noiseOn (wsV RX6 153 RX6 yX6_tiltOf wsX6_tiltOf) := goodIn_app (goodIn_of _ (by decide +kernel)) ggX6_noiseOn_X6_tiltOf
set_option maxRecDepth 20000 in
theorem ggX6_noiseOn_X6_by : GoodIn wsX6_noiseOn wsX6_by := goodIn_ca (goodIn_r _ [14, 6, 15, 16, 17, 18, 19, 20, 21, 22, 23, 24, 25, 26, 27, 28, 29, 30, 31, 32, 33, 34] (by decide +kernel) (by decide +kernel)) (goodIn_sub (fun _ h => List.mem_cons_of_mem _ (List.mem_append_right _ h)) (by decide +kernel))
set_option maxRecDepth 20000 in
theorem gX6_noiseOn_X6_by : GoodIn wsX6_noiseOn (wsV RX6 66 RX6 yX6_by wsX6_by) := goodIn_app (goodIn_of _ (by decide +kernel)) ggX6_noiseOn_X6_by
theorem dX6_noiseOn_0 : decode cX6_noiseOn 0 = .ok (.aload_n 0, 1) := by decide +kernel
theorem dX6_noiseOn_1 : decode cX6_noiseOn 1 = .ok (.iload_n 1, 1) := by decide +kernel
theorem dX6_noiseOn_2 : decode cX6_noiseOn 2 = .ok (.iconst 1, 1) := by decide +kernel
theorem dX6_noiseOn_3 : decode cX6_noiseOn 3 = .ok (.invokevirtual 74, 3) := by decide +kernel
theorem dX6_noiseOn_6 : decode cX6_noiseOn 6 = .ok (.i2f, 1) := by decide +kernel
theorem dX6_noiseOn_7 : decode cX6_noiseOn 7 = .ok (.fconst 1, 1) := by decide +kernel
theorem dX6_noiseOn_8 : decode cX6_noiseOn 8 = .ok (.aload_n 0, 1) := by decide +kernel
theorem dX6_noiseOn_9 : decode cX6_noiseOn 9 = .ok (.iload_n 1, 1) := by decide +kernel
theorem dX6_noiseOn_10 : decode cX6_noiseOn 10 = .ok (.invokevirtual 153, 3) := by decide +kernel
theorem dX6_noiseOn_13 : decode cX6_noiseOn 13 = .ok (.fadd, 1) := by decide +kernel
theorem dX6_noiseOn_14 : decode cX6_noiseOn 14 = .ok (.fmul, 1) := by decide +kernel
theorem dX6_noiseOn_15 : decode cX6_noiseOn 15 = .ok (.fstore_n 2, 1) := by decide +kernel
theorem dX6_noiseOn_16 : decode cX6_noiseOn 16 = .ok (.fload_n 2, 1) := by decide +kernel
theorem dX6_noiseOn_17 : decode cX6_noiseOn 17 = .ok (.aload_n 0, 1) := by decide +kernel
theorem dX6_noiseOn_18 : decode cX6_noiseOn 18 = .ok (.aload_n 0, 1) := by decide +kernel
theorem dX6_noiseOn_19 : decode cX6_noiseOn 19 = .ok (.iload_n 1, 1) := by decide +kernel
theorem dX6_noiseOn_20 : decode cX6_noiseOn 20 = .ok (.iconst 5, 1) := by decide +kernel
theorem dX6_noiseOn_21 : decode cX6_noiseOn 21 = .ok (.invokevirtual 74, 3) := by decide +kernel
theorem dX6_noiseOn_24 : decode cX6_noiseOn 24 = .ok (.iconst 1, 1) := by decide +kernel
theorem dX6_noiseOn_25 : decode cX6_noiseOn 25 = .ok (.invokevirtual 66, 3) := by decide +kernel
theorem dX6_noiseOn_28 : decode cX6_noiseOn 28 = .ok (.i2f, 1) := by decide +kernel
theorem dX6_noiseOn_29 : decode cX6_noiseOn 29 = .ok (.fmul, 1) := by decide +kernel
theorem dX6_noiseOn_30 : decode cX6_noiseOn 30 = .ok (.freturn, 1) := by decide +kernel
set_option maxRecDepth 20000 in
theorem ggX6_noiseOf_X6_isSitter : GoodIn wsX6_noiseOf wsX6_isSitter := goodIn_ca (goodIn_r _ [5, 6, 7, 8, 4, 9, 32, 33, 34, 35, 36, 37, 38, 39, 40, 41, 42, 43, 44, 45, 46, 47, 48, 49, 50, 51] (by decide +kernel) (by decide +kernel)) (goodIn_sub (fun _ h => List.mem_cons_of_mem _ (List.mem_append_right _ h)) (by decide +kernel))
set_option maxRecDepth 20000 in
theorem gX6_noiseOf_X6_isSitter : GoodIn wsX6_noiseOf (wsV RX6 103 RX6 yX6_isSitter wsX6_isSitter) := goodIn_app (goodIn_of _ (by decide +kernel)) ggX6_noiseOf_X6_isSitter
set_option maxRecDepth 20000 in
theorem ggX6_noiseOf_X6_fails : GoodIn wsX6_noiseOf wsX6_fails := goodIn_r _ [13, 14, 15, 32, 33, 34, 35, 36, 37, 38, 39, 40, 41, 42, 43, 44, 45, 46, 47, 48, 49, 50, 51] (by decide +kernel) (by decide +kernel)
set_option maxRecDepth 20000 in
theorem gX6_noiseOf_X6_fails : GoodIn wsX6_noiseOf (wsV RX6 77 RX6 yX6_fails wsX6_fails) := goodIn_app (goodIn_of _ (by decide +kernel)) ggX6_noiseOf_X6_fails
set_option maxRecDepth 20000 in
theorem ggX6_noiseOf_X6_by : GoodIn wsX6_noiseOf wsX6_by := goodIn_ca (goodIn_r _ [19, 6, 32, 33, 34, 35, 36, 37, 38, 39, 40, 41, 42, 43, 44, 45, 46, 47, 48, 49, 50, 51] (by decide +kernel) (by decide +kernel)) (goodIn_sub (fun _ h => List.mem_cons_of_mem _ (List.mem_append_right _ h)) (by decide +kernel))
set_option maxRecDepth 20000 in
theorem gX6_noiseOf_X6_by : GoodIn wsX6_noiseOf (wsV RX6 66 RX6 yX6_by wsX6_by) := goodIn_app (goodIn_of _ (by decide +kernel)) ggX6_noiseOf_X6_by
set_option maxRecDepth 20000 in
theorem ggX6_noiseOf_X6_noiseOn : GoodIn wsX6_noiseOf wsX6_noiseOn := goodIn_ca (goodIn_r _ [23, 24, 25, 26, 4, 27, 6, 28, 29, 30, 31, 16, 17, 18, 19, 32, 33, 34, 35, 36, 37, 38, 39, 40, 41, 42, 43, 44, 45, 46, 47, 48, 49, 50, 51] (by decide +kernel) (by decide +kernel)) (goodIn_sub (fun _ h => List.mem_cons_of_mem _ (List.mem_append_right _ h)) (by decide +kernel))
set_option maxRecDepth 20000 in
theorem gX6_noiseOf_X6_noiseOn : GoodIn wsX6_noiseOf (wsV RX6 167 RX6 yX6_noiseOn wsX6_noiseOn) := goodIn_app (goodIn_of _ (by decide +kernel)) ggX6_noiseOf_X6_noiseOn
theorem dX6_noiseOf_0 : decode cX6_noiseOf 0 = .ok (.aload_n 0, 1) := by decide +kernel
theorem dX6_noiseOf_1 : decode cX6_noiseOf 1 = .ok (.aload_n 0, 1) := by decide +kernel
theorem dX6_noiseOf_2 : decode cX6_noiseOf 2 = .ok (.iload_n 1, 1) := by decide +kernel
theorem dX6_noiseOf_3 : decode cX6_noiseOf 3 = .ok (.invokevirtual 103, 3) := by decide +kernel
theorem dX6_noiseOf_6 : decode cX6_noiseOf 6 = .ok (.ifCond .eq 7, 3) := by decide +kernel
theorem dX6_noiseOf_9 : decode cX6_noiseOf 9 = .ok (.iconst 0, 1) := by decide +kernel
theorem dX6_noiseOf_10 : decode cX6_noiseOf 10 = .ok (.goto 4, 3) := by decide +kernel
theorem dX6_noiseOf_13 : decode cX6_noiseOf 13 = .ok (.iconst 1, 1) := by decide +kernel
theorem dX6_noiseOf_14 : decode cX6_noiseOf 14 = .ok (.invokevirtual 77, 3) := by decide +kernel
theorem dX6_noiseOf_17 : decode cX6_noiseOf 17 = .ok (.ifCond .ne 12, 3) := by decide +kernel
theorem dX6_noiseOf_20 : decode cX6_noiseOf 20 = .ok (.aload_n 0, 1) := by decide +kernel
theorem dX6_noiseOf_21 : decode cX6_noiseOf 21 = .ok (.iload_n 1, 1) := by decide +kernel
theorem dX6_noiseOf_22 : decode cX6_noiseOf 22 = .ok (.iconst 2, 1) := by decide +kernel
theorem dX6_noiseOf_23 : decode cX6_noiseOf 23 = .ok (.invokevirtual 66, 3) := by decide +kernel
theorem dX6_noiseOf_26 : decode cX6_noiseOf 26 = .ok (.ifCond .ge 7, 3) := by decide +kernel
theorem dX6_noiseOf_29 : decode cX6_noiseOf 29 = .ok (.fconst 0, 1) := by decide +kernel
theorem dX6_noiseOf_30 : decode cX6_noiseOf 30 = .ok (.goto 13, 3) := by decide +kernel
theorem dX6_noiseOf_33 : decode cX6_noiseOf 33 = .ok (.aload_n 0, 1) := by decide +kernel
theorem dX6_noiseOf_34 : decode cX6_noiseOf 34 = .ok (.aload_n 0, 1) := by decide +kernel
theorem dX6_noiseOf_35 : decode cX6_noiseOf 35 = .ok (.iload_n 1, 1) := by decide +kernel
theorem dX6_noiseOf_36 : decode cX6_noiseOf 36 = .ok (.iconst 2, 1) := by decide +kernel
theorem dX6_noiseOf_37 : decode cX6_noiseOf 37 = .ok (.invokevirtual 66, 3) := by decide +kernel
theorem dX6_noiseOf_40 : decode cX6_noiseOf 40 = .ok (.invokevirtual 167, 3) := by decide +kernel
theorem dX6_noiseOf_43 : decode cX6_noiseOf 43 = .ok (.freturn, 1) := by decide +kernel
set_option maxRecDepth 20000 in
theorem ggX6_noiseBits_X6_of : GoodIn wsX6_noiseBits wsX6_of := goodIn_ca (goodIn_r _ [7, 2, 32, 33, 34, 35, 36, 37, 38, 39, 40, 41, 42, 43, 44, 45, 46, 47, 48, 49, 50, 51] (by decide +kernel) (by decide +kernel)) (goodIn_sub (fun _ h => List.mem_cons_of_mem _ (List.mem_append_right _ h)) (by decide +kernel))
set_option maxRecDepth 20000 in
theorem gX6_noiseBits_X6_of : GoodIn wsX6_noiseBits (wsV RX6 74 RX6 yX6_of wsX6_of) := goodIn_app (goodIn_of _ (by decide +kernel)) ggX6_noiseBits_X6_of
set_option maxRecDepth 20000 in
theorem ggX6_noiseBits_X6_noiseOn : GoodIn wsX6_noiseBits wsX6_noiseOn := goodIn_ca (goodIn_r _ [11, 3, 4, 5, 6, 7, 2, 12, 13, 14, 15, 16, 17, 18, 19, 32, 33, 34, 35, 36, 37, 38, 39, 40, 41, 42, 43, 44, 45, 46, 47, 48, 49, 50, 51] (by decide +kernel) (by decide +kernel)) (goodIn_sub (fun _ h => List.mem_cons_of_mem _ (List.mem_append_right _ h)) (by decide +kernel))
set_option maxRecDepth 20000 in
theorem gX6_noiseBits_X6_noiseOn : GoodIn wsX6_noiseBits (wsV RX6 167 RX6 yX6_noiseOn wsX6_noiseOn) := goodIn_app (goodIn_of _ (by decide +kernel)) ggX6_noiseBits_X6_noiseOn
set_option maxRecDepth 20000 in
theorem ggX6_noiseBits_Jxf58ca_floatToIntBits_5c35a : GoodIn wsX6_noiseBits wsJxf58ca_floatToIntBits_5c35a := goodIn_r _ [23, 24, 25, 26, 27, 28, 29, 30, 22, 31] (by decide +kernel) (by decide +kernel)
set_option maxRecDepth 20000 in
theorem gX6_noiseBits_Jxf58ca_floatToIntBits_5c35a : GoodIn wsX6_noiseBits (va_wsS RX6 157 yJxf58ca_floatToIntBits_5c35a wsJxf58ca_floatToIntBits_5c35a) := goodIn_app (goodIn_of _ (by decide +kernel)) ggX6_noiseBits_Jxf58ca_floatToIntBits_5c35a
theorem dX6_noiseBits_0 : decode cX6_noiseBits 0 = .ok (.aload_n 0, 1) := by decide +kernel
theorem dX6_noiseBits_1 : decode cX6_noiseBits 1 = .ok (.iconst 0, 1) := by decide +kernel
theorem dX6_noiseBits_2 : decode cX6_noiseBits 2 = .ok (.putfield 39, 3) := by decide +kernel
theorem dX6_noiseBits_5 : decode cX6_noiseBits 5 = .ok (.fconst 0, 1) := by decide +kernel
theorem dX6_noiseBits_6 : decode cX6_noiseBits 6 = .ok (.fstore_n 1, 1) := by decide +kernel
theorem dX6_noiseBits_7 : decode cX6_noiseBits 7 = .ok (.iconst 0, 1) := by decide +kernel
theorem dX6_noiseBits_8 : decode cX6_noiseBits 8 = .ok (.istore_n 2, 1) := by decide +kernel
theorem dX6_noiseBits_9 : decode cX6_noiseBits 9 = .ok (.iload_n 2, 1) := by decide +kernel
theorem dX6_noiseBits_10 : decode cX6_noiseBits 10 = .ok (.aload_n 0, 1) := by decide +kernel
theorem dX6_noiseBits_11 : decode cX6_noiseBits 11 = .ok (.getfield 7, 3) := by decide +kernel
theorem dX6_noiseBits_14 : decode cX6_noiseBits 14 = .ok (.iconst 0, 1) := by decide +kernel
theorem dX6_noiseBits_15 : decode cX6_noiseBits 15 = .ok (.iaload, 1) := by decide +kernel
theorem dX6_noiseBits_16 : decode cX6_noiseBits 16 = .ok (.if_icmp .ge 26, 3) := by decide +kernel
theorem dX6_noiseBits_19 : decode cX6_noiseBits 19 = .ok (.aload_n 0, 1) := by decide +kernel
theorem dX6_noiseBits_20 : decode cX6_noiseBits 20 = .ok (.iload_n 2, 1) := by decide +kernel
theorem dX6_noiseBits_21 : decode cX6_noiseBits 21 = .ok (.iconst 5, 1) := by decide +kernel
theorem dX6_noiseBits_22 : decode cX6_noiseBits 22 = .ok (.invokevirtual 74, 3) := by decide +kernel
theorem dX6_noiseBits_25 : decode cX6_noiseBits 25 = .ok (.ifCond .lt 11, 3) := by decide +kernel
theorem dX6_noiseBits_28 : decode cX6_noiseBits 28 = .ok (.fload_n 1, 1) := by decide +kernel
theorem dX6_noiseBits_29 : decode cX6_noiseBits 29 = .ok (.aload_n 0, 1) := by decide +kernel
theorem dX6_noiseBits_30 : decode cX6_noiseBits 30 = .ok (.iload_n 2, 1) := by decide +kernel
theorem dX6_noiseBits_31 : decode cX6_noiseBits 31 = .ok (.invokevirtual 167, 3) := by decide +kernel
theorem dX6_noiseBits_34 : decode cX6_noiseBits 34 = .ok (.fadd, 1) := by decide +kernel
theorem dX6_noiseBits_35 : decode cX6_noiseBits 35 = .ok (.fstore_n 1, 1) := by decide +kernel
theorem dX6_noiseBits_36 : decode cX6_noiseBits 36 = .ok (.iinc 2 1, 3) := by decide +kernel
theorem dX6_noiseBits_39 : decode cX6_noiseBits 39 = .ok (.goto (-30), 3) := by decide +kernel
theorem dX6_noiseBits_42 : decode cX6_noiseBits 42 = .ok (.fload_n 1, 1) := by decide +kernel
theorem dX6_noiseBits_43 : decode cX6_noiseBits 43 = .ok (.invokestatic 157, 3) := by decide +kernel
theorem dX6_noiseBits_46 : decode cX6_noiseBits 46 = .ok (.ireturn, 1) := by decide +kernel
set_option maxRecDepth 20000 in
theorem ggX6_night_X6_keeps : GoodIn wsX6_night wsX6_keeps := goodIn_ca (goodIn_r _ [6, 7, 8, 9, 10, 11, 12, 5, 13, 33, 34, 35, 36, 37, 38, 39, 40, 41, 42, 43, 44, 45, 46, 47, 48, 49, 50, 51, 52] (by decide +kernel) (by decide +kernel)) (goodIn_sub (fun _ h => List.mem_cons_of_mem _ (List.mem_append_right _ h)) (by decide +kernel))
set_option maxRecDepth 20000 in
theorem gX6_night_X6_keeps : GoodIn wsX6_night (wsV RX6 84 RX6 yX6_keeps wsX6_keeps) := goodIn_app (goodIn_of _ (by decide +kernel)) ggX6_night_X6_keeps
set_option maxRecDepth 20000 in
theorem ggX6_night_X6_of : GoodIn wsX6_night wsX6_of := goodIn_ca (goodIn_r _ [17, 1, 33, 34, 35, 36, 37, 38, 39, 40, 41, 42, 43, 44, 45, 46, 47, 48, 49, 50, 51, 52] (by decide +kernel) (by decide +kernel)) (goodIn_sub (fun _ h => List.mem_cons_of_mem _ (List.mem_append_right _ h)) (by decide +kernel))
set_option maxRecDepth 20000 in
theorem gX6_night_X6_of : GoodIn wsX6_night (wsV RX6 74 RX6 yX6_of wsX6_of) := goodIn_app (goodIn_of _ (by decide +kernel)) ggX6_night_X6_of
set_option maxRecDepth 20000 in
theorem ggX6_night_X6_isCat : GoodIn wsX6_night wsX6_isCat := goodIn_ca (goodIn_r _ [21, 22, 23, 24, 5, 25, 1, 33, 34, 35, 36, 37, 38, 39, 40, 41, 42, 43, 44, 45, 46, 47, 48, 49, 50, 51, 52] (by decide +kernel) (by decide +kernel)) (goodIn_sub (fun _ h => List.mem_cons_of_mem _ (List.mem_append_right _ h)) (by decide +kernel))
set_option maxRecDepth 20000 in
theorem gX6_night_X6_isCat : GoodIn wsX6_night (wsV RX6 70 RX6 yX6_isCat wsX6_isCat) := goodIn_app (goodIn_of _ (by decide +kernel)) ggX6_night_X6_isCat
set_option maxRecDepth 20000 in
theorem ggX6_night_X6_by : GoodIn wsX6_night wsX6_by := goodIn_ca (goodIn_r _ [25, 1, 33, 34, 35, 36, 37, 38, 39, 40, 41, 42, 43, 44, 45, 46, 47, 48, 49, 50, 51, 52] (by decide +kernel) (by decide +kernel)) (goodIn_sub (fun _ h => List.mem_cons_of_mem _ (List.mem_append_right _ h)) (by decide +kernel))
set_option maxRecDepth 20000 in
theorem gX6_night_X6_by : GoodIn wsX6_night (wsV RX6 66 RX6 yX6_by wsX6_by) := goodIn_app (goodIn_of _ (by decide +kernel)) ggX6_night_X6_by
set_option maxRecDepth 20000 in
theorem ggX6_night_X6_atMost : GoodIn wsX6_night wsX6_atMost := goodIn_r _ [28] (by decide +kernel) (by decide +kernel)
set_option maxRecDepth 20000 in
theorem gX6_night_X6_atMost : GoodIn wsX6_night (va_wsS RX6 150 yX6_atMost wsX6_atMost) := goodIn_app (goodIn_of _ (by decide +kernel)) ggX6_night_X6_atMost
set_option maxRecDepth 20000 in
theorem ggX6_night_X6_lays : GoodIn wsX6_night wsX6_lays := goodIn_ca (goodIn_r _ [32, 1, 33, 34, 35, 36, 37, 38, 39, 40, 41, 42, 43, 44, 45, 46, 47, 48, 49, 50, 51, 52] (by decide +kernel) (by decide +kernel)) (goodIn_sub (fun _ h => List.mem_cons_of_mem _ (List.mem_append_right _ h)) (by decide +kernel))
set_option maxRecDepth 20000 in
theorem gX6_night_X6_lays : GoodIn wsX6_night (wsV RX6 88 RX6 yX6_lays wsX6_lays) := goodIn_app (goodIn_of _ (by decide +kernel)) ggX6_night_X6_lays
theorem dX6_night_0 : decode cX6_night 0 = .ok (.aload_n 0, 1) := by decide +kernel
theorem dX6_night_1 : decode cX6_night 1 = .ok (.aload_n 0, 1) := by decide +kernel
theorem dX6_night_2 : decode cX6_night 2 = .ok (.getfield 7, 3) := by decide +kernel
theorem dX6_night_5 : decode cX6_night 5 = .ok (.invokevirtual 84, 3) := by decide +kernel
theorem dX6_night_8 : decode cX6_night 8 = .ok (.iconst 0, 1) := by decide +kernel
theorem dX6_night_9 : decode cX6_night 9 = .ok (.istore_n 1, 1) := by decide +kernel
theorem dX6_night_10 : decode cX6_night 10 = .ok (.iconst 0, 1) := by decide +kernel
theorem dX6_night_11 : decode cX6_night 11 = .ok (.istore_n 2, 1) := by decide +kernel
theorem dX6_night_12 : decode cX6_night 12 = .ok (.iload_n 2, 1) := by decide +kernel
theorem dX6_night_13 : decode cX6_night 13 = .ok (.aload_n 0, 1) := by decide +kernel
theorem dX6_night_14 : decode cX6_night 14 = .ok (.getfield 7, 3) := by decide +kernel
theorem dX6_night_17 : decode cX6_night 17 = .ok (.iconst 0, 1) := by decide +kernel
theorem dX6_night_18 : decode cX6_night 18 = .ok (.iaload, 1) := by decide +kernel
theorem dX6_night_19 : decode cX6_night 19 = .ok (.if_icmp .ge 114, 3) := by decide +kernel
theorem dX6_night_22 : decode cX6_night 22 = .ok (.aload_n 0, 1) := by decide +kernel
theorem dX6_night_23 : decode cX6_night 23 = .ok (.iload_n 2, 1) := by decide +kernel
theorem dX6_night_24 : decode cX6_night 24 = .ok (.iconst 5, 1) := by decide +kernel
theorem dX6_night_25 : decode cX6_night 25 = .ok (.invokevirtual 74, 3) := by decide +kernel
theorem dX6_night_28 : decode cX6_night 28 = .ok (.ifCond .ge 6, 3) := by decide +kernel
theorem dX6_night_31 : decode cX6_night 31 = .ok (.goto 96, 3) := by decide +kernel
theorem dX6_night_34 : decode cX6_night 34 = .ok (.iload_n 1, 1) := by decide +kernel
theorem dX6_night_35 : decode cX6_night 35 = .ok (.aload_n 0, 1) := by decide +kernel
theorem dX6_night_36 : decode cX6_night 36 = .ok (.iload_n 2, 1) := by decide +kernel
theorem dX6_night_37 : decode cX6_night 37 = .ok (.iconst 2, 1) := by decide +kernel
theorem dX6_night_38 : decode cX6_night 38 = .ok (.invokevirtual 74, 3) := by decide +kernel
theorem dX6_night_41 : decode cX6_night 41 = .ok (.ifCond .ne 20, 3) := by decide +kernel
theorem dX6_night_44 : decode cX6_night 44 = .ok (.aload_n 0, 1) := by decide +kernel
theorem dX6_night_45 : decode cX6_night 45 = .ok (.aload_n 0, 1) := by decide +kernel
theorem dX6_night_46 : decode cX6_night 46 = .ok (.iload_n 2, 1) := by decide +kernel
theorem dX6_night_47 : decode cX6_night 47 = .ok (.iconst 5, 1) := by decide +kernel
theorem dX6_night_48 : decode cX6_night 48 = .ok (.invokevirtual 74, 3) := by decide +kernel
theorem dX6_night_51 : decode cX6_night 51 = .ok (.invokevirtual 70, 3) := by decide +kernel
theorem dX6_night_54 : decode cX6_night 54 = .ok (.ifCond .ne 7, 3) := by decide +kernel
theorem dX6_night_57 : decode cX6_night 57 = .ok (.iconst 1, 1) := by decide +kernel
theorem dX6_night_58 : decode cX6_night 58 = .ok (.goto 4, 3) := by decide +kernel
theorem dX6_night_61 : decode cX6_night 61 = .ok (.iconst 0, 1) := by decide +kernel
theorem dX6_night_62 : decode cX6_night 62 = .ok (.iadd, 1) := by decide +kernel
theorem dX6_night_63 : decode cX6_night 63 = .ok (.istore_n 1, 1) := by decide +kernel
theorem dX6_night_64 : decode cX6_night 64 = .ok (.aload_n 0, 1) := by decide +kernel
theorem dX6_night_65 : decode cX6_night 65 = .ok (.aload_n 0, 1) := by decide +kernel
theorem dX6_night_66 : decode cX6_night 66 = .ok (.iload_n 2, 1) := by decide +kernel
theorem dX6_night_67 : decode cX6_night 67 = .ok (.iconst 5, 1) := by decide +kernel
theorem dX6_night_68 : decode cX6_night 68 = .ok (.invokevirtual 74, 3) := by decide +kernel
theorem dX6_night_71 : decode cX6_night 71 = .ok (.iconst 1, 1) := by decide +kernel
theorem dX6_night_72 : decode cX6_night 72 = .ok (.invokevirtual 66, 3) := by decide +kernel
theorem dX6_night_75 : decode cX6_night 75 = .ok (.bipush 100, 2) := by decide +kernel
theorem dX6_night_77 : decode cX6_night 77 = .ok (.if_icmp .le 22, 3) := by decide +kernel
theorem dX6_night_80 : decode cX6_night 80 = .ok (.aload_n 0, 1) := by decide +kernel
theorem dX6_night_81 : decode cX6_night 81 = .ok (.iload_n 2, 1) := by decide +kernel
theorem dX6_night_82 : decode cX6_night 82 = .ok (.iconst 2, 1) := by decide +kernel
theorem dX6_night_83 : decode cX6_night 83 = .ok (.aload_n 0, 1) := by decide +kernel
theorem dX6_night_84 : decode cX6_night 84 = .ok (.iload_n 2, 1) := by decide +kernel
theorem dX6_night_85 : decode cX6_night 85 = .ok (.iconst 2, 1) := by decide +kernel
theorem dX6_night_86 : decode cX6_night 86 = .ok (.invokevirtual 74, 3) := by decide +kernel
theorem dX6_night_89 : decode cX6_night 89 = .ok (.iconst 1, 1) := by decide +kernel
theorem dX6_night_90 : decode cX6_night 90 = .ok (.iadd, 1) := by decide +kernel
theorem dX6_night_91 : decode cX6_night 91 = .ok (.bipush 9, 2) := by decide +kernel
theorem dX6_night_93 : decode cX6_night 93 = .ok (.invokestatic 150, 3) := by decide +kernel
theorem dX6_night_96 : decode cX6_night 96 = .ok (.invokevirtual 88, 3) := by decide +kernel
theorem dX6_night_99 : decode cX6_night 99 = .ok (.aload_n 0, 1) := by decide +kernel
theorem dX6_night_100 : decode cX6_night 100 = .ok (.iload_n 2, 1) := by decide +kernel
theorem dX6_night_101 : decode cX6_night 101 = .ok (.iconst 2, 1) := by decide +kernel
theorem dX6_night_102 : decode cX6_night 102 = .ok (.invokevirtual 74, 3) := by decide +kernel
theorem dX6_night_105 : decode cX6_night 105 = .ok (.ifCond .le 22, 3) := by decide +kernel
theorem dX6_night_108 : decode cX6_night 108 = .ok (.aload_n 0, 1) := by decide +kernel
theorem dX6_night_109 : decode cX6_night 109 = .ok (.iload_n 2, 1) := by decide +kernel
theorem dX6_night_110 : decode cX6_night 110 = .ok (.iconst 1, 1) := by decide +kernel
theorem dX6_night_111 : decode cX6_night 111 = .ok (.aload_n 0, 1) := by decide +kernel
theorem dX6_night_112 : decode cX6_night 112 = .ok (.iload_n 2, 1) := by decide +kernel
theorem dX6_night_113 : decode cX6_night 113 = .ok (.iconst 1, 1) := by decide +kernel
theorem dX6_night_114 : decode cX6_night 114 = .ok (.invokevirtual 74, 3) := by decide +kernel
theorem dX6_night_117 : decode cX6_night 117 = .ok (.iconst 1, 1) := by decide +kernel
theorem dX6_night_118 : decode cX6_night 118 = .ok (.iadd, 1) := by decide +kernel
theorem dX6_night_119 : decode cX6_night 119 = .ok (.bipush 9, 2) := by decide +kernel
theorem dX6_night_121 : decode cX6_night 121 = .ok (.invokestatic 150, 3) := by decide +kernel
theorem dX6_night_124 : decode cX6_night 124 = .ok (.invokevirtual 88, 3) := by decide +kernel
theorem dX6_night_127 : decode cX6_night 127 = .ok (.iinc 2 1, 3) := by decide +kernel
theorem dX6_night_130 : decode cX6_night 130 = .ok (.goto (-118), 3) := by decide +kernel
theorem dX6_night_133 : decode cX6_night 133 = .ok (.aload_n 0, 1) := by decide +kernel
theorem dX6_night_134 : decode cX6_night 134 = .ok (.getfield 7, 3) := by decide +kernel
theorem dX6_night_137 : decode cX6_night 137 = .ok (.iconst 2, 1) := by decide +kernel
theorem dX6_night_138 : decode cX6_night 138 = .ok (.dup2, 1) := by decide +kernel
theorem dX6_night_139 : decode cX6_night 139 = .ok (.iaload, 1) := by decide +kernel
theorem dX6_night_140 : decode cX6_night 140 = .ok (.iload_n 1, 1) := by decide +kernel
theorem dX6_night_141 : decode cX6_night 141 = .ok (.iadd, 1) := by decide +kernel
theorem dX6_night_142 : decode cX6_night 142 = .ok (.iastore, 1) := by decide +kernel
theorem dX6_night_143 : decode cX6_night 143 = .ok (.aload_n 0, 1) := by decide +kernel
theorem dX6_night_144 : decode cX6_night 144 = .ok (.getfield 7, 3) := by decide +kernel
theorem dX6_night_147 : decode cX6_night 147 = .ok (.iconst 5, 1) := by decide +kernel
theorem dX6_night_148 : decode cX6_night 148 = .ok (.dup2, 1) := by decide +kernel
theorem dX6_night_149 : decode cX6_night 149 = .ok (.iaload, 1) := by decide +kernel
theorem dX6_night_150 : decode cX6_night 150 = .ok (.iload_n 1, 1) := by decide +kernel
theorem dX6_night_151 : decode cX6_night 151 = .ok (.iadd, 1) := by decide +kernel
theorem dX6_night_152 : decode cX6_night 152 = .ok (.iastore, 1) := by decide +kernel
theorem dX6_night_153 : decode cX6_night 153 = .ok (.aload_n 0, 1) := by decide +kernel
theorem dX6_night_154 : decode cX6_night 154 = .ok (.getfield 7, 3) := by decide +kernel
theorem dX6_night_157 : decode cX6_night 157 = .ok (.iconst 3, 1) := by decide +kernel
theorem dX6_night_158 : decode cX6_night 158 = .ok (.dup2, 1) := by decide +kernel
theorem dX6_night_159 : decode cX6_night 159 = .ok (.iaload, 1) := by decide +kernel
theorem dX6_night_160 : decode cX6_night 160 = .ok (.iconst 1, 1) := by decide +kernel
theorem dX6_night_161 : decode cX6_night 161 = .ok (.iadd, 1) := by decide +kernel
theorem dX6_night_162 : decode cX6_night 162 = .ok (.iastore, 1) := by decide +kernel
theorem dX6_night_163 : decode cX6_night 163 = .ok (.iload_n 1, 1) := by decide +kernel
theorem dX6_night_164 : decode cX6_night 164 = .ok (.ireturn, 1) := by decide +kernel
set_option maxRecDepth 20000 in
theorem ggX6_tilted_X6_tiltOf : GoodIn wsX6_tilted wsX6_tiltOf := goodIn_ca (goodIn_r _ [7, 8, 9, 10, 6, 11, 1, 12, 13, 14, 15, 16, 17, 18, 19, 20, 21, 22, 23, 24, 25, 26, 27, 28, 29, 30, 31] (by decide +kernel) (by decide +kernel)) (goodIn_sub (fun _ h => List.mem_cons_of_mem _ (List.mem_append_right _ h)) (by decide +kernel))
set_option maxRecDepth 20000 in
theorem gX6_tilted_X6_tiltOf : GoodIn wsX6_tilted (wsV RX6 153 RX6 yX6_tiltOf wsX6_tiltOf) := goodIn_app (goodIn_of _ (by decide +kernel)) ggX6_tilted_X6_tiltOf
theorem dX6_tilted_0 : decode cX6_tilted 0 = .ok (.iconst 0, 1) := by decide +kernel
theorem dX6_tilted_1 : decode cX6_tilted 1 = .ok (.istore_n 2, 1) := by decide +kernel
theorem dX6_tilted_2 : decode cX6_tilted 2 = .ok (.iload_n 2, 1) := by decide +kernel
theorem dX6_tilted_3 : decode cX6_tilted 3 = .ok (.aload_n 0, 1) := by decide +kernel
theorem dX6_tilted_4 : decode cX6_tilted 4 = .ok (.getfield 7, 3) := by decide +kernel
theorem dX6_tilted_7 : decode cX6_tilted 7 = .ok (.iconst 0, 1) := by decide +kernel
theorem dX6_tilted_8 : decode cX6_tilted 8 = .ok (.iaload, 1) := by decide +kernel
theorem dX6_tilted_9 : decode cX6_tilted 9 = .ok (.if_icmp .ge 90, 3) := by decide +kernel
theorem dX6_tilted_12 : decode cX6_tilted 12 = .ok (.iconst 0, 1) := by decide +kernel
theorem dX6_tilted_13 : decode cX6_tilted 13 = .ok (.istore_n 3, 1) := by decide +kernel
theorem dX6_tilted_14 : decode cX6_tilted 14 = .ok (.iconst 0, 1) := by decide +kernel
theorem dX6_tilted_15 : decode cX6_tilted 15 = .ok (.istore 4, 2) := by decide +kernel
theorem dX6_tilted_17 : decode cX6_tilted 17 = .ok (.iload 4, 2) := by decide +kernel
theorem dX6_tilted_19 : decode cX6_tilted 19 = .ok (.aload_n 0, 1) := by decide +kernel
theorem dX6_tilted_20 : decode cX6_tilted 20 = .ok (.getfield 7, 3) := by decide +kernel
theorem dX6_tilted_23 : decode cX6_tilted 23 = .ok (.iconst 0, 1) := by decide +kernel
theorem dX6_tilted_24 : decode cX6_tilted 24 = .ok (.iaload, 1) := by decide +kernel
theorem dX6_tilted_25 : decode cX6_tilted 25 = .ok (.if_icmp .ge 53, 3) := by decide +kernel
theorem dX6_tilted_28 : decode cX6_tilted 28 = .ok (.iload_n 3, 1) := by decide +kernel
theorem dX6_tilted_29 : decode cX6_tilted 29 = .ok (.aload_n 0, 1) := by decide +kernel
theorem dX6_tilted_30 : decode cX6_tilted 30 = .ok (.iload 4, 2) := by decide +kernel
theorem dX6_tilted_32 : decode cX6_tilted 32 = .ok (.invokevirtual 153, 3) := by decide +kernel
theorem dX6_tilted_35 : decode cX6_tilted 35 = .ok (.aload_n 0, 1) := by decide +kernel
theorem dX6_tilted_36 : decode cX6_tilted 36 = .ok (.iload_n 2, 1) := by decide +kernel
theorem dX6_tilted_37 : decode cX6_tilted 37 = .ok (.invokevirtual 153, 3) := by decide +kernel
theorem dX6_tilted_40 : decode cX6_tilted 40 = .ok (.fcmp .l, 1) := by decide +kernel
theorem dX6_tilted_41 : decode cX6_tilted 41 = .ok (.ifCond .gt 24, 3) := by decide +kernel
theorem dX6_tilted_44 : decode cX6_tilted 44 = .ok (.aload_n 0, 1) := by decide +kernel
theorem dX6_tilted_45 : decode cX6_tilted 45 = .ok (.iload 4, 2) := by decide +kernel
theorem dX6_tilted_47 : decode cX6_tilted 47 = .ok (.invokevirtual 153, 3) := by decide +kernel
theorem dX6_tilted_50 : decode cX6_tilted 50 = .ok (.aload_n 0, 1) := by decide +kernel
theorem dX6_tilted_51 : decode cX6_tilted 51 = .ok (.iload_n 2, 1) := by decide +kernel
theorem dX6_tilted_52 : decode cX6_tilted 52 = .ok (.invokevirtual 153, 3) := by decide +kernel
theorem dX6_tilted_55 : decode cX6_tilted 55 = .ok (.fcmp .l, 1) := by decide +kernel
theorem dX6_tilted_56 : decode cX6_tilted 56 = .ok (.ifCond .ne 13, 3) := by decide +kernel
theorem dX6_tilted_59 : decode cX6_tilted 59 = .ok (.iload 4, 2) := by decide +kernel
theorem dX6_tilted_61 : decode cX6_tilted 61 = .ok (.iload_n 2, 1) := by decide +kernel
theorem dX6_tilted_62 : decode cX6_tilted 62 = .ok (.if_icmp .ge 7, 3) := by decide +kernel
theorem dX6_tilted_65 : decode cX6_tilted 65 = .ok (.iconst 1, 1) := by decide +kernel
theorem dX6_tilted_66 : decode cX6_tilted 66 = .ok (.goto 4, 3) := by decide +kernel
theorem dX6_tilted_69 : decode cX6_tilted 69 = .ok (.iconst 0, 1) := by decide +kernel
theorem dX6_tilted_70 : decode cX6_tilted 70 = .ok (.iadd, 1) := by decide +kernel
theorem dX6_tilted_71 : decode cX6_tilted 71 = .ok (.istore_n 3, 1) := by decide +kernel
theorem dX6_tilted_72 : decode cX6_tilted 72 = .ok (.iinc 4 1, 3) := by decide +kernel
theorem dX6_tilted_75 : decode cX6_tilted 75 = .ok (.goto (-58), 3) := by decide +kernel
theorem dX6_tilted_78 : decode cX6_tilted 78 = .ok (.iload_n 3, 1) := by decide +kernel
theorem dX6_tilted_79 : decode cX6_tilted 79 = .ok (.iload_n 1, 1) := by decide +kernel
theorem dX6_tilted_80 : decode cX6_tilted 80 = .ok (.if_icmp .eq 6, 3) := by decide +kernel
theorem dX6_tilted_83 : decode cX6_tilted 83 = .ok (.goto 10, 3) := by decide +kernel
theorem dX6_tilted_86 : decode cX6_tilted 86 = .ok (.aload_n 0, 1) := by decide +kernel
theorem dX6_tilted_87 : decode cX6_tilted 87 = .ok (.iconst 0, 1) := by decide +kernel
theorem dX6_tilted_88 : decode cX6_tilted 88 = .ok (.putfield 39, 3) := by decide +kernel
theorem dX6_tilted_91 : decode cX6_tilted 91 = .ok (.iload_n 2, 1) := by decide +kernel
theorem dX6_tilted_92 : decode cX6_tilted 92 = .ok (.ireturn, 1) := by decide +kernel
theorem dX6_tilted_93 : decode cX6_tilted 93 = .ok (.iinc 2 1, 3) := by decide +kernel
theorem dX6_tilted_96 : decode cX6_tilted 96 = .ok (.goto (-94), 3) := by decide +kernel
theorem dX6_tilted_99 : decode cX6_tilted 99 = .ok (.aload_n 0, 1) := by decide +kernel
theorem dX6_tilted_100 : decode cX6_tilted 100 = .ok (.iconst 1, 1) := by decide +kernel
theorem dX6_tilted_101 : decode cX6_tilted 101 = .ok (.putfield 39, 3) := by decide +kernel
theorem dX6_tilted_104 : decode cX6_tilted 104 = .ok (.iconst 0, 1) := by decide +kernel
theorem dX6_tilted_105 : decode cX6_tilted 105 = .ok (.ireturn, 1) := by decide +kernel
set_option maxRecDepth 20000 in
theorem ggX6_ranked_X6_atPlace : GoodIn wsX6_ranked wsX6_atPlace := goodIn_ca (goodIn_r _ [5, 6, 7, 8, 9, 4, 10, 11, 12, 13, 14, 21, 22, 23, 24, 25, 26, 27, 28, 29, 30, 31, 32, 33, 34, 35, 36, 37, 38, 39, 40] (by decide +kernel) (by decide +kernel)) (goodIn_sub (fun _ h => List.mem_cons_of_mem _ (List.mem_append_right _ h)) (by decide +kernel))
set_option maxRecDepth 20000 in
theorem gX6_ranked_X6_atPlace : GoodIn wsX6_ranked (wsV RX6 128 RX6 yX6_atPlace wsX6_atPlace) := goodIn_app (goodIn_of _ (by decide +kernel)) ggX6_ranked_X6_atPlace
set_option maxRecDepth 20000 in
theorem ggX6_ranked_X6_fails : GoodIn wsX6_ranked wsX6_fails := goodIn_r _ [18, 19, 20, 21, 22, 23, 24, 25, 26, 27, 28, 29, 30, 31, 32, 33, 34, 35, 36, 37, 38, 39, 40] (by decide +kernel) (by decide +kernel)
set_option maxRecDepth 20000 in
theorem gX6_ranked_X6_fails : GoodIn wsX6_ranked (wsV RX6 77 RX6 yX6_fails wsX6_fails) := goodIn_app (goodIn_of _ (by decide +kernel)) ggX6_ranked_X6_fails
theorem dX6_ranked_0 : decode cX6_ranked 0 = .ok (.aload_n 0, 1) := by decide +kernel
theorem dX6_ranked_1 : decode cX6_ranked 1 = .ok (.aload_n 0, 1) := by decide +kernel
theorem dX6_ranked_2 : decode cX6_ranked 2 = .ok (.iload_n 1, 1) := by decide +kernel
theorem dX6_ranked_3 : decode cX6_ranked 3 = .ok (.invokevirtual 128, 3) := by decide +kernel
theorem dX6_ranked_6 : decode cX6_ranked 6 = .ok (.ifCond .ge 7, 3) := by decide +kernel
theorem dX6_ranked_9 : decode cX6_ranked 9 = .ok (.iconst 1, 1) := by decide +kernel
theorem dX6_ranked_10 : decode cX6_ranked 10 = .ok (.goto 4, 3) := by decide +kernel
theorem dX6_ranked_13 : decode cX6_ranked 13 = .ok (.iconst 0, 1) := by decide +kernel
theorem dX6_ranked_14 : decode cX6_ranked 14 = .ok (.invokevirtual 77, 3) := by decide +kernel
theorem dX6_ranked_17 : decode cX6_ranked 17 = .ok (.ifCond .eq 7, 3) := by decide +kernel
theorem dX6_ranked_20 : decode cX6_ranked 20 = .ok (.iconst 0, 1) := by decide +kernel
theorem dX6_ranked_21 : decode cX6_ranked 21 = .ok (.goto 8, 3) := by decide +kernel
theorem dX6_ranked_24 : decode cX6_ranked 24 = .ok (.aload_n 0, 1) := by decide +kernel
theorem dX6_ranked_25 : decode cX6_ranked 25 = .ok (.iload_n 1, 1) := by decide +kernel
theorem dX6_ranked_26 : decode cX6_ranked 26 = .ok (.invokevirtual 128, 3) := by decide +kernel
theorem dX6_ranked_29 : decode cX6_ranked 29 = .ok (.ireturn, 1) := by decide +kernel
theorem dX6_writes_0 : decode cX6_writes 0 = .ok (.aload_n 0, 1) := by decide +kernel
theorem dX6_writes_1 : decode cX6_writes 1 = .ok (.getfield 29, 3) := by decide +kernel
theorem dX6_writes_4 : decode cX6_writes 4 = .ok (.aload_n 0, 1) := by decide +kernel
theorem dX6_writes_5 : decode cX6_writes 5 = .ok (.getfield 170, 3) := by decide +kernel
theorem dX6_writes_8 : decode cX6_writes 8 = .ok (.iload_n 1, 1) := by decide +kernel
theorem dX6_writes_9 : decode cX6_writes 9 = .ok (.i2c, 1) := by decide +kernel
theorem dX6_writes_10 : decode cX6_writes 10 = .ok (.castore, 1) := by decide +kernel
theorem dX6_writes_11 : decode cX6_writes 11 = .ok (.aload_n 0, 1) := by decide +kernel
theorem dX6_writes_12 : decode cX6_writes 12 = .ok (.dup, 1) := by decide +kernel
theorem dX6_writes_13 : decode cX6_writes 13 = .ok (.getfield 170, 3) := by decide +kernel
theorem dX6_writes_16 : decode cX6_writes 16 = .ok (.iconst 1, 1) := by decide +kernel
theorem dX6_writes_17 : decode cX6_writes 17 = .ok (.iadd, 1) := by decide +kernel
theorem dX6_writes_18 : decode cX6_writes 18 = .ok (.putfield 170, 3) := by decide +kernel
theorem dX6_writes_21 : decode cX6_writes 21 = .ok (.return_, 1) := by decide +kernel
set_option maxRecDepth 20000 in
theorem ggX6_writesNumber_X6_writes : GoodIn wsX6_writesNumber wsX6_writes := goodIn_ca (goodIn_r _ [5, 6, 7, 8, 9, 10, 11, 12, 13, 14, 15, 16, 17, 18, 19, 20, 21, 22, 23, 24, 25, 26, 27] (by decide +kernel) (by decide +kernel)) (goodIn_sub (fun _ h => List.mem_cons_of_mem _ (List.mem_append_right _ h)) (by decide +kernel))
set_option maxRecDepth 20000 in
theorem gX6_writesNumber_X6_writes : GoodIn wsX6_writesNumber (wsV RX6 173 RX6 yX6_writes wsX6_writes) := goodIn_app (goodIn_of _ (by decide +kernel)) ggX6_writesNumber_X6_writes
theorem dX6_writesNumber_0 : decode cX6_writesNumber 0 = .ok (.iload_n 1, 1) := by decide +kernel
theorem dX6_writesNumber_1 : decode cX6_writesNumber 1 = .ok (.bipush 9, 2) := by decide +kernel
theorem dX6_writesNumber_3 : decode cX6_writesNumber 3 = .ok (.if_icmp .le 14, 3) := by decide +kernel
theorem dX6_writesNumber_6 : decode cX6_writesNumber 6 = .ok (.aload_n 0, 1) := by decide +kernel
theorem dX6_writesNumber_7 : decode cX6_writesNumber 7 = .ok (.bipush 48, 2) := by decide +kernel
theorem dX6_writesNumber_9 : decode cX6_writesNumber 9 = .ok (.iload_n 1, 1) := by decide +kernel
theorem dX6_writesNumber_10 : decode cX6_writesNumber 10 = .ok (.bipush 10, 2) := by decide +kernel
theorem dX6_writesNumber_12 : decode cX6_writesNumber 12 = .ok (.idiv, 1) := by decide +kernel
theorem dX6_writesNumber_13 : decode cX6_writesNumber 13 = .ok (.iadd, 1) := by decide +kernel
theorem dX6_writesNumber_14 : decode cX6_writesNumber 14 = .ok (.invokevirtual 173, 3) := by decide +kernel
theorem dX6_writesNumber_17 : decode cX6_writesNumber 17 = .ok (.aload_n 0, 1) := by decide +kernel
theorem dX6_writesNumber_18 : decode cX6_writesNumber 18 = .ok (.bipush 48, 2) := by decide +kernel
theorem dX6_writesNumber_20 : decode cX6_writesNumber 20 = .ok (.iload_n 1, 1) := by decide +kernel
theorem dX6_writesNumber_21 : decode cX6_writesNumber 21 = .ok (.bipush 10, 2) := by decide +kernel
theorem dX6_writesNumber_23 : decode cX6_writesNumber 23 = .ok (.irem, 1) := by decide +kernel
theorem dX6_writesNumber_24 : decode cX6_writesNumber 24 = .ok (.iadd, 1) := by decide +kernel
theorem dX6_writesNumber_25 : decode cX6_writesNumber 25 = .ok (.invokevirtual 173, 3) := by decide +kernel
theorem dX6_writesNumber_28 : decode cX6_writesNumber 28 = .ok (.return_, 1) := by decide +kernel
set_option maxRecDepth 20000 in
theorem ggX6_line_X6_of : GoodIn wsX6_line wsX6_of := goodIn_ca (goodIn_r _ [8, 3, 22, 23, 24, 25, 26, 27, 28, 29, 30, 31, 32, 33, 34, 35, 36, 37, 38, 39, 40, 41] (by decide +kernel) (by decide +kernel)) (goodIn_sub (fun _ h => List.mem_cons_of_mem _ (List.mem_append_right _ h)) (by decide +kernel))
set_option maxRecDepth 20000 in
theorem gX6_line_X6_of : GoodIn wsX6_line (wsV RX6 74 RX6 yX6_of wsX6_of) := goodIn_app (goodIn_of _ (by decide +kernel)) ggX6_line_X6_of
set_option maxRecDepth 20000 in
theorem ggX6_line_X6_writes : GoodIn wsX6_line wsX6_writes := goodIn_ca (goodIn_r _ [12, 13, 2, 22, 23, 24, 25, 26, 27, 28, 29, 30, 31, 32, 33, 34, 35, 36, 37, 38, 39, 40, 41] (by decide +kernel) (by decide +kernel)) (goodIn_sub (fun _ h => List.mem_cons_of_mem _ (List.mem_append_right _ h)) (by decide +kernel))
set_option maxRecDepth 20000 in
theorem gX6_line_X6_writes : GoodIn wsX6_line (wsV RX6 173 RX6 yX6_writes wsX6_writes) := goodIn_app (goodIn_of _ (by decide +kernel)) ggX6_line_X6_writes
set_option maxRecDepth 20000 in
theorem ggX6_line_X6_isCat : GoodIn wsX6_line wsX6_isCat := goodIn_ca (goodIn_r _ [17, 18, 19, 20, 7, 21, 3, 22, 23, 24, 25, 26, 27, 28, 29, 30, 31, 32, 33, 34, 35, 36, 37, 38, 39, 40, 41] (by decide +kernel) (by decide +kernel)) (goodIn_sub (fun _ h => List.mem_cons_of_mem _ (List.mem_append_right _ h)) (by decide +kernel))
set_option maxRecDepth 20000 in
theorem gX6_line_X6_isCat : GoodIn wsX6_line (wsV RX6 70 RX6 yX6_isCat wsX6_isCat) := goodIn_app (goodIn_of _ (by decide +kernel)) ggX6_line_X6_isCat
theorem dX6_line_0 : decode cX6_line 0 = .ok (.aload_n 0, 1) := by decide +kernel
theorem dX6_line_1 : decode cX6_line 1 = .ok (.iconst 0, 1) := by decide +kernel
theorem dX6_line_2 : decode cX6_line 2 = .ok (.putfield 39, 3) := by decide +kernel
theorem dX6_line_5 : decode cX6_line 5 = .ok (.aload_n 0, 1) := by decide +kernel
theorem dX6_line_6 : decode cX6_line 6 = .ok (.iconst 0, 1) := by decide +kernel
theorem dX6_line_7 : decode cX6_line 7 = .ok (.putfield 170, 3) := by decide +kernel
theorem dX6_line_10 : decode cX6_line 10 = .ok (.iconst 0, 1) := by decide +kernel
theorem dX6_line_11 : decode cX6_line 11 = .ok (.istore_n 1, 1) := by decide +kernel
theorem dX6_line_12 : decode cX6_line 12 = .ok (.iload_n 1, 1) := by decide +kernel
theorem dX6_line_13 : decode cX6_line 13 = .ok (.aload_n 0, 1) := by decide +kernel
theorem dX6_line_14 : decode cX6_line 14 = .ok (.getfield 7, 3) := by decide +kernel
theorem dX6_line_17 : decode cX6_line 17 = .ok (.iconst 0, 1) := by decide +kernel
theorem dX6_line_18 : decode cX6_line 18 = .ok (.iaload, 1) := by decide +kernel
theorem dX6_line_19 : decode cX6_line 19 = .ok (.if_icmp .ge 64, 3) := by decide +kernel
theorem dX6_line_22 : decode cX6_line 22 = .ok (.aload_n 0, 1) := by decide +kernel
theorem dX6_line_23 : decode cX6_line 23 = .ok (.iload_n 1, 1) := by decide +kernel
theorem dX6_line_24 : decode cX6_line 24 = .ok (.iconst 3, 1) := by decide +kernel
theorem dX6_line_25 : decode cX6_line 25 = .ok (.invokevirtual 74, 3) := by decide +kernel
theorem dX6_line_28 : decode cX6_line 28 = .ok (.iconst 1, 1) := by decide +kernel
theorem dX6_line_29 : decode cX6_line 29 = .ok (.if_icmp .ne 9, 3) := by decide +kernel
theorem dX6_line_32 : decode cX6_line 32 = .ok (.aload_n 0, 1) := by decide +kernel
theorem dX6_line_33 : decode cX6_line 33 = .ok (.bipush 124, 2) := by decide +kernel
theorem dX6_line_35 : decode cX6_line 35 = .ok (.invokevirtual 173, 3) := by decide +kernel
theorem dX6_line_38 : decode cX6_line 38 = .ok (.aload_n 0, 1) := by decide +kernel
theorem dX6_line_39 : decode cX6_line 39 = .ok (.iload_n 1, 1) := by decide +kernel
theorem dX6_line_40 : decode cX6_line 40 = .ok (.iconst 5, 1) := by decide +kernel
theorem dX6_line_41 : decode cX6_line 41 = .ok (.invokevirtual 74, 3) := by decide +kernel
theorem dX6_line_44 : decode cX6_line 44 = .ok (.istore_n 2, 1) := by decide +kernel
theorem dX6_line_45 : decode cX6_line 45 = .ok (.aload_n 0, 1) := by decide +kernel
theorem dX6_line_46 : decode cX6_line 46 = .ok (.iload_n 2, 1) := by decide +kernel
theorem dX6_line_47 : decode cX6_line 47 = .ok (.ifCond .ge 8, 3) := by decide +kernel
theorem dX6_line_50 : decode cX6_line 50 = .ok (.bipush 46, 2) := by decide +kernel
theorem dX6_line_52 : decode cX6_line 52 = .ok (.goto 22, 3) := by decide +kernel
theorem dX6_line_55 : decode cX6_line 55 = .ok (.aload_n 0, 1) := by decide +kernel
theorem dX6_line_56 : decode cX6_line 56 = .ok (.iload_n 2, 1) := by decide +kernel
theorem dX6_line_57 : decode cX6_line 57 = .ok (.invokevirtual 70, 3) := by decide +kernel
theorem dX6_line_60 : decode cX6_line 60 = .ok (.ifCond .eq 10, 3) := by decide +kernel
theorem dX6_line_63 : decode cX6_line 63 = .ok (.bipush 65, 2) := by decide +kernel
theorem dX6_line_65 : decode cX6_line 65 = .ok (.iload_n 2, 1) := by decide +kernel
theorem dX6_line_66 : decode cX6_line 66 = .ok (.iadd, 1) := by decide +kernel
theorem dX6_line_67 : decode cX6_line 67 = .ok (.goto 7, 3) := by decide +kernel
theorem dX6_line_70 : decode cX6_line 70 = .ok (.bipush 97, 2) := by decide +kernel
theorem dX6_line_72 : decode cX6_line 72 = .ok (.iload_n 2, 1) := by decide +kernel
theorem dX6_line_73 : decode cX6_line 73 = .ok (.iadd, 1) := by decide +kernel
theorem dX6_line_74 : decode cX6_line 74 = .ok (.invokevirtual 173, 3) := by decide +kernel
theorem dX6_line_77 : decode cX6_line 77 = .ok (.iinc 1 1, 3) := by decide +kernel
theorem dX6_line_80 : decode cX6_line 80 = .ok (.goto (-68), 3) := by decide +kernel
theorem dX6_line_83 : decode cX6_line 83 = .ok (.aload_n 0, 1) := by decide +kernel
theorem dX6_line_84 : decode cX6_line 84 = .ok (.getfield 170, 3) := by decide +kernel
theorem dX6_line_87 : decode cX6_line 87 = .ok (.ireturn, 1) := by decide +kernel
set_option maxRecDepth 20000 in
theorem ggX6_stoolLine_X6_isStool : GoodIn wsX6_stoolLine wsX6_isStool := goodIn_ca (goodIn_r _ [6, 7, 8, 9, 5, 10, 30, 31, 32, 33, 34, 35, 36, 37, 38, 39, 40, 41, 42, 43, 44, 45, 46, 47, 48, 49] (by decide +kernel) (by decide +kernel)) (goodIn_sub (fun _ h => List.mem_cons_of_mem _ (List.mem_append_right _ h)) (by decide +kernel))
set_option maxRecDepth 20000 in
theorem gX6_stoolLine_X6_isStool : GoodIn wsX6_stoolLine (wsV RX6 106 RX6 yX6_isStool wsX6_isStool) := goodIn_app (goodIn_of _ (by decide +kernel)) ggX6_stoolLine_X6_isStool
set_option maxRecDepth 20000 in
theorem ggX6_stoolLine_X6_fails : GoodIn wsX6_stoolLine wsX6_fails := goodIn_r _ [14, 15, 16, 30, 31, 32, 33, 34, 35, 36, 37, 38, 39, 40, 41, 42, 43, 44, 45, 46, 47, 48, 49] (by decide +kernel) (by decide +kernel)
set_option maxRecDepth 20000 in
theorem gX6_stoolLine_X6_fails : GoodIn wsX6_stoolLine (wsV RX6 77 RX6 yX6_fails wsX6_fails) := goodIn_app (goodIn_of _ (by decide +kernel)) ggX6_stoolLine_X6_fails
set_option maxRecDepth 20000 in
theorem ggX6_stoolLine_X6_writesNumber : GoodIn wsX6_stoolLine wsX6_writesNumber := goodIn_ca (goodIn_r _ [20, 21, 22, 23, 5, 24, 25, 1, 30, 31, 32, 33, 34, 35, 36, 37, 38, 39, 40, 41, 42, 43, 44, 45, 46, 47, 48, 49] (by decide +kernel) (by decide +kernel)) (goodIn_sub (fun _ h => List.mem_cons_of_mem _ (List.mem_append_right _ h)) (by decide +kernel))
set_option maxRecDepth 20000 in
theorem gX6_stoolLine_X6_writesNumber : GoodIn wsX6_stoolLine (wsV RX6 177 RX6 yX6_writesNumber wsX6_writesNumber) := goodIn_app (goodIn_of _ (by decide +kernel)) ggX6_stoolLine_X6_writesNumber
set_option maxRecDepth 20000 in
theorem ggX6_stoolLine_X6_writes : GoodIn wsX6_stoolLine wsX6_writes := goodIn_ca (goodIn_r _ [24, 25, 1, 30, 31, 32, 33, 34, 35, 36, 37, 38, 39, 40, 41, 42, 43, 44, 45, 46, 47, 48, 49] (by decide +kernel) (by decide +kernel)) (goodIn_sub (fun _ h => List.mem_cons_of_mem _ (List.mem_append_right _ h)) (by decide +kernel))
set_option maxRecDepth 20000 in
theorem gX6_stoolLine_X6_writes : GoodIn wsX6_stoolLine (wsV RX6 173 RX6 yX6_writes wsX6_writes) := goodIn_app (goodIn_of _ (by decide +kernel)) ggX6_stoolLine_X6_writes
set_option maxRecDepth 20000 in
theorem ggX6_stoolLine_X6_of : GoodIn wsX6_stoolLine wsX6_of := goodIn_ca (goodIn_r _ [29, 7, 30, 31, 32, 33, 34, 35, 36, 37, 38, 39, 40, 41, 42, 43, 44, 45, 46, 47, 48, 49] (by decide +kernel) (by decide +kernel)) (goodIn_sub (fun _ h => List.mem_cons_of_mem _ (List.mem_append_right _ h)) (by decide +kernel))
set_option maxRecDepth 20000 in
theorem gX6_stoolLine_X6_of : GoodIn wsX6_stoolLine (wsV RX6 74 RX6 yX6_of wsX6_of) := goodIn_app (goodIn_of _ (by decide +kernel)) ggX6_stoolLine_X6_of
theorem dX6_stoolLine_0 : decode cX6_stoolLine 0 = .ok (.aload_n 0, 1) := by decide +kernel
theorem dX6_stoolLine_1 : decode cX6_stoolLine 1 = .ok (.aload_n 0, 1) := by decide +kernel
theorem dX6_stoolLine_2 : decode cX6_stoolLine 2 = .ok (.iload_n 1, 1) := by decide +kernel
theorem dX6_stoolLine_3 : decode cX6_stoolLine 3 = .ok (.invokevirtual 106, 3) := by decide +kernel
theorem dX6_stoolLine_6 : decode cX6_stoolLine 6 = .ok (.ifCond .eq 7, 3) := by decide +kernel
theorem dX6_stoolLine_9 : decode cX6_stoolLine 9 = .ok (.iconst 0, 1) := by decide +kernel
theorem dX6_stoolLine_10 : decode cX6_stoolLine 10 = .ok (.goto 4, 3) := by decide +kernel
theorem dX6_stoolLine_13 : decode cX6_stoolLine 13 = .ok (.iconst 1, 1) := by decide +kernel
theorem dX6_stoolLine_14 : decode cX6_stoolLine 14 = .ok (.invokevirtual 77, 3) := by decide +kernel
theorem dX6_stoolLine_17 : decode cX6_stoolLine 17 = .ok (.ifCond .eq 5, 3) := by decide +kernel
theorem dX6_stoolLine_20 : decode cX6_stoolLine 20 = .ok (.iconst 0, 1) := by decide +kernel
theorem dX6_stoolLine_21 : decode cX6_stoolLine 21 = .ok (.ireturn, 1) := by decide +kernel
theorem dX6_stoolLine_22 : decode cX6_stoolLine 22 = .ok (.aload_n 0, 1) := by decide +kernel
theorem dX6_stoolLine_23 : decode cX6_stoolLine 23 = .ok (.iconst 0, 1) := by decide +kernel
theorem dX6_stoolLine_24 : decode cX6_stoolLine 24 = .ok (.putfield 170, 3) := by decide +kernel
theorem dX6_stoolLine_27 : decode cX6_stoolLine 27 = .ok (.aload_n 0, 1) := by decide +kernel
theorem dX6_stoolLine_28 : decode cX6_stoolLine 28 = .ok (.iload_n 1, 1) := by decide +kernel
theorem dX6_stoolLine_29 : decode cX6_stoolLine 29 = .ok (.invokevirtual 177, 3) := by decide +kernel
theorem dX6_stoolLine_32 : decode cX6_stoolLine 32 = .ok (.aload_n 0, 1) := by decide +kernel
theorem dX6_stoolLine_33 : decode cX6_stoolLine 33 = .ok (.bipush 94, 2) := by decide +kernel
theorem dX6_stoolLine_35 : decode cX6_stoolLine 35 = .ok (.invokevirtual 173, 3) := by decide +kernel
theorem dX6_stoolLine_38 : decode cX6_stoolLine 38 = .ok (.aload_n 0, 1) := by decide +kernel
theorem dX6_stoolLine_39 : decode cX6_stoolLine 39 = .ok (.aload_n 0, 1) := by decide +kernel
theorem dX6_stoolLine_40 : decode cX6_stoolLine 40 = .ok (.iload_n 1, 1) := by decide +kernel
theorem dX6_stoolLine_41 : decode cX6_stoolLine 41 = .ok (.iconst 0, 1) := by decide +kernel
theorem dX6_stoolLine_42 : decode cX6_stoolLine 42 = .ok (.invokevirtual 74, 3) := by decide +kernel
theorem dX6_stoolLine_45 : decode cX6_stoolLine 45 = .ok (.invokevirtual 177, 3) := by decide +kernel
theorem dX6_stoolLine_48 : decode cX6_stoolLine 48 = .ok (.aload_n 0, 1) := by decide +kernel
theorem dX6_stoolLine_49 : decode cX6_stoolLine 49 = .ok (.bipush 126, 2) := by decide +kernel
theorem dX6_stoolLine_51 : decode cX6_stoolLine 51 = .ok (.invokevirtual 173, 3) := by decide +kernel
theorem dX6_stoolLine_54 : decode cX6_stoolLine 54 = .ok (.aload_n 0, 1) := by decide +kernel
theorem dX6_stoolLine_55 : decode cX6_stoolLine 55 = .ok (.aload_n 0, 1) := by decide +kernel
theorem dX6_stoolLine_56 : decode cX6_stoolLine 56 = .ok (.iload_n 1, 1) := by decide +kernel
theorem dX6_stoolLine_57 : decode cX6_stoolLine 57 = .ok (.iconst 2, 1) := by decide +kernel
theorem dX6_stoolLine_58 : decode cX6_stoolLine 58 = .ok (.invokevirtual 74, 3) := by decide +kernel
theorem dX6_stoolLine_61 : decode cX6_stoolLine 61 = .ok (.invokevirtual 177, 3) := by decide +kernel
theorem dX6_stoolLine_64 : decode cX6_stoolLine 64 = .ok (.iconst 0, 1) := by decide +kernel
theorem dX6_stoolLine_65 : decode cX6_stoolLine 65 = .ok (.istore_n 2, 1) := by decide +kernel
theorem dX6_stoolLine_66 : decode cX6_stoolLine 66 = .ok (.iload_n 2, 1) := by decide +kernel
theorem dX6_stoolLine_67 : decode cX6_stoolLine 67 = .ok (.aload_n 0, 1) := by decide +kernel
theorem dX6_stoolLine_68 : decode cX6_stoolLine 68 = .ok (.iload_n 1, 1) := by decide +kernel
theorem dX6_stoolLine_69 : decode cX6_stoolLine 69 = .ok (.iconst 1, 1) := by decide +kernel
theorem dX6_stoolLine_70 : decode cX6_stoolLine 70 = .ok (.invokevirtual 74, 3) := by decide +kernel
theorem dX6_stoolLine_73 : decode cX6_stoolLine 73 = .ok (.if_icmp .ge 15, 3) := by decide +kernel
theorem dX6_stoolLine_76 : decode cX6_stoolLine 76 = .ok (.aload_n 0, 1) := by decide +kernel
theorem dX6_stoolLine_77 : decode cX6_stoolLine 77 = .ok (.bipush 39, 2) := by decide +kernel
theorem dX6_stoolLine_79 : decode cX6_stoolLine 79 = .ok (.invokevirtual 173, 3) := by decide +kernel
theorem dX6_stoolLine_82 : decode cX6_stoolLine 82 = .ok (.iinc 2 1, 3) := by decide +kernel
theorem dX6_stoolLine_85 : decode cX6_stoolLine 85 = .ok (.goto (-19), 3) := by decide +kernel
theorem dX6_stoolLine_88 : decode cX6_stoolLine 88 = .ok (.iconst 0, 1) := by decide +kernel
theorem dX6_stoolLine_89 : decode cX6_stoolLine 89 = .ok (.istore_n 2, 1) := by decide +kernel
theorem dX6_stoolLine_90 : decode cX6_stoolLine 90 = .ok (.iload_n 2, 1) := by decide +kernel
theorem dX6_stoolLine_91 : decode cX6_stoolLine 91 = .ok (.aload_n 0, 1) := by decide +kernel
theorem dX6_stoolLine_92 : decode cX6_stoolLine 92 = .ok (.iload_n 1, 1) := by decide +kernel
theorem dX6_stoolLine_93 : decode cX6_stoolLine 93 = .ok (.iconst 4, 1) := by decide +kernel
theorem dX6_stoolLine_94 : decode cX6_stoolLine 94 = .ok (.invokevirtual 74, 3) := by decide +kernel
theorem dX6_stoolLine_97 : decode cX6_stoolLine 97 = .ok (.if_icmp .ge 15, 3) := by decide +kernel
theorem dX6_stoolLine_100 : decode cX6_stoolLine 100 = .ok (.aload_n 0, 1) := by decide +kernel
theorem dX6_stoolLine_101 : decode cX6_stoolLine 101 = .ok (.bipush 111, 2) := by decide +kernel
theorem dX6_stoolLine_103 : decode cX6_stoolLine 103 = .ok (.invokevirtual 173, 3) := by decide +kernel
theorem dX6_stoolLine_106 : decode cX6_stoolLine 106 = .ok (.iinc 2 1, 3) := by decide +kernel
theorem dX6_stoolLine_109 : decode cX6_stoolLine 109 = .ok (.goto (-19), 3) := by decide +kernel
theorem dX6_stoolLine_112 : decode cX6_stoolLine 112 = .ok (.aload_n 0, 1) := by decide +kernel
theorem dX6_stoolLine_113 : decode cX6_stoolLine 113 = .ok (.getfield 170, 3) := by decide +kernel
theorem dX6_stoolLine_116 : decode cX6_stoolLine 116 = .ok (.ireturn, 1) := by decide +kernel
set_option maxRecDepth 20000 in
theorem ggX6_character_X6_in : GoodIn wsX6_character wsX6_in := goodIn_r _ [6] (by decide +kernel) (by decide +kernel)
set_option maxRecDepth 20000 in
theorem gX6_character_X6_in : GoodIn wsX6_character (va_wsS RX6 62 yX6_in wsX6_in) := goodIn_app (goodIn_of _ (by decide +kernel)) ggX6_character_X6_in
set_option maxRecDepth 20000 in
theorem ggX6_character_X6_fails : GoodIn wsX6_character wsX6_fails := goodIn_r _ [10, 11, 12, 13, 14, 15, 16, 17, 18, 19, 20, 21, 22, 23, 24, 25, 26, 27, 28, 29, 30, 31, 32] (by decide +kernel) (by decide +kernel)
set_option maxRecDepth 20000 in
theorem gX6_character_X6_fails : GoodIn wsX6_character (wsV RX6 77 RX6 yX6_fails wsX6_fails) := goodIn_app (goodIn_of _ (by decide +kernel)) ggX6_character_X6_fails
theorem dX6_character_0 : decode cX6_character 0 = .ok (.aload_n 0, 1) := by decide +kernel
theorem dX6_character_1 : decode cX6_character 1 = .ok (.iload_n 1, 1) := by decide +kernel
theorem dX6_character_2 : decode cX6_character 2 = .ok (.iconst 0, 1) := by decide +kernel
theorem dX6_character_3 : decode cX6_character 3 = .ok (.aload_n 0, 1) := by decide +kernel
theorem dX6_character_4 : decode cX6_character 4 = .ok (.getfield 170, 3) := by decide +kernel
theorem dX6_character_7 : decode cX6_character 7 = .ok (.iconst 1, 1) := by decide +kernel
theorem dX6_character_8 : decode cX6_character 8 = .ok (.isub, 1) := by decide +kernel
theorem dX6_character_9 : decode cX6_character 9 = .ok (.invokestatic 62, 3) := by decide +kernel
theorem dX6_character_12 : decode cX6_character 12 = .ok (.ifCond .eq 7, 3) := by decide +kernel
theorem dX6_character_15 : decode cX6_character 15 = .ok (.iconst 0, 1) := by decide +kernel
theorem dX6_character_16 : decode cX6_character 16 = .ok (.goto 4, 3) := by decide +kernel
theorem dX6_character_19 : decode cX6_character 19 = .ok (.iconst 1, 1) := by decide +kernel
theorem dX6_character_20 : decode cX6_character 20 = .ok (.invokevirtual 77, 3) := by decide +kernel
theorem dX6_character_23 : decode cX6_character 23 = .ok (.ifCond .eq 8, 3) := by decide +kernel
theorem dX6_character_26 : decode cX6_character 26 = .ok (.bipush 32, 2) := by decide +kernel
theorem dX6_character_28 : decode cX6_character 28 = .ok (.goto 9, 3) := by decide +kernel
theorem dX6_character_31 : decode cX6_character 31 = .ok (.aload_n 0, 1) := by decide +kernel
theorem dX6_character_32 : decode cX6_character 32 = .ok (.getfield 29, 3) := by decide +kernel
theorem dX6_character_35 : decode cX6_character 35 = .ok (.iload_n 1, 1) := by decide +kernel
theorem dX6_character_36 : decode cX6_character 36 = .ok (.caload, 1) := by decide +kernel
theorem dX6_character_37 : decode cX6_character 37 = .ok (.ireturn, 1) := by decide +kernel
set_option maxRecDepth 20000 in
theorem ggX6_append_X6_fails : GoodIn wsX6_append wsX6_fails := goodIn_r _ [7, 8, 9, 10, 11, 12, 13, 14, 15, 16, 17, 18, 19, 20, 21, 22, 23, 24, 25, 26, 27, 28, 29] (by decide +kernel) (by decide +kernel)
set_option maxRecDepth 20000 in
theorem gX6_append_X6_fails : GoodIn wsX6_append (wsV RX6 77 RX6 yX6_fails wsX6_fails) := goodIn_app (goodIn_of _ (by decide +kernel)) ggX6_append_X6_fails
theorem dX6_append_0 : decode cX6_append 0 = .ok (.aload_n 0, 1) := by decide +kernel
theorem dX6_append_1 : decode cX6_append 1 = .ok (.aload_n 0, 1) := by decide +kernel
theorem dX6_append_2 : decode cX6_append 2 = .ok (.getfield 180, 3) := by decide +kernel
theorem dX6_append_5 : decode cX6_append 5 = .ok (.bipush 60, 2) := by decide +kernel
theorem dX6_append_7 : decode cX6_append 7 = .ok (.if_icmp .ne 7, 3) := by decide +kernel
theorem dX6_append_10 : decode cX6_append 10 = .ok (.iconst 1, 1) := by decide +kernel
theorem dX6_append_11 : decode cX6_append 11 = .ok (.goto 4, 3) := by decide +kernel
theorem dX6_append_14 : decode cX6_append 14 = .ok (.iconst 0, 1) := by decide +kernel
theorem dX6_append_15 : decode cX6_append 15 = .ok (.invokevirtual 77, 3) := by decide +kernel
theorem dX6_append_18 : decode cX6_append 18 = .ok (.ifCond .eq 5, 3) := by decide +kernel
theorem dX6_append_21 : decode cX6_append 21 = .ok (.iconst 0, 1) := by decide +kernel
theorem dX6_append_22 : decode cX6_append 22 = .ok (.ireturn, 1) := by decide +kernel
theorem dX6_append_23 : decode cX6_append 23 = .ok (.aload_n 0, 1) := by decide +kernel
theorem dX6_append_24 : decode cX6_append 24 = .ok (.getfield 22, 3) := by decide +kernel
theorem dX6_append_27 : decode cX6_append 27 = .ok (.aload_n 0, 1) := by decide +kernel
theorem dX6_append_28 : decode cX6_append 28 = .ok (.getfield 180, 3) := by decide +kernel
theorem dX6_append_31 : decode cX6_append 31 = .ok (.iload_n 1, 1) := by decide +kernel
theorem dX6_append_32 : decode cX6_append 32 = .ok (.iastore, 1) := by decide +kernel
theorem dX6_append_33 : decode cX6_append 33 = .ok (.aload_n 0, 1) := by decide +kernel
theorem dX6_append_34 : decode cX6_append 34 = .ok (.dup, 1) := by decide +kernel
theorem dX6_append_35 : decode cX6_append 35 = .ok (.getfield 180, 3) := by decide +kernel
theorem dX6_append_38 : decode cX6_append 38 = .ok (.iconst 1, 1) := by decide +kernel
theorem dX6_append_39 : decode cX6_append 39 = .ok (.iadd, 1) := by decide +kernel
theorem dX6_append_40 : decode cX6_append 40 = .ok (.putfield 180, 3) := by decide +kernel
theorem dX6_append_43 : decode cX6_append 43 = .ok (.aload_n 0, 1) := by decide +kernel
theorem dX6_append_44 : decode cX6_append 44 = .ok (.getfield 180, 3) := by decide +kernel
theorem dX6_append_47 : decode cX6_append 47 = .ok (.ireturn, 1) := by decide +kernel
theorem dX6_here_0 : decode cX6_here 0 = .ok (.aload_n 0, 1) := by decide +kernel
theorem dX6_here_1 : decode cX6_here 1 = .ok (.getfield 183, 3) := by decide +kernel
theorem dX6_here_4 : decode cX6_here 4 = .ok (.aload_n 0, 1) := by decide +kernel
theorem dX6_here_5 : decode cX6_here 5 = .ok (.getfield 180, 3) := by decide +kernel
theorem dX6_here_8 : decode cX6_here 8 = .ok (.if_icmp .ge 15, 3) := by decide +kernel
theorem dX6_here_11 : decode cX6_here 11 = .ok (.aload_n 0, 1) := by decide +kernel
theorem dX6_here_12 : decode cX6_here 12 = .ok (.getfield 22, 3) := by decide +kernel
theorem dX6_here_15 : decode cX6_here 15 = .ok (.aload_n 0, 1) := by decide +kernel
theorem dX6_here_16 : decode cX6_here 16 = .ok (.getfield 183, 3) := by decide +kernel
theorem dX6_here_19 : decode cX6_here 19 = .ok (.iaload, 1) := by decide +kernel
theorem dX6_here_20 : decode cX6_here 20 = .ok (.goto 4, 3) := by decide +kernel
theorem dX6_here_23 : decode cX6_here 23 = .ok (.iconst (-1), 1) := by decide +kernel
theorem dX6_here_24 : decode cX6_here 24 = .ok (.ireturn, 1) := by decide +kernel
set_option maxRecDepth 20000 in
theorem ggX6_skips_X6_here : GoodIn wsX6_skips wsX6_here := goodIn_ca (goodIn_r _ [6, 1, 7, 8, 9, 10, 11, 12, 13, 14, 15, 16, 17, 18, 19, 20, 21, 22, 23, 24, 25, 26, 27, 28] (by decide +kernel) (by decide +kernel)) (goodIn_sub (fun _ h => List.mem_cons_of_mem _ (List.mem_append_right _ h)) (by decide +kernel))
set_option maxRecDepth 20000 in
theorem gX6_skips_X6_here : GoodIn wsX6_skips (wsV RX6 186 RX6 yX6_here wsX6_here) := goodIn_app (goodIn_of _ (by decide +kernel)) ggX6_skips_X6_here
theorem dX6_skips_0 : decode cX6_skips 0 = .ok (.aload_n 0, 1) := by decide +kernel
theorem dX6_skips_1 : decode cX6_skips 1 = .ok (.invokevirtual 186, 3) := by decide +kernel
theorem dX6_skips_4 : decode cX6_skips 4 = .ok (.iload_n 1, 1) := by decide +kernel
theorem dX6_skips_5 : decode cX6_skips 5 = .ok (.if_icmp .eq 5, 3) := by decide +kernel
theorem dX6_skips_8 : decode cX6_skips 8 = .ok (.iconst 0, 1) := by decide +kernel
theorem dX6_skips_9 : decode cX6_skips 9 = .ok (.ireturn, 1) := by decide +kernel
theorem dX6_skips_10 : decode cX6_skips 10 = .ok (.aload_n 0, 1) := by decide +kernel
theorem dX6_skips_11 : decode cX6_skips 11 = .ok (.dup, 1) := by decide +kernel
theorem dX6_skips_12 : decode cX6_skips 12 = .ok (.getfield 183, 3) := by decide +kernel
theorem dX6_skips_15 : decode cX6_skips 15 = .ok (.iconst 1, 1) := by decide +kernel
theorem dX6_skips_16 : decode cX6_skips 16 = .ok (.iadd, 1) := by decide +kernel
theorem dX6_skips_17 : decode cX6_skips 17 = .ok (.putfield 183, 3) := by decide +kernel
theorem dX6_skips_20 : decode cX6_skips 20 = .ok (.iconst 1, 1) := by decide +kernel
theorem dX6_skips_21 : decode cX6_skips 21 = .ok (.ireturn, 1) := by decide +kernel
set_option maxRecDepth 20000 in
theorem ggX6_figures_X6_here : GoodIn wsX6_figures wsX6_here := goodIn_ca (goodIn_r _ [7, 2, 8, 9, 13, 14, 15, 16, 17, 18, 19, 20, 21, 22, 23, 24, 25, 26, 27, 28, 29, 30, 31, 32] (by decide +kernel) (by decide +kernel)) (goodIn_sub (fun _ h => List.mem_cons_of_mem _ (List.mem_append_right _ h)) (by decide +kernel))
set_option maxRecDepth 20000 in
theorem gX6_figures_X6_here : GoodIn wsX6_figures (wsV RX6 186 RX6 yX6_here wsX6_here) := goodIn_app (goodIn_of _ (by decide +kernel)) ggX6_figures_X6_here
set_option maxRecDepth 20000 in
theorem ggX6_figures_X6_in : GoodIn wsX6_figures wsX6_in := goodIn_r _ [12] (by decide +kernel) (by decide +kernel)
set_option maxRecDepth 20000 in
theorem gX6_figures_X6_in : GoodIn wsX6_figures (va_wsS RX6 62 yX6_in wsX6_in) := goodIn_app (goodIn_of _ (by decide +kernel)) ggX6_figures_X6_in
theorem dX6_figures_0 : decode cX6_figures 0 = .ok (.aload_n 0, 1) := by decide +kernel
theorem dX6_figures_1 : decode cX6_figures 1 = .ok (.invokevirtual 186, 3) := by decide +kernel
theorem dX6_figures_4 : decode cX6_figures 4 = .ok (.bipush 48, 2) := by decide +kernel
theorem dX6_figures_6 : decode cX6_figures 6 = .ok (.bipush 57, 2) := by decide +kernel
theorem dX6_figures_8 : decode cX6_figures 8 = .ok (.invokestatic 62, 3) := by decide +kernel
theorem dX6_figures_11 : decode cX6_figures 11 = .ok (.ifCond .ne 5, 3) := by decide +kernel
theorem dX6_figures_14 : decode cX6_figures 14 = .ok (.iconst 0, 1) := by decide +kernel
theorem dX6_figures_15 : decode cX6_figures 15 = .ok (.ireturn, 1) := by decide +kernel
theorem dX6_figures_16 : decode cX6_figures 16 = .ok (.aload_n 0, 1) := by decide +kernel
theorem dX6_figures_17 : decode cX6_figures 17 = .ok (.getfield 36, 3) := by decide +kernel
theorem dX6_figures_20 : decode cX6_figures 20 = .ok (.iload_n 1, 1) := by decide +kernel
theorem dX6_figures_21 : decode cX6_figures 21 = .ok (.iconst 0, 1) := by decide +kernel
theorem dX6_figures_22 : decode cX6_figures 22 = .ok (.iastore, 1) := by decide +kernel
theorem dX6_figures_23 : decode cX6_figures 23 = .ok (.iconst 0, 1) := by decide +kernel
theorem dX6_figures_24 : decode cX6_figures 24 = .ok (.istore_n 3, 1) := by decide +kernel
theorem dX6_figures_25 : decode cX6_figures 25 = .ok (.iload_n 3, 1) := by decide +kernel
theorem dX6_figures_26 : decode cX6_figures 26 = .ok (.iload_n 2, 1) := by decide +kernel
theorem dX6_figures_27 : decode cX6_figures 27 = .ok (.if_icmp .ge 56, 3) := by decide +kernel
theorem dX6_figures_30 : decode cX6_figures 30 = .ok (.aload_n 0, 1) := by decide +kernel
theorem dX6_figures_31 : decode cX6_figures 31 = .ok (.invokevirtual 186, 3) := by decide +kernel
theorem dX6_figures_34 : decode cX6_figures 34 = .ok (.bipush 48, 2) := by decide +kernel
theorem dX6_figures_36 : decode cX6_figures 36 = .ok (.bipush 57, 2) := by decide +kernel
theorem dX6_figures_38 : decode cX6_figures 38 = .ok (.invokestatic 62, 3) := by decide +kernel
theorem dX6_figures_41 : decode cX6_figures 41 = .ok (.ifCond .eq 42, 3) := by decide +kernel
theorem dX6_figures_44 : decode cX6_figures 44 = .ok (.aload_n 0, 1) := by decide +kernel
theorem dX6_figures_45 : decode cX6_figures 45 = .ok (.getfield 36, 3) := by decide +kernel
theorem dX6_figures_48 : decode cX6_figures 48 = .ok (.iload_n 1, 1) := by decide +kernel
theorem dX6_figures_49 : decode cX6_figures 49 = .ok (.bipush 10, 2) := by decide +kernel
theorem dX6_figures_51 : decode cX6_figures 51 = .ok (.aload_n 0, 1) := by decide +kernel
theorem dX6_figures_52 : decode cX6_figures 52 = .ok (.getfield 36, 3) := by decide +kernel
theorem dX6_figures_55 : decode cX6_figures 55 = .ok (.iload_n 1, 1) := by decide +kernel
theorem dX6_figures_56 : decode cX6_figures 56 = .ok (.iaload, 1) := by decide +kernel
theorem dX6_figures_57 : decode cX6_figures 57 = .ok (.imul, 1) := by decide +kernel
theorem dX6_figures_58 : decode cX6_figures 58 = .ok (.aload_n 0, 1) := by decide +kernel
theorem dX6_figures_59 : decode cX6_figures 59 = .ok (.invokevirtual 186, 3) := by decide +kernel
theorem dX6_figures_62 : decode cX6_figures 62 = .ok (.iadd, 1) := by decide +kernel
theorem dX6_figures_63 : decode cX6_figures 63 = .ok (.bipush 48, 2) := by decide +kernel
theorem dX6_figures_65 : decode cX6_figures 65 = .ok (.isub, 1) := by decide +kernel
theorem dX6_figures_66 : decode cX6_figures 66 = .ok (.iastore, 1) := by decide +kernel
theorem dX6_figures_67 : decode cX6_figures 67 = .ok (.aload_n 0, 1) := by decide +kernel
theorem dX6_figures_68 : decode cX6_figures 68 = .ok (.dup, 1) := by decide +kernel
theorem dX6_figures_69 : decode cX6_figures 69 = .ok (.getfield 183, 3) := by decide +kernel
theorem dX6_figures_72 : decode cX6_figures 72 = .ok (.iconst 1, 1) := by decide +kernel
theorem dX6_figures_73 : decode cX6_figures 73 = .ok (.iadd, 1) := by decide +kernel
theorem dX6_figures_74 : decode cX6_figures 74 = .ok (.putfield 183, 3) := by decide +kernel
theorem dX6_figures_77 : decode cX6_figures 77 = .ok (.iinc 3 1, 3) := by decide +kernel
theorem dX6_figures_80 : decode cX6_figures 80 = .ok (.goto (-55), 3) := by decide +kernel
theorem dX6_figures_83 : decode cX6_figures 83 = .ok (.iconst 1, 1) := by decide +kernel
theorem dX6_figures_84 : decode cX6_figures 84 = .ok (.ireturn, 1) := by decide +kernel
set_option maxRecDepth 20000 in
theorem ggX6_stoolHere_X6_figures : GoodIn wsX6_stoolHere wsX6_figures := goodIn_ca (goodIn_r _ [6, 1, 7, 8, 9, 10, 5, 11, 12, 13, 14, 15, 16, 21, 22, 23, 24, 25, 26, 27, 28, 29, 30, 31, 32, 33, 34, 35, 36, 37, 38, 39, 40] (by decide +kernel) (by decide +kernel)) (goodIn_sub (fun _ h => List.mem_cons_of_mem _ (List.mem_append_right _ h)) (by decide +kernel))
set_option maxRecDepth 20000 in
theorem gX6_stoolHere_X6_figures : GoodIn wsX6_stoolHere (wsV RX6 189 RX6 yX6_figures wsX6_figures) := goodIn_app (goodIn_of _ (by decide +kernel)) ggX6_stoolHere_X6_figures
set_option maxRecDepth 20000 in
theorem ggX6_stoolHere_X6_skips : GoodIn wsX6_stoolHere wsX6_skips := goodIn_ca (goodIn_r _ [20, 7, 8, 9, 10, 5, 11, 12, 13, 21, 22, 23, 24, 25, 26, 27, 28, 29, 30, 31, 32, 33, 34, 35, 36, 37, 38, 39, 40] (by decide +kernel) (by decide +kernel)) (goodIn_sub (fun _ h => List.mem_cons_of_mem _ (List.mem_append_right _ h)) (by decide +kernel))
set_option maxRecDepth 20000 in
theorem gX6_stoolHere_X6_skips : GoodIn wsX6_stoolHere (wsV RX6 192 RX6 yX6_skips wsX6_skips) := goodIn_app (goodIn_of _ (by decide +kernel)) ggX6_stoolHere_X6_skips
set_option maxRecDepth 20000 in
theorem ggX6_stoolHere_X6_here : GoodIn wsX6_stoolHere wsX6_here := goodIn_ca (goodIn_r _ [11, 7, 12, 13, 21, 22, 23, 24, 25, 26, 27, 28, 29, 30, 31, 32, 33, 34, 35, 36, 37, 38, 39, 40] (by decide +kernel) (by decide +kernel)) (goodIn_sub (fun _ h => List.mem_cons_of_mem _ (List.mem_append_right _ h)) (by decide +kernel))
set_option maxRecDepth 20000 in
theorem gX6_stoolHere_X6_here : GoodIn wsX6_stoolHere (wsV RX6 186 RX6 yX6_here wsX6_here) := goodIn_app (goodIn_of _ (by decide +kernel)) ggX6_stoolHere_X6_here
theorem dX6_stoolHere_0 : decode cX6_stoolHere 0 = .ok (.aload_n 0, 1) := by decide +kernel
theorem dX6_stoolHere_1 : decode cX6_stoolHere 1 = .ok (.iload_n 1, 1) := by decide +kernel
theorem dX6_stoolHere_2 : decode cX6_stoolHere 2 = .ok (.iconst 1, 1) := by decide +kernel
theorem dX6_stoolHere_3 : decode cX6_stoolHere 3 = .ok (.iadd, 1) := by decide +kernel
theorem dX6_stoolHere_4 : decode cX6_stoolHere 4 = .ok (.iconst 2, 1) := by decide +kernel
theorem dX6_stoolHere_5 : decode cX6_stoolHere 5 = .ok (.invokevirtual 189, 3) := by decide +kernel
theorem dX6_stoolHere_8 : decode cX6_stoolHere 8 = .ok (.ifCond .eq 34, 3) := by decide +kernel
theorem dX6_stoolHere_11 : decode cX6_stoolHere 11 = .ok (.aload_n 0, 1) := by decide +kernel
theorem dX6_stoolHere_12 : decode cX6_stoolHere 12 = .ok (.bipush 47, 2) := by decide +kernel
theorem dX6_stoolHere_14 : decode cX6_stoolHere 14 = .ok (.invokevirtual 192, 3) := by decide +kernel
theorem dX6_stoolHere_17 : decode cX6_stoolHere 17 = .ok (.ifCond .eq 25, 3) := by decide +kernel
theorem dX6_stoolHere_20 : decode cX6_stoolHere 20 = .ok (.aload_n 0, 1) := by decide +kernel
theorem dX6_stoolHere_21 : decode cX6_stoolHere 21 = .ok (.iload_n 1, 1) := by decide +kernel
theorem dX6_stoolHere_22 : decode cX6_stoolHere 22 = .ok (.iconst 2, 1) := by decide +kernel
theorem dX6_stoolHere_23 : decode cX6_stoolHere 23 = .ok (.iadd, 1) := by decide +kernel
theorem dX6_stoolHere_24 : decode cX6_stoolHere 24 = .ok (.iconst 1, 1) := by decide +kernel
theorem dX6_stoolHere_25 : decode cX6_stoolHere 25 = .ok (.invokevirtual 189, 3) := by decide +kernel
theorem dX6_stoolHere_28 : decode cX6_stoolHere 28 = .ok (.ifCond .eq 14, 3) := by decide +kernel
theorem dX6_stoolHere_31 : decode cX6_stoolHere 31 = .ok (.aload_n 0, 1) := by decide +kernel
theorem dX6_stoolHere_32 : decode cX6_stoolHere 32 = .ok (.iload_n 1, 1) := by decide +kernel
theorem dX6_stoolHere_33 : decode cX6_stoolHere 33 = .ok (.iconst 3, 1) := by decide +kernel
theorem dX6_stoolHere_34 : decode cX6_stoolHere 34 = .ok (.iadd, 1) := by decide +kernel
theorem dX6_stoolHere_35 : decode cX6_stoolHere 35 = .ok (.iconst 1, 1) := by decide +kernel
theorem dX6_stoolHere_36 : decode cX6_stoolHere 36 = .ok (.invokevirtual 189, 3) := by decide +kernel
theorem dX6_stoolHere_39 : decode cX6_stoolHere 39 = .ok (.ifCond .ne 5, 3) := by decide +kernel
theorem dX6_stoolHere_42 : decode cX6_stoolHere 42 = .ok (.iconst 0, 1) := by decide +kernel
theorem dX6_stoolHere_43 : decode cX6_stoolHere 43 = .ok (.ireturn, 1) := by decide +kernel
theorem dX6_stoolHere_44 : decode cX6_stoolHere 44 = .ok (.aload_n 0, 1) := by decide +kernel
theorem dX6_stoolHere_45 : decode cX6_stoolHere 45 = .ok (.getfield 36, 3) := by decide +kernel
theorem dX6_stoolHere_48 : decode cX6_stoolHere 48 = .ok (.iload_n 1, 1) := by decide +kernel
theorem dX6_stoolHere_49 : decode cX6_stoolHere 49 = .ok (.iconst 4, 1) := by decide +kernel
theorem dX6_stoolHere_50 : decode cX6_stoolHere 50 = .ok (.iadd, 1) := by decide +kernel
theorem dX6_stoolHere_51 : decode cX6_stoolHere 51 = .ok (.aload_n 0, 1) := by decide +kernel
theorem dX6_stoolHere_52 : decode cX6_stoolHere 52 = .ok (.invokevirtual 186, 3) := by decide +kernel
theorem dX6_stoolHere_55 : decode cX6_stoolHere 55 = .ok (.bipush 124, 2) := by decide +kernel
theorem dX6_stoolHere_57 : decode cX6_stoolHere 57 = .ok (.if_icmp .ne 7, 3) := by decide +kernel
theorem dX6_stoolHere_60 : decode cX6_stoolHere 60 = .ok (.iconst 1, 1) := by decide +kernel
theorem dX6_stoolHere_61 : decode cX6_stoolHere 61 = .ok (.goto 4, 3) := by decide +kernel
theorem dX6_stoolHere_64 : decode cX6_stoolHere 64 = .ok (.iconst 0, 1) := by decide +kernel
theorem dX6_stoolHere_65 : decode cX6_stoolHere 65 = .ok (.iastore, 1) := by decide +kernel
theorem dX6_stoolHere_66 : decode cX6_stoolHere 66 = .ok (.aload_n 0, 1) := by decide +kernel
theorem dX6_stoolHere_67 : decode cX6_stoolHere 67 = .ok (.bipush 124, 2) := by decide +kernel
theorem dX6_stoolHere_69 : decode cX6_stoolHere 69 = .ok (.invokevirtual 192, 3) := by decide +kernel
theorem dX6_stoolHere_72 : decode cX6_stoolHere 72 = .ok (.ifCond .ne 14, 3) := by decide +kernel
theorem dX6_stoolHere_75 : decode cX6_stoolHere 75 = .ok (.aload_n 0, 1) := by decide +kernel
theorem dX6_stoolHere_76 : decode cX6_stoolHere 76 = .ok (.getfield 36, 3) := by decide +kernel
theorem dX6_stoolHere_79 : decode cX6_stoolHere 79 = .ok (.iload_n 1, 1) := by decide +kernel
theorem dX6_stoolHere_80 : decode cX6_stoolHere 80 = .ok (.iconst 4, 1) := by decide +kernel
theorem dX6_stoolHere_81 : decode cX6_stoolHere 81 = .ok (.iadd, 1) := by decide +kernel
theorem dX6_stoolHere_82 : decode cX6_stoolHere 82 = .ok (.iaload, 1) := by decide +kernel
theorem dX6_stoolHere_83 : decode cX6_stoolHere 83 = .ok (.ifCond .ne 7, 3) := by decide +kernel
theorem dX6_stoolHere_86 : decode cX6_stoolHere 86 = .ok (.iconst 1, 1) := by decide +kernel
theorem dX6_stoolHere_87 : decode cX6_stoolHere 87 = .ok (.goto 4, 3) := by decide +kernel
theorem dX6_stoolHere_90 : decode cX6_stoolHere 90 = .ok (.iconst 0, 1) := by decide +kernel
theorem dX6_stoolHere_91 : decode cX6_stoolHere 91 = .ok (.ireturn, 1) := by decide +kernel
set_option maxRecDepth 20000 in
theorem ggX6_orderHere_X6_here : GoodIn wsX6_orderHere wsX6_here := goodIn_ca (goodIn_r _ [7, 8, 9, 10, 26, 27, 28, 29, 30, 31, 32, 33, 34, 35, 36, 37, 38, 39, 40, 41, 42, 43, 44, 45] (by decide +kernel) (by decide +kernel)) (goodIn_sub (fun _ h => List.mem_cons_of_mem _ (List.mem_append_right _ h)) (by decide +kernel))
set_option maxRecDepth 20000 in
theorem gX6_orderHere_X6_here : GoodIn wsX6_orderHere (wsV RX6 186 RX6 yX6_here wsX6_here) := goodIn_app (goodIn_of _ (by decide +kernel)) ggX6_orderHere_X6_here
set_option maxRecDepth 20000 in
theorem ggX6_orderHere_X6_skips : GoodIn wsX6_orderHere wsX6_skips := goodIn_ca (goodIn_r _ [14, 8, 3, 4, 5, 6, 7, 9, 10, 26, 27, 28, 29, 30, 31, 32, 33, 34, 35, 36, 37, 38, 39, 40, 41, 42, 43, 44, 45] (by decide +kernel) (by decide +kernel)) (goodIn_sub (fun _ h => List.mem_cons_of_mem _ (List.mem_append_right _ h)) (by decide +kernel))
set_option maxRecDepth 20000 in
theorem gX6_orderHere_X6_skips : GoodIn wsX6_orderHere (wsV RX6 192 RX6 yX6_skips wsX6_skips) := goodIn_app (goodIn_of _ (by decide +kernel)) ggX6_orderHere_X6_skips
set_option maxRecDepth 20000 in
theorem ggX6_orderHere_X6_stoolHere : GoodIn wsX6_orderHere wsX6_stoolHere := goodIn_ca (goodIn_r _ [18, 2, 19, 20, 21, 6, 22, 8, 3, 4, 5, 7, 9, 10, 23, 24, 25, 11, 12, 13, 14, 26, 27, 28, 29, 30, 31, 32, 33, 34, 35, 36, 37, 38, 39, 40, 41, 42, 43, 44, 45] (by decide +kernel) (by decide +kernel)) (goodIn_sub (fun _ h => List.mem_cons_of_mem _ (List.mem_append_right _ h)) (by decide +kernel))
set_option maxRecDepth 20000 in
theorem gX6_orderHere_X6_stoolHere : GoodIn wsX6_orderHere (wsV RX6 198 RX6 yX6_stoolHere wsX6_stoolHere) := goodIn_app (goodIn_of _ (by decide +kernel)) ggX6_orderHere_X6_stoolHere
set_option maxRecDepth 20000 in
theorem ggX6_orderHere_X6_figures : GoodIn wsX6_orderHere wsX6_figures := goodIn_ca (goodIn_r _ [22, 2, 8, 3, 4, 5, 6, 7, 9, 10, 23, 24, 25, 26, 27, 28, 29, 30, 31, 32, 33, 34, 35, 36, 37, 38, 39, 40, 41, 42, 43, 44, 45] (by decide +kernel) (by decide +kernel)) (goodIn_sub (fun _ h => List.mem_cons_of_mem _ (List.mem_append_right _ h)) (by decide +kernel))
set_option maxRecDepth 20000 in
theorem gX6_orderHere_X6_figures : GoodIn wsX6_orderHere (wsV RX6 189 RX6 yX6_figures wsX6_figures) := goodIn_app (goodIn_of _ (by decide +kernel)) ggX6_orderHere_X6_figures
theorem dX6_orderHere_0 : decode cX6_orderHere 0 = .ok (.iconst 5, 1) := by decide +kernel
theorem dX6_orderHere_1 : decode cX6_orderHere 1 = .ok (.aload_n 0, 1) := by decide +kernel
theorem dX6_orderHere_2 : decode cX6_orderHere 2 = .ok (.getfield 195, 3) := by decide +kernel
theorem dX6_orderHere_5 : decode cX6_orderHere 5 = .ok (.imul, 1) := by decide +kernel
theorem dX6_orderHere_6 : decode cX6_orderHere 6 = .ok (.istore_n 1, 1) := by decide +kernel
theorem dX6_orderHere_7 : decode cX6_orderHere 7 = .ok (.aload_n 0, 1) := by decide +kernel
theorem dX6_orderHere_8 : decode cX6_orderHere 8 = .ok (.getfield 36, 3) := by decide +kernel
theorem dX6_orderHere_11 : decode cX6_orderHere 11 = .ok (.iload_n 1, 1) := by decide +kernel
theorem dX6_orderHere_12 : decode cX6_orderHere 12 = .ok (.aload_n 0, 1) := by decide +kernel
theorem dX6_orderHere_13 : decode cX6_orderHere 13 = .ok (.invokevirtual 186, 3) := by decide +kernel
theorem dX6_orderHere_16 : decode cX6_orderHere 16 = .ok (.iastore, 1) := by decide +kernel
theorem dX6_orderHere_17 : decode cX6_orderHere 17 = .ok (.aload_n 0, 1) := by decide +kernel
theorem dX6_orderHere_18 : decode cX6_orderHere 18 = .ok (.bipush 110, 2) := by decide +kernel
theorem dX6_orderHere_20 : decode cX6_orderHere 20 = .ok (.invokevirtual 192, 3) := by decide +kernel
theorem dX6_orderHere_23 : decode cX6_orderHere 23 = .ok (.ifCond .eq 5, 3) := by decide +kernel
theorem dX6_orderHere_26 : decode cX6_orderHere 26 = .ok (.iconst 1, 1) := by decide +kernel
theorem dX6_orderHere_27 : decode cX6_orderHere 27 = .ok (.ireturn, 1) := by decide +kernel
theorem dX6_orderHere_28 : decode cX6_orderHere 28 = .ok (.aload_n 0, 1) := by decide +kernel
theorem dX6_orderHere_29 : decode cX6_orderHere 29 = .ok (.bipush 115, 2) := by decide +kernel
theorem dX6_orderHere_31 : decode cX6_orderHere 31 = .ok (.invokevirtual 192, 3) := by decide +kernel
theorem dX6_orderHere_34 : decode cX6_orderHere 34 = .ok (.ifCond .eq 9, 3) := by decide +kernel
theorem dX6_orderHere_37 : decode cX6_orderHere 37 = .ok (.aload_n 0, 1) := by decide +kernel
theorem dX6_orderHere_38 : decode cX6_orderHere 38 = .ok (.iload_n 1, 1) := by decide +kernel
theorem dX6_orderHere_39 : decode cX6_orderHere 39 = .ok (.invokevirtual 198, 3) := by decide +kernel
theorem dX6_orderHere_42 : decode cX6_orderHere 42 = .ok (.ireturn, 1) := by decide +kernel
theorem dX6_orderHere_43 : decode cX6_orderHere 43 = .ok (.aload_n 0, 1) := by decide +kernel
theorem dX6_orderHere_44 : decode cX6_orderHere 44 = .ok (.bipush 103, 2) := by decide +kernel
theorem dX6_orderHere_46 : decode cX6_orderHere 46 = .ok (.invokevirtual 192, 3) := by decide +kernel
theorem dX6_orderHere_49 : decode cX6_orderHere 49 = .ok (.ifCond .eq 40, 3) := by decide +kernel
theorem dX6_orderHere_52 : decode cX6_orderHere 52 = .ok (.aload_n 0, 1) := by decide +kernel
theorem dX6_orderHere_53 : decode cX6_orderHere 53 = .ok (.iload_n 1, 1) := by decide +kernel
theorem dX6_orderHere_54 : decode cX6_orderHere 54 = .ok (.iconst 1, 1) := by decide +kernel
theorem dX6_orderHere_55 : decode cX6_orderHere 55 = .ok (.iadd, 1) := by decide +kernel
theorem dX6_orderHere_56 : decode cX6_orderHere 56 = .ok (.iconst 1, 1) := by decide +kernel
theorem dX6_orderHere_57 : decode cX6_orderHere 57 = .ok (.invokevirtual 189, 3) := by decide +kernel
theorem dX6_orderHere_60 : decode cX6_orderHere 60 = .ok (.ifCond .eq 27, 3) := by decide +kernel
theorem dX6_orderHere_63 : decode cX6_orderHere 63 = .ok (.aload_n 0, 1) := by decide +kernel
theorem dX6_orderHere_64 : decode cX6_orderHere 64 = .ok (.bipush 42, 2) := by decide +kernel
theorem dX6_orderHere_66 : decode cX6_orderHere 66 = .ok (.invokevirtual 192, 3) := by decide +kernel
theorem dX6_orderHere_69 : decode cX6_orderHere 69 = .ok (.ifCond .eq 18, 3) := by decide +kernel
theorem dX6_orderHere_72 : decode cX6_orderHere 72 = .ok (.aload_n 0, 1) := by decide +kernel
theorem dX6_orderHere_73 : decode cX6_orderHere 73 = .ok (.iload_n 1, 1) := by decide +kernel
theorem dX6_orderHere_74 : decode cX6_orderHere 74 = .ok (.iconst 2, 1) := by decide +kernel
theorem dX6_orderHere_75 : decode cX6_orderHere 75 = .ok (.iadd, 1) := by decide +kernel
theorem dX6_orderHere_76 : decode cX6_orderHere 76 = .ok (.iconst 3, 1) := by decide +kernel
theorem dX6_orderHere_77 : decode cX6_orderHere 77 = .ok (.invokevirtual 189, 3) := by decide +kernel
theorem dX6_orderHere_80 : decode cX6_orderHere 80 = .ok (.ifCond .eq 7, 3) := by decide +kernel
theorem dX6_orderHere_83 : decode cX6_orderHere 83 = .ok (.iconst 1, 1) := by decide +kernel
theorem dX6_orderHere_84 : decode cX6_orderHere 84 = .ok (.goto 4, 3) := by decide +kernel
theorem dX6_orderHere_87 : decode cX6_orderHere 87 = .ok (.iconst 0, 1) := by decide +kernel
theorem dX6_orderHere_88 : decode cX6_orderHere 88 = .ok (.ireturn, 1) := by decide +kernel
theorem dX6_orderHere_89 : decode cX6_orderHere 89 = .ok (.aload_n 0, 1) := by decide +kernel
theorem dX6_orderHere_90 : decode cX6_orderHere 90 = .ok (.bipush 107, 2) := by decide +kernel
theorem dX6_orderHere_92 : decode cX6_orderHere 92 = .ok (.invokevirtual 192, 3) := by decide +kernel
theorem dX6_orderHere_95 : decode cX6_orderHere 95 = .ok (.ifCond .eq 12, 3) := by decide +kernel
theorem dX6_orderHere_98 : decode cX6_orderHere 98 = .ok (.aload_n 0, 1) := by decide +kernel
theorem dX6_orderHere_99 : decode cX6_orderHere 99 = .ok (.iload_n 1, 1) := by decide +kernel
theorem dX6_orderHere_100 : decode cX6_orderHere 100 = .ok (.iconst 1, 1) := by decide +kernel
theorem dX6_orderHere_101 : decode cX6_orderHere 101 = .ok (.iadd, 1) := by decide +kernel
theorem dX6_orderHere_102 : decode cX6_orderHere 102 = .ok (.iconst 3, 1) := by decide +kernel
theorem dX6_orderHere_103 : decode cX6_orderHere 103 = .ok (.invokevirtual 189, 3) := by decide +kernel
theorem dX6_orderHere_106 : decode cX6_orderHere 106 = .ok (.ireturn, 1) := by decide +kernel
theorem dX6_orderHere_107 : decode cX6_orderHere 107 = .ok (.aload_n 0, 1) := by decide +kernel
theorem dX6_orderHere_108 : decode cX6_orderHere 108 = .ok (.bipush 112, 2) := by decide +kernel
theorem dX6_orderHere_110 : decode cX6_orderHere 110 = .ok (.invokevirtual 192, 3) := by decide +kernel
theorem dX6_orderHere_113 : decode cX6_orderHere 113 = .ok (.ifCond .eq 40, 3) := by decide +kernel
theorem dX6_orderHere_116 : decode cX6_orderHere 116 = .ok (.aload_n 0, 1) := by decide +kernel
theorem dX6_orderHere_117 : decode cX6_orderHere 117 = .ok (.iload_n 1, 1) := by decide +kernel
theorem dX6_orderHere_118 : decode cX6_orderHere 118 = .ok (.iconst 1, 1) := by decide +kernel
theorem dX6_orderHere_119 : decode cX6_orderHere 119 = .ok (.iadd, 1) := by decide +kernel
theorem dX6_orderHere_120 : decode cX6_orderHere 120 = .ok (.iconst 2, 1) := by decide +kernel
theorem dX6_orderHere_121 : decode cX6_orderHere 121 = .ok (.invokevirtual 189, 3) := by decide +kernel
theorem dX6_orderHere_124 : decode cX6_orderHere 124 = .ok (.ifCond .eq 27, 3) := by decide +kernel
theorem dX6_orderHere_127 : decode cX6_orderHere 127 = .ok (.aload_n 0, 1) := by decide +kernel
theorem dX6_orderHere_128 : decode cX6_orderHere 128 = .ok (.bipush 62, 2) := by decide +kernel
theorem dX6_orderHere_130 : decode cX6_orderHere 130 = .ok (.invokevirtual 192, 3) := by decide +kernel
theorem dX6_orderHere_133 : decode cX6_orderHere 133 = .ok (.ifCond .eq 18, 3) := by decide +kernel
theorem dX6_orderHere_136 : decode cX6_orderHere 136 = .ok (.aload_n 0, 1) := by decide +kernel
theorem dX6_orderHere_137 : decode cX6_orderHere 137 = .ok (.iload_n 1, 1) := by decide +kernel
theorem dX6_orderHere_138 : decode cX6_orderHere 138 = .ok (.iconst 2, 1) := by decide +kernel
theorem dX6_orderHere_139 : decode cX6_orderHere 139 = .ok (.iadd, 1) := by decide +kernel
theorem dX6_orderHere_140 : decode cX6_orderHere 140 = .ok (.iconst 2, 1) := by decide +kernel
theorem dX6_orderHere_141 : decode cX6_orderHere 141 = .ok (.invokevirtual 189, 3) := by decide +kernel
theorem dX6_orderHere_144 : decode cX6_orderHere 144 = .ok (.ifCond .eq 7, 3) := by decide +kernel
theorem dX6_orderHere_147 : decode cX6_orderHere 147 = .ok (.iconst 1, 1) := by decide +kernel
theorem dX6_orderHere_148 : decode cX6_orderHere 148 = .ok (.goto 4, 3) := by decide +kernel
theorem dX6_orderHere_151 : decode cX6_orderHere 151 = .ok (.iconst 0, 1) := by decide +kernel
theorem dX6_orderHere_152 : decode cX6_orderHere 152 = .ok (.ireturn, 1) := by decide +kernel
theorem dX6_orderHere_153 : decode cX6_orderHere 153 = .ok (.aload_n 0, 1) := by decide +kernel
theorem dX6_orderHere_154 : decode cX6_orderHere 154 = .ok (.bipush 98, 2) := by decide +kernel
theorem dX6_orderHere_156 : decode cX6_orderHere 156 = .ok (.invokevirtual 192, 3) := by decide +kernel
theorem dX6_orderHere_159 : decode cX6_orderHere 159 = .ok (.ifCond .eq 40, 3) := by decide +kernel
theorem dX6_orderHere_162 : decode cX6_orderHere 162 = .ok (.aload_n 0, 1) := by decide +kernel
theorem dX6_orderHere_163 : decode cX6_orderHere 163 = .ok (.iload_n 1, 1) := by decide +kernel
theorem dX6_orderHere_164 : decode cX6_orderHere 164 = .ok (.iconst 1, 1) := by decide +kernel
theorem dX6_orderHere_165 : decode cX6_orderHere 165 = .ok (.iadd, 1) := by decide +kernel
theorem dX6_orderHere_166 : decode cX6_orderHere 166 = .ok (.iconst 2, 1) := by decide +kernel
theorem dX6_orderHere_167 : decode cX6_orderHere 167 = .ok (.invokevirtual 189, 3) := by decide +kernel
theorem dX6_orderHere_170 : decode cX6_orderHere 170 = .ok (.ifCond .eq 27, 3) := by decide +kernel
theorem dX6_orderHere_173 : decode cX6_orderHere 173 = .ok (.aload_n 0, 1) := by decide +kernel
theorem dX6_orderHere_174 : decode cX6_orderHere 174 = .ok (.bipush 45, 2) := by decide +kernel
theorem dX6_orderHere_176 : decode cX6_orderHere 176 = .ok (.invokevirtual 192, 3) := by decide +kernel
theorem dX6_orderHere_179 : decode cX6_orderHere 179 = .ok (.ifCond .eq 18, 3) := by decide +kernel
theorem dX6_orderHere_182 : decode cX6_orderHere 182 = .ok (.aload_n 0, 1) := by decide +kernel
theorem dX6_orderHere_183 : decode cX6_orderHere 183 = .ok (.iload_n 1, 1) := by decide +kernel
theorem dX6_orderHere_184 : decode cX6_orderHere 184 = .ok (.iconst 2, 1) := by decide +kernel
theorem dX6_orderHere_185 : decode cX6_orderHere 185 = .ok (.iadd, 1) := by decide +kernel
theorem dX6_orderHere_186 : decode cX6_orderHere 186 = .ok (.iconst 2, 1) := by decide +kernel
theorem dX6_orderHere_187 : decode cX6_orderHere 187 = .ok (.invokevirtual 189, 3) := by decide +kernel
theorem dX6_orderHere_190 : decode cX6_orderHere 190 = .ok (.ifCond .eq 7, 3) := by decide +kernel
theorem dX6_orderHere_193 : decode cX6_orderHere 193 = .ok (.iconst 1, 1) := by decide +kernel
theorem dX6_orderHere_194 : decode cX6_orderHere 194 = .ok (.goto 4, 3) := by decide +kernel
theorem dX6_orderHere_197 : decode cX6_orderHere 197 = .ok (.iconst 0, 1) := by decide +kernel
theorem dX6_orderHere_198 : decode cX6_orderHere 198 = .ok (.ireturn, 1) := by decide +kernel
theorem dX6_orderHere_199 : decode cX6_orderHere 199 = .ok (.aload_n 0, 1) := by decide +kernel
theorem dX6_orderHere_200 : decode cX6_orderHere 200 = .ok (.bipush 117, 2) := by decide +kernel
theorem dX6_orderHere_202 : decode cX6_orderHere 202 = .ok (.invokevirtual 192, 3) := by decide +kernel
theorem dX6_orderHere_205 : decode cX6_orderHere 205 = .ok (.ifCond .ne 12, 3) := by decide +kernel
theorem dX6_orderHere_208 : decode cX6_orderHere 208 = .ok (.aload_n 0, 1) := by decide +kernel
theorem dX6_orderHere_209 : decode cX6_orderHere 209 = .ok (.bipush 99, 2) := by decide +kernel
theorem dX6_orderHere_211 : decode cX6_orderHere 211 = .ok (.invokevirtual 192, 3) := by decide +kernel
theorem dX6_orderHere_214 : decode cX6_orderHere 214 = .ok (.ifCond .eq 18, 3) := by decide +kernel
theorem dX6_orderHere_217 : decode cX6_orderHere 217 = .ok (.aload_n 0, 1) := by decide +kernel
theorem dX6_orderHere_218 : decode cX6_orderHere 218 = .ok (.iload_n 1, 1) := by decide +kernel
theorem dX6_orderHere_219 : decode cX6_orderHere 219 = .ok (.iconst 1, 1) := by decide +kernel
theorem dX6_orderHere_220 : decode cX6_orderHere 220 = .ok (.iadd, 1) := by decide +kernel
theorem dX6_orderHere_221 : decode cX6_orderHere 221 = .ok (.iconst 2, 1) := by decide +kernel
theorem dX6_orderHere_222 : decode cX6_orderHere 222 = .ok (.invokevirtual 189, 3) := by decide +kernel
theorem dX6_orderHere_225 : decode cX6_orderHere 225 = .ok (.ifCond .eq 7, 3) := by decide +kernel
theorem dX6_orderHere_228 : decode cX6_orderHere 228 = .ok (.iconst 1, 1) := by decide +kernel
theorem dX6_orderHere_229 : decode cX6_orderHere 229 = .ok (.goto 4, 3) := by decide +kernel
theorem dX6_orderHere_232 : decode cX6_orderHere 232 = .ok (.iconst 0, 1) := by decide +kernel
theorem dX6_orderHere_233 : decode cX6_orderHere 233 = .ok (.ireturn, 1) := by decide +kernel
set_option maxRecDepth 20000 in
theorem ggX6_isText_X6_orderHere : GoodIn wsX6_isText wsX6_orderHere := goodIn_ca (goodIn_r _ [8, 2, 9, 10, 11, 12, 7, 13, 1, 3, 14, 15, 16, 17, 18, 19, 20, 21, 22, 23, 24, 25, 26, 27, 28, 29, 30, 31, 32, 33, 34, 35, 36, 37, 38, 39, 40, 41, 42, 43, 44, 45, 46, 47, 48, 49] (by decide +kernel) (by decide +kernel)) (goodIn_sub (fun _ h => List.mem_cons_of_mem _ (List.mem_append_right _ h)) (by decide +kernel))
set_option maxRecDepth 20000 in
theorem gX6_isText_X6_orderHere : GoodIn wsX6_isText (wsV RX6 201 RX6 yX6_orderHere wsX6_orderHere) := goodIn_app (goodIn_of _ (by decide +kernel)) ggX6_isText_X6_orderHere
set_option maxRecDepth 20000 in
theorem ggX6_isText_X6_skips : GoodIn wsX6_isText wsX6_skips := goodIn_ca (goodIn_r _ [18, 1, 10, 11, 12, 7, 13, 3, 14, 30, 31, 32, 33, 34, 35, 36, 37, 38, 39, 40, 41, 42, 43, 44, 45, 46, 47, 48, 49] (by decide +kernel) (by decide +kernel)) (goodIn_sub (fun _ h => List.mem_cons_of_mem _ (List.mem_append_right _ h)) (by decide +kernel))
set_option maxRecDepth 20000 in
theorem gX6_isText_X6_skips : GoodIn wsX6_isText (wsV RX6 192 RX6 yX6_skips wsX6_skips) := goodIn_app (goodIn_of _ (by decide +kernel)) ggX6_isText_X6_skips
theorem dX6_isText_0 : decode cX6_isText 0 = .ok (.aload_n 0, 1) := by decide +kernel
theorem dX6_isText_1 : decode cX6_isText 1 = .ok (.iconst 0, 1) := by decide +kernel
theorem dX6_isText_2 : decode cX6_isText 2 = .ok (.putfield 183, 3) := by decide +kernel
theorem dX6_isText_5 : decode cX6_isText 5 = .ok (.aload_n 0, 1) := by decide +kernel
theorem dX6_isText_6 : decode cX6_isText 6 = .ok (.iconst 0, 1) := by decide +kernel
theorem dX6_isText_7 : decode cX6_isText 7 = .ok (.putfield 195, 3) := by decide +kernel
theorem dX6_isText_10 : decode cX6_isText 10 = .ok (.aload_n 0, 1) := by decide +kernel
theorem dX6_isText_11 : decode cX6_isText 11 = .ok (.invokevirtual 201, 3) := by decide +kernel
theorem dX6_isText_14 : decode cX6_isText 14 = .ok (.ifCond .ne 5, 3) := by decide +kernel
theorem dX6_isText_17 : decode cX6_isText 17 = .ok (.iconst 0, 1) := by decide +kernel
theorem dX6_isText_18 : decode cX6_isText 18 = .ok (.ireturn, 1) := by decide +kernel
theorem dX6_isText_19 : decode cX6_isText 19 = .ok (.aload_n 0, 1) := by decide +kernel
theorem dX6_isText_20 : decode cX6_isText 20 = .ok (.dup, 1) := by decide +kernel
theorem dX6_isText_21 : decode cX6_isText 21 = .ok (.getfield 195, 3) := by decide +kernel
theorem dX6_isText_24 : decode cX6_isText 24 = .ok (.iconst 1, 1) := by decide +kernel
theorem dX6_isText_25 : decode cX6_isText 25 = .ok (.iadd, 1) := by decide +kernel
theorem dX6_isText_26 : decode cX6_isText 26 = .ok (.putfield 195, 3) := by decide +kernel
theorem dX6_isText_29 : decode cX6_isText 29 = .ok (.aload_n 0, 1) := by decide +kernel
theorem dX6_isText_30 : decode cX6_isText 30 = .ok (.bipush 59, 2) := by decide +kernel
theorem dX6_isText_32 : decode cX6_isText 32 = .ok (.invokevirtual 192, 3) := by decide +kernel
theorem dX6_isText_35 : decode cX6_isText 35 = .ok (.ifCond .ne (-25), 3) := by decide +kernel
theorem dX6_isText_38 : decode cX6_isText 38 = .ok (.aload_n 0, 1) := by decide +kernel
theorem dX6_isText_39 : decode cX6_isText 39 = .ok (.getfield 183, 3) := by decide +kernel
theorem dX6_isText_42 : decode cX6_isText 42 = .ok (.aload_n 0, 1) := by decide +kernel
theorem dX6_isText_43 : decode cX6_isText 43 = .ok (.getfield 180, 3) := by decide +kernel
theorem dX6_isText_46 : decode cX6_isText 46 = .ok (.if_icmp .ne 7, 3) := by decide +kernel
theorem dX6_isText_49 : decode cX6_isText 49 = .ok (.iconst 1, 1) := by decide +kernel
theorem dX6_isText_50 : decode cX6_isText 50 = .ok (.goto 4, 3) := by decide +kernel
theorem dX6_isText_53 : decode cX6_isText 53 = .ok (.iconst 0, 1) := by decide +kernel
theorem dX6_isText_54 : decode cX6_isText 54 = .ok (.ireturn, 1) := by decide +kernel
set_option maxRecDepth 20000 in
theorem ggX6_carries_X6_stool : GoodIn wsX6_carries wsX6_stool := goodIn_ca (goodIn_r _ [6, 7, 8, 9, 5, 10, 11, 12, 13, 14, 15, 16, 17, 18, 19, 20, 21, 22, 23, 24, 25, 26, 27, 28, 29, 30, 31, 32, 33, 34, 35, 36, 141, 142, 143, 144, 145, 146, 147, 148, 149, 150, 151, 152, 153, 154, 155, 156, 157, 158, 159, 160] (by decide +kernel) (by decide +kernel)) (goodIn_sub (fun _ h => List.mem_cons_of_mem _ (List.mem_append_right _ h)) (by decide +kernel))
set_option maxRecDepth 20000 in
theorem gX6_carries_X6_stool : GoodIn wsX6_carries (wsV RX6 205 RX6 yX6_stool wsX6_stool) := goodIn_app (goodIn_of _ (by decide +kernel)) ggX6_carries_X6_stool
set_option maxRecDepth 20000 in
theorem ggX6_carries_X6_guest : GoodIn wsX6_carries wsX6_guest := goodIn_ca (goodIn_r _ [40, 8, 9, 5, 10, 11, 12, 13, 14, 15, 16, 41, 42, 43, 44, 7, 17, 18, 19, 20, 21, 22, 23, 24, 25, 26, 27, 28, 29, 30, 31, 32, 141, 142, 143, 144, 145, 146, 147, 148, 149, 150, 151, 152, 153, 154, 155, 156, 157, 158, 159, 160] (by decide +kernel) (by decide +kernel)) (goodIn_sub (fun _ h => List.mem_cons_of_mem _ (List.mem_append_right _ h)) (by decide +kernel))
set_option maxRecDepth 20000 in
theorem gX6_carries_X6_guest : GoodIn wsX6_carries (wsV RX6 209 RX6 yX6_guest wsX6_guest) := goodIn_app (goodIn_of _ (by decide +kernel)) ggX6_carries_X6_guest
set_option maxRecDepth 20000 in
theorem ggX6_carries_X6_cat : GoodIn wsX6_carries wsX6_cat := goodIn_ca (goodIn_r _ [48, 8, 9, 5, 10, 11, 12, 13, 14, 15, 16, 41, 42, 43, 44, 7, 17, 18, 19, 20, 21, 22, 23, 24, 25, 26, 27, 28, 29, 30, 31, 32, 141, 142, 143, 144, 145, 146, 147, 148, 149, 150, 151, 152, 153, 154, 155, 156, 157, 158, 159, 160] (by decide +kernel) (by decide +kernel)) (goodIn_sub (fun _ h => List.mem_cons_of_mem _ (List.mem_append_right _ h)) (by decide +kernel))
set_option maxRecDepth 20000 in
theorem gX6_carries_X6_cat : GoodIn wsX6_carries (wsV RX6 212 RX6 yX6_cat wsX6_cat) := goodIn_app (goodIn_of _ (by decide +kernel)) ggX6_carries_X6_cat
set_option maxRecDepth 20000 in
theorem ggX6_carries_X6_sit : GoodIn wsX6_carries wsX6_sit := goodIn_ca (goodIn_r _ [52, 7, 53, 54, 55, 56, 5, 57, 8, 9, 10, 58, 59, 60, 61, 11, 12, 13, 14, 15, 16, 62, 63, 64, 65, 17, 18, 19, 20, 21, 22, 66, 67, 68, 69, 70, 71, 72, 73, 74, 75, 76, 77, 23, 24, 25, 26, 27, 28, 29, 30, 31, 32, 78, 79, 80, 81, 82, 83, 84, 85, 33, 34, 35, 36, 86, 87, 88, 89, 90, 91, 92, 93, 141, 142, 143, 144, 145, 146, 147, 148, 149, 150, 151, 152, 153, 154, 155, 156, 157, 158, 159, 160] (by decide +kernel) (by decide +kernel)) (goodIn_sub (fun _ h => List.mem_cons_of_mem _ (List.mem_append_right _ h)) (by decide +kernel))
set_option maxRecDepth 20000 in
theorem gX6_carries_X6_sit : GoodIn wsX6_carries (wsV RX6 215 RX6 yX6_sit wsX6_sit) := goodIn_app (goodIn_of _ (by decide +kernel)) ggX6_carries_X6_sit
set_option maxRecDepth 20000 in
theorem ggX6_carries_X6_getUp : GoodIn wsX6_carries wsX6_getUp := goodIn_ca (goodIn_r _ [97, 7, 53, 54, 55, 56, 5, 57, 8, 9, 10, 11, 12, 13, 14, 15, 16, 62, 63, 64, 65, 17, 18, 19, 20, 21, 22, 23, 24, 25, 26, 27, 28, 29, 30, 31, 32, 78, 79, 80, 81, 82, 83, 84, 85, 33, 34, 35, 36, 141, 142, 143, 144, 145, 146, 147, 148, 149, 150, 151, 152, 153, 154, 155, 156, 157, 158, 159, 160] (by decide +kernel) (by decide +kernel)) (goodIn_sub (fun _ h => List.mem_cons_of_mem _ (List.mem_append_right _ h)) (by decide +kernel))
set_option maxRecDepth 20000 in
theorem gX6_carries_X6_getUp : GoodIn wsX6_carries (wsV RX6 218 RX6 yX6_getUp wsX6_getUp) := goodIn_app (goodIn_of _ (by decide +kernel)) ggX6_carries_X6_getUp
set_option maxRecDepth 20000 in
theorem ggX6_carries_X6_coin : GoodIn wsX6_carries wsX6_coin := goodIn_ca (goodIn_r _ [101, 7, 58, 59, 60, 5, 61, 8, 9, 10, 11, 12, 13, 14, 15, 16, 102, 103, 104, 105, 66, 67, 68, 69, 17, 18, 19, 20, 21, 22, 23, 24, 25, 26, 27, 28, 29, 30, 31, 32, 33, 34, 35, 36, 141, 142, 143, 144, 145, 146, 147, 148, 149, 150, 151, 152, 153, 154, 155, 156, 157, 158, 159, 160] (by decide +kernel) (by decide +kernel)) (goodIn_sub (fun _ h => List.mem_cons_of_mem _ (List.mem_append_right _ h)) (by decide +kernel))
set_option maxRecDepth 20000 in
theorem gX6_carries_X6_coin : GoodIn wsX6_carries (wsV RX6 221 RX6 yX6_coin wsX6_coin) := goodIn_app (goodIn_of _ (by decide +kernel)) ggX6_carries_X6_coin
set_option maxRecDepth 20000 in
theorem ggX6_carries_X6_brawl : GoodIn wsX6_carries wsX6_brawl := goodIn_ca (goodIn_r _ [109, 7, 58, 59, 60, 5, 61, 8, 9, 10, 11, 12, 13, 14, 15, 16, 110, 111, 112, 113, 66, 67, 68, 69, 17, 18, 19, 20, 21, 22, 23, 24, 25, 26, 27, 28, 29, 30, 31, 32, 114, 115, 116, 117, 53, 78, 79, 80, 81, 62, 63, 64, 65, 118, 119, 120, 121, 122, 123, 124, 125, 126, 127, 128, 129, 130, 131, 132, 133, 70, 71, 72, 73, 74, 75, 76, 77, 82, 83, 84, 85, 33, 34, 35, 36, 141, 142, 143, 144, 145, 146, 147, 148, 149, 150, 151, 152, 153, 154, 155, 156, 157, 158, 159, 160] (by decide +kernel) (by decide +kernel)) (goodIn_sub (fun _ h => List.mem_cons_of_mem _ (List.mem_append_right _ h)) (by decide +kernel))
set_option maxRecDepth 20000 in
theorem gX6_carries_X6_brawl : GoodIn wsX6_carries (wsV RX6 224 RX6 yX6_brawl wsX6_brawl) := goodIn_app (goodIn_of _ (by decide +kernel)) ggX6_carries_X6_brawl
set_option maxRecDepth 20000 in
theorem ggX6_carries_X6_night : GoodIn wsX6_carries wsX6_night := goodIn_ca (goodIn_r _ [137, 7, 23, 24, 25, 5, 26, 15, 27, 28, 29, 30, 31, 32, 66, 67, 68, 69, 74, 75, 76, 77, 62, 63, 64, 65, 138, 139, 140, 33, 34, 35, 36, 141, 142, 143, 144, 145, 146, 147, 148, 149, 150, 151, 152, 153, 154, 155, 156, 157, 158, 159, 160] (by decide +kernel) (by decide +kernel)) (goodIn_sub (fun _ h => List.mem_cons_of_mem _ (List.mem_append_right _ h)) (by decide +kernel))
set_option maxRecDepth 20000 in
theorem gX6_carries_X6_night : GoodIn wsX6_carries (wsV RX6 227 RX6 yX6_night wsX6_night) := goodIn_app (goodIn_of _ (by decide +kernel)) ggX6_carries_X6_night
theorem dX6_carries_0 : decode cX6_carries 0 = .ok (.aload_n 0, 1) := by decide +kernel
theorem dX6_carries_1 : decode cX6_carries 1 = .ok (.getfield 36, 3) := by decide +kernel
theorem dX6_carries_4 : decode cX6_carries 4 = .ok (.iload_n 1, 1) := by decide +kernel
theorem dX6_carries_5 : decode cX6_carries 5 = .ok (.iconst 1, 1) := by decide +kernel
theorem dX6_carries_6 : decode cX6_carries 6 = .ok (.iadd, 1) := by decide +kernel
theorem dX6_carries_7 : decode cX6_carries 7 = .ok (.iaload, 1) := by decide +kernel
theorem dX6_carries_8 : decode cX6_carries 8 = .ok (.istore_n 2, 1) := by decide +kernel
theorem dX6_carries_9 : decode cX6_carries 9 = .ok (.aload_n 0, 1) := by decide +kernel
theorem dX6_carries_10 : decode cX6_carries 10 = .ok (.getfield 36, 3) := by decide +kernel
theorem dX6_carries_13 : decode cX6_carries 13 = .ok (.iload_n 1, 1) := by decide +kernel
theorem dX6_carries_14 : decode cX6_carries 14 = .ok (.iconst 2, 1) := by decide +kernel
theorem dX6_carries_15 : decode cX6_carries 15 = .ok (.iadd, 1) := by decide +kernel
theorem dX6_carries_16 : decode cX6_carries 16 = .ok (.iaload, 1) := by decide +kernel
theorem dX6_carries_17 : decode cX6_carries 17 = .ok (.istore_n 3, 1) := by decide +kernel
theorem dX6_carries_18 : decode cX6_carries 18 = .ok (.aload_n 0, 1) := by decide +kernel
theorem dX6_carries_19 : decode cX6_carries 19 = .ok (.getfield 36, 3) := by decide +kernel
theorem dX6_carries_22 : decode cX6_carries 22 = .ok (.iload_n 1, 1) := by decide +kernel
theorem dX6_carries_23 : decode cX6_carries 23 = .ok (.iaload, 1) := by decide +kernel
theorem dX6_carries_24 : decode cX6_carries 24 = .ok (.tableswitch 167 98 117 #[160, 154, 167, 167, 167, 128, 167, 167, 167, 135, 167, 167, 167, 167, 141, 167, 167, 96, 167, 148], 96) := by decide +kernel
theorem dX6_carries_120 : decode cX6_carries 120 = .ok (.aload_n 0, 1) := by decide +kernel
theorem dX6_carries_121 : decode cX6_carries 121 = .ok (.iload_n 2, 1) := by decide +kernel
theorem dX6_carries_122 : decode cX6_carries 122 = .ok (.iload_n 3, 1) := by decide +kernel
theorem dX6_carries_123 : decode cX6_carries 123 = .ok (.aload_n 0, 1) := by decide +kernel
theorem dX6_carries_124 : decode cX6_carries 124 = .ok (.getfield 36, 3) := by decide +kernel
theorem dX6_carries_127 : decode cX6_carries 127 = .ok (.iload_n 1, 1) := by decide +kernel
theorem dX6_carries_128 : decode cX6_carries 128 = .ok (.iconst 3, 1) := by decide +kernel
theorem dX6_carries_129 : decode cX6_carries 129 = .ok (.iadd, 1) := by decide +kernel
theorem dX6_carries_130 : decode cX6_carries 130 = .ok (.iaload, 1) := by decide +kernel
theorem dX6_carries_131 : decode cX6_carries 131 = .ok (.aload_n 0, 1) := by decide +kernel
theorem dX6_carries_132 : decode cX6_carries 132 = .ok (.getfield 36, 3) := by decide +kernel
theorem dX6_carries_135 : decode cX6_carries 135 = .ok (.iload_n 1, 1) := by decide +kernel
theorem dX6_carries_136 : decode cX6_carries 136 = .ok (.iconst 4, 1) := by decide +kernel
theorem dX6_carries_137 : decode cX6_carries 137 = .ok (.iadd, 1) := by decide +kernel
theorem dX6_carries_138 : decode cX6_carries 138 = .ok (.iaload, 1) := by decide +kernel
theorem dX6_carries_139 : decode cX6_carries 139 = .ok (.iconst 1, 1) := by decide +kernel
theorem dX6_carries_140 : decode cX6_carries 140 = .ok (.if_icmp .ne 7, 3) := by decide +kernel
theorem dX6_carries_143 : decode cX6_carries 143 = .ok (.iconst 1, 1) := by decide +kernel
theorem dX6_carries_144 : decode cX6_carries 144 = .ok (.goto 4, 3) := by decide +kernel
theorem dX6_carries_147 : decode cX6_carries 147 = .ok (.iconst 0, 1) := by decide +kernel
theorem dX6_carries_148 : decode cX6_carries 148 = .ok (.invokevirtual 205, 3) := by decide +kernel
theorem dX6_carries_151 : decode cX6_carries 151 = .ok (.ireturn, 1) := by decide +kernel
theorem dX6_carries_152 : decode cX6_carries 152 = .ok (.aload_n 0, 1) := by decide +kernel
theorem dX6_carries_153 : decode cX6_carries 153 = .ok (.iload_n 2, 1) := by decide +kernel
theorem dX6_carries_154 : decode cX6_carries 154 = .ok (.iload_n 3, 1) := by decide +kernel
theorem dX6_carries_155 : decode cX6_carries 155 = .ok (.invokevirtual 209, 3) := by decide +kernel
theorem dX6_carries_158 : decode cX6_carries 158 = .ok (.ireturn, 1) := by decide +kernel
theorem dX6_carries_159 : decode cX6_carries 159 = .ok (.aload_n 0, 1) := by decide +kernel
theorem dX6_carries_160 : decode cX6_carries 160 = .ok (.iload_n 2, 1) := by decide +kernel
theorem dX6_carries_161 : decode cX6_carries 161 = .ok (.invokevirtual 212, 3) := by decide +kernel
theorem dX6_carries_164 : decode cX6_carries 164 = .ok (.ireturn, 1) := by decide +kernel
theorem dX6_carries_165 : decode cX6_carries 165 = .ok (.aload_n 0, 1) := by decide +kernel
theorem dX6_carries_166 : decode cX6_carries 166 = .ok (.iload_n 2, 1) := by decide +kernel
theorem dX6_carries_167 : decode cX6_carries 167 = .ok (.iload_n 3, 1) := by decide +kernel
theorem dX6_carries_168 : decode cX6_carries 168 = .ok (.invokevirtual 215, 3) := by decide +kernel
theorem dX6_carries_171 : decode cX6_carries 171 = .ok (.ireturn, 1) := by decide +kernel
theorem dX6_carries_172 : decode cX6_carries 172 = .ok (.aload_n 0, 1) := by decide +kernel
theorem dX6_carries_173 : decode cX6_carries 173 = .ok (.iload_n 2, 1) := by decide +kernel
theorem dX6_carries_174 : decode cX6_carries 174 = .ok (.invokevirtual 218, 3) := by decide +kernel
theorem dX6_carries_177 : decode cX6_carries 177 = .ok (.ireturn, 1) := by decide +kernel
theorem dX6_carries_178 : decode cX6_carries 178 = .ok (.aload_n 0, 1) := by decide +kernel
theorem dX6_carries_179 : decode cX6_carries 179 = .ok (.iload_n 2, 1) := by decide +kernel
theorem dX6_carries_180 : decode cX6_carries 180 = .ok (.invokevirtual 221, 3) := by decide +kernel
theorem dX6_carries_183 : decode cX6_carries 183 = .ok (.ireturn, 1) := by decide +kernel
theorem dX6_carries_184 : decode cX6_carries 184 = .ok (.aload_n 0, 1) := by decide +kernel
theorem dX6_carries_185 : decode cX6_carries 185 = .ok (.iload_n 2, 1) := by decide +kernel
theorem dX6_carries_186 : decode cX6_carries 186 = .ok (.iload_n 3, 1) := by decide +kernel
theorem dX6_carries_187 : decode cX6_carries 187 = .ok (.invokevirtual 224, 3) := by decide +kernel
theorem dX6_carries_190 : decode cX6_carries 190 = .ok (.ireturn, 1) := by decide +kernel
theorem dX6_carries_191 : decode cX6_carries 191 = .ok (.aload_n 0, 1) := by decide +kernel
theorem dX6_carries_192 : decode cX6_carries 192 = .ok (.invokevirtual 227, 3) := by decide +kernel
theorem dX6_carries_195 : decode cX6_carries 195 = .ok (.ireturn, 1) := by decide +kernel
set_option maxRecDepth 20000 in
theorem ggX6_run_X6_isText : GoodIn wsX6_run wsX6_isText := goodIn_ca (goodIn_r _ [14, 1, 7, 3, 15, 16, 17, 13, 18, 19, 20, 21, 22, 23, 24, 25, 26, 27, 28, 29, 30, 31, 32, 33, 34, 35, 36, 37, 38, 39, 175, 176, 177, 178, 179, 180, 181, 182, 183, 184, 185, 186, 187, 188, 189, 190, 191, 192, 193, 194] (by decide +kernel) (by decide +kernel)) (goodIn_sub (fun _ h => List.mem_cons_of_mem _ (List.mem_append_right _ h)) (by decide +kernel))
set_option maxRecDepth 20000 in
theorem gX6_run_X6_isText : GoodIn wsX6_run (wsV RX6 230 RX6 yX6_isText wsX6_isText) := goodIn_app (goodIn_of _ (by decide +kernel)) ggX6_run_X6_isText
set_option maxRecDepth 20000 in
theorem ggX6_run_X6_fails : GoodIn wsX6_run wsX6_fails := goodIn_r _ [43, 8, 9, 175, 176, 177, 178, 179, 180, 181, 182, 183, 184, 185, 186, 187, 188, 189, 190, 191, 192, 193, 194] (by decide +kernel) (by decide +kernel)
set_option maxRecDepth 20000 in
theorem gX6_run_X6_fails : GoodIn wsX6_run (wsV RX6 77 RX6 yX6_fails wsX6_fails) := goodIn_app (goodIn_of _ (by decide +kernel)) ggX6_run_X6_fails
set_option maxRecDepth 20000 in
theorem ggX6_run_X6_copies : GoodIn wsX6_run wsX6_copies := goodIn_ca (goodIn_r _ [46] (by decide +kernel) (by decide +kernel)) (goodIn_sub (fun _ h => List.mem_cons_of_mem _ (List.mem_append_right _ h)) (by decide +kernel))
set_option maxRecDepth 20000 in
theorem gX6_run_X6_copies : GoodIn wsX6_run (va_wsS RX6 58 yX6_copies wsX6_copies) := goodIn_app (goodIn_of _ (by decide +kernel)) ggX6_run_X6_copies
set_option maxRecDepth 20000 in
theorem ggX6_run_X6_carries : GoodIn wsX6_run wsX6_carries := goodIn_ca (goodIn_r _ [50, 19, 51, 52, 53, 13, 54, 4, 37, 38, 39, 40, 41, 42, 43, 8, 9, 55, 56, 57, 58, 59, 60, 61, 62, 63, 64, 6, 65, 66, 44, 45, 46, 67, 68, 69, 70, 71, 72, 73, 74, 75, 76, 77, 78, 79, 80, 81, 82, 83, 84, 85, 86, 87, 88, 89, 90, 91, 92, 93, 94, 95, 96, 97, 98, 99, 100, 101, 102, 103, 104, 105, 106, 107, 108, 109, 110, 111, 112, 113, 114, 115, 116, 117, 118, 119, 120, 121, 122, 123, 124, 125, 126, 127, 128, 129, 130, 131, 132, 133, 134, 135, 136, 137, 138, 139, 140, 141, 142, 143, 144, 145, 146, 147, 148, 149, 150, 151, 152, 153, 154, 155, 156, 157, 158, 159, 160, 161, 162, 163, 164, 165, 166, 167, 168, 169, 170, 171, 172, 173, 174, 175, 176, 177, 178, 179, 180, 181, 182, 183, 184, 185, 186, 187, 188, 189, 190, 191, 192, 193, 194] (by decide +kernel) (by decide +kernel)) (goodIn_sub (fun _ h => List.mem_cons_of_mem _ (List.mem_append_right _ h)) (by decide +kernel))
set_option maxRecDepth 20000 in
theorem gX6_run_X6_carries : GoodIn wsX6_run (wsV RX6 233 RX6 yX6_carries wsX6_carries) := goodIn_app (goodIn_of _ (by decide +kernel)) ggX6_run_X6_carries
set_option maxRecDepth 20000 in
theorem ggX6_run_X6_keeps : GoodIn wsX6_run wsX6_keeps := goodIn_ca (goodIn_r _ [64, 8, 6, 65, 66, 44, 45, 13, 46, 175, 176, 177, 178, 179, 180, 181, 182, 183, 184, 185, 186, 187, 188, 189, 190, 191, 192, 193, 194] (by decide +kernel) (by decide +kernel)) (goodIn_sub (fun _ h => List.mem_cons_of_mem _ (List.mem_append_right _ h)) (by decide +kernel))
set_option maxRecDepth 20000 in
theorem gX6_run_X6_keeps : GoodIn wsX6_run (wsV RX6 84 RX6 yX6_keeps wsX6_keeps) := goodIn_app (goodIn_of _ (by decide +kernel)) ggX6_run_X6_keeps
theorem dX6_run_0 : decode cX6_run 0 = .ok (.aload_n 0, 1) := by decide +kernel
theorem dX6_run_1 : decode cX6_run 1 = .ok (.invokevirtual 230, 3) := by decide +kernel
theorem dX6_run_4 : decode cX6_run 4 = .ok (.istore_n 1, 1) := by decide +kernel
theorem dX6_run_5 : decode cX6_run 5 = .ok (.aload_n 0, 1) := by decide +kernel
theorem dX6_run_6 : decode cX6_run 6 = .ok (.iload_n 1, 1) := by decide +kernel
theorem dX6_run_7 : decode cX6_run 7 = .ok (.ifCond .eq 7, 3) := by decide +kernel
theorem dX6_run_10 : decode cX6_run 10 = .ok (.iconst (-1), 1) := by decide +kernel
theorem dX6_run_11 : decode cX6_run 11 = .ok (.goto 7, 3) := by decide +kernel
theorem dX6_run_14 : decode cX6_run 14 = .ok (.aload_n 0, 1) := by decide +kernel
theorem dX6_run_15 : decode cX6_run 15 = .ok (.getfield 183, 3) := by decide +kernel
theorem dX6_run_18 : decode cX6_run 18 = .ok (.putfield 25, 3) := by decide +kernel
theorem dX6_run_21 : decode cX6_run 21 = .ok (.aload_n 0, 1) := by decide +kernel
theorem dX6_run_22 : decode cX6_run 22 = .ok (.iconst 0, 1) := by decide +kernel
theorem dX6_run_23 : decode cX6_run 23 = .ok (.putfield 180, 3) := by decide +kernel
theorem dX6_run_26 : decode cX6_run 26 = .ok (.aload_n 0, 1) := by decide +kernel
theorem dX6_run_27 : decode cX6_run 27 = .ok (.iload_n 1, 1) := by decide +kernel
theorem dX6_run_28 : decode cX6_run 28 = .ok (.ifCond .eq 7, 3) := by decide +kernel
theorem dX6_run_31 : decode cX6_run 31 = .ok (.iconst 0, 1) := by decide +kernel
theorem dX6_run_32 : decode cX6_run 32 = .ok (.goto 4, 3) := by decide +kernel
theorem dX6_run_35 : decode cX6_run 35 = .ok (.iconst 1, 1) := by decide +kernel
theorem dX6_run_36 : decode cX6_run 36 = .ok (.invokevirtual 77, 3) := by decide +kernel
theorem dX6_run_39 : decode cX6_run 39 = .ok (.ifCond .eq 5, 3) := by decide +kernel
theorem dX6_run_42 : decode cX6_run 42 = .ok (.iconst 0, 1) := by decide +kernel
theorem dX6_run_43 : decode cX6_run 43 = .ok (.ireturn, 1) := by decide +kernel
theorem dX6_run_44 : decode cX6_run 44 = .ok (.aload_n 0, 1) := by decide +kernel
theorem dX6_run_45 : decode cX6_run 45 = .ok (.getfield 7, 3) := by decide +kernel
theorem dX6_run_48 : decode cX6_run 48 = .ok (.iconst 0, 1) := by decide +kernel
theorem dX6_run_49 : decode cX6_run 49 = .ok (.aload_n 0, 1) := by decide +kernel
theorem dX6_run_50 : decode cX6_run 50 = .ok (.getfield 19, 3) := by decide +kernel
theorem dX6_run_53 : decode cX6_run 53 = .ok (.iconst 0, 1) := by decide +kernel
theorem dX6_run_54 : decode cX6_run 54 = .ok (.invokestatic 58, 3) := by decide +kernel
theorem dX6_run_57 : decode cX6_run 57 = .ok (.aload_n 0, 1) := by decide +kernel
theorem dX6_run_58 : decode cX6_run 58 = .ok (.iconst 1, 1) := by decide +kernel
theorem dX6_run_59 : decode cX6_run 59 = .ok (.putfield 52, 3) := by decide +kernel
theorem dX6_run_62 : decode cX6_run 62 = .ok (.iconst 0, 1) := by decide +kernel
theorem dX6_run_63 : decode cX6_run 63 = .ok (.istore_n 2, 1) := by decide +kernel
theorem dX6_run_64 : decode cX6_run 64 = .ok (.iconst 0, 1) := by decide +kernel
theorem dX6_run_65 : decode cX6_run 65 = .ok (.istore_n 3, 1) := by decide +kernel
theorem dX6_run_66 : decode cX6_run 66 = .ok (.iload_n 2, 1) := by decide +kernel
theorem dX6_run_67 : decode cX6_run 67 = .ok (.aload_n 0, 1) := by decide +kernel
theorem dX6_run_68 : decode cX6_run 68 = .ok (.getfield 195, 3) := by decide +kernel
theorem dX6_run_71 : decode cX6_run 71 = .ok (.if_icmp .ge 31, 3) := by decide +kernel
theorem dX6_run_74 : decode cX6_run 74 = .ok (.aload_n 0, 1) := by decide +kernel
theorem dX6_run_75 : decode cX6_run 75 = .ok (.getfield 39, 3) := by decide +kernel
theorem dX6_run_78 : decode cX6_run 78 = .ok (.ifCond .ne 24, 3) := by decide +kernel
theorem dX6_run_81 : decode cX6_run 81 = .ok (.aload_n 0, 1) := by decide +kernel
theorem dX6_run_82 : decode cX6_run 82 = .ok (.iconst 5, 1) := by decide +kernel
theorem dX6_run_83 : decode cX6_run 83 = .ok (.iload_n 2, 1) := by decide +kernel
theorem dX6_run_84 : decode cX6_run 84 = .ok (.imul, 1) := by decide +kernel
theorem dX6_run_85 : decode cX6_run 85 = .ok (.invokevirtual 233, 3) := by decide +kernel
theorem dX6_run_88 : decode cX6_run 88 = .ok (.istore_n 3, 1) := by decide +kernel
theorem dX6_run_89 : decode cX6_run 89 = .ok (.aload_n 0, 1) := by decide +kernel
theorem dX6_run_90 : decode cX6_run 90 = .ok (.getfield 39, 3) := by decide +kernel
theorem dX6_run_93 : decode cX6_run 93 = .ok (.ifCond .ne (-27), 3) := by decide +kernel
theorem dX6_run_96 : decode cX6_run 96 = .ok (.iinc 2 1, 3) := by decide +kernel
theorem dX6_run_99 : decode cX6_run 99 = .ok (.goto (-33), 3) := by decide +kernel
theorem dX6_run_102 : decode cX6_run 102 = .ok (.aload_n 0, 1) := by decide +kernel
theorem dX6_run_103 : decode cX6_run 103 = .ok (.iconst 0, 1) := by decide +kernel
theorem dX6_run_104 : decode cX6_run 104 = .ok (.putfield 52, 3) := by decide +kernel
theorem dX6_run_107 : decode cX6_run 107 = .ok (.aload_n 0, 1) := by decide +kernel
theorem dX6_run_108 : decode cX6_run 108 = .ok (.getfield 39, 3) := by decide +kernel
theorem dX6_run_111 : decode cX6_run 111 = .ok (.ifCond .le 42, 3) := by decide +kernel
theorem dX6_run_114 : decode cX6_run 114 = .ok (.aload_n 0, 1) := by decide +kernel
theorem dX6_run_115 : decode cX6_run 115 = .ok (.getfield 19, 3) := by decide +kernel
theorem dX6_run_118 : decode cX6_run 118 = .ok (.iconst 0, 1) := by decide +kernel
theorem dX6_run_119 : decode cX6_run 119 = .ok (.aload_n 0, 1) := by decide +kernel
theorem dX6_run_120 : decode cX6_run 120 = .ok (.getfield 7, 3) := by decide +kernel
theorem dX6_run_123 : decode cX6_run 123 = .ok (.iconst 0, 1) := by decide +kernel
theorem dX6_run_124 : decode cX6_run 124 = .ok (.invokestatic 58, 3) := by decide +kernel
theorem dX6_run_127 : decode cX6_run 127 = .ok (.aload_n 0, 1) := by decide +kernel
theorem dX6_run_128 : decode cX6_run 128 = .ok (.aload_n 0, 1) := by decide +kernel
theorem dX6_run_129 : decode cX6_run 129 = .ok (.getfield 42, 3) := by decide +kernel
theorem dX6_run_132 : decode cX6_run 132 = .ok (.ifCond .eq 7, 3) := by decide +kernel
theorem dX6_run_135 : decode cX6_run 135 = .ok (.iconst 2, 1) := by decide +kernel
theorem dX6_run_136 : decode cX6_run 136 = .ok (.goto 4, 3) := by decide +kernel
theorem dX6_run_139 : decode cX6_run 139 = .ok (.iconst 1, 1) := by decide +kernel
theorem dX6_run_140 : decode cX6_run 140 = .ok (.putfield 39, 3) := by decide +kernel
theorem dX6_run_143 : decode cX6_run 143 = .ok (.iload_n 3, 1) := by decide +kernel
theorem dX6_run_144 : decode cX6_run 144 = .ok (.ifCond .le 7, 3) := by decide +kernel
theorem dX6_run_147 : decode cX6_run 147 = .ok (.iconst 0, 1) := by decide +kernel
theorem dX6_run_148 : decode cX6_run 148 = .ok (.goto 4, 3) := by decide +kernel
theorem dX6_run_151 : decode cX6_run 151 = .ok (.iload_n 3, 1) := by decide +kernel
theorem dX6_run_152 : decode cX6_run 152 = .ok (.ireturn, 1) := by decide +kernel
theorem dX6_run_153 : decode cX6_run 153 = .ok (.aload_n 0, 1) := by decide +kernel
theorem dX6_run_154 : decode cX6_run 154 = .ok (.aload_n 0, 1) := by decide +kernel
theorem dX6_run_155 : decode cX6_run 155 = .ok (.getfield 19, 3) := by decide +kernel
theorem dX6_run_158 : decode cX6_run 158 = .ok (.invokevirtual 84, 3) := by decide +kernel
theorem dX6_run_161 : decode cX6_run 161 = .ok (.aload_n 0, 1) := by decide +kernel
theorem dX6_run_162 : decode cX6_run 162 = .ok (.getfield 195, 3) := by decide +kernel
theorem dX6_run_165 : decode cX6_run 165 = .ok (.ireturn, 1) := by decide +kernel
theorem dX6_errorPosition_0 : decode cX6_errorPosition 0 = .ok (.aload_n 0, 1) := by decide +kernel
theorem dX6_errorPosition_1 : decode cX6_errorPosition 1 = .ok (.iconst 0, 1) := by decide +kernel
theorem dX6_errorPosition_2 : decode cX6_errorPosition 2 = .ok (.putfield 39, 3) := by decide +kernel
theorem dX6_errorPosition_5 : decode cX6_errorPosition 5 = .ok (.aload_n 0, 1) := by decide +kernel
theorem dX6_errorPosition_6 : decode cX6_errorPosition 6 = .ok (.getfield 25, 3) := by decide +kernel
theorem dX6_errorPosition_9 : decode cX6_errorPosition 9 = .ok (.ireturn, 1) := by decide +kernel
set_option maxRecDepth 20000 in
theorem ggX6_refusal_X6_fails : GoodIn wsX6_refusal wsX6_fails := goodIn_r _ [7, 8, 9, 10, 11, 12, 13, 14, 15, 16, 17, 18, 19, 20, 21, 22, 23, 24, 25, 26, 27, 28, 29] (by decide +kernel) (by decide +kernel)
set_option maxRecDepth 20000 in
theorem gX6_refusal_X6_fails : GoodIn wsX6_refusal (wsV RX6 77 RX6 yX6_fails wsX6_fails) := goodIn_app (goodIn_of _ (by decide +kernel)) ggX6_refusal_X6_fails
theorem dX6_refusal_0 : decode cX6_refusal 0 = .ok (.aload_n 0, 1) := by decide +kernel
theorem dX6_refusal_1 : decode cX6_refusal 1 = .ok (.aload_n 0, 1) := by decide +kernel
theorem dX6_refusal_2 : decode cX6_refusal 2 = .ok (.getfield 46, 3) := by decide +kernel
theorem dX6_refusal_5 : decode cX6_refusal 5 = .ok (.ifCond .ne 7, 3) := by decide +kernel
theorem dX6_refusal_8 : decode cX6_refusal 8 = .ok (.iconst 1, 1) := by decide +kernel
theorem dX6_refusal_9 : decode cX6_refusal 9 = .ok (.goto 4, 3) := by decide +kernel
theorem dX6_refusal_12 : decode cX6_refusal 12 = .ok (.iconst 0, 1) := by decide +kernel
theorem dX6_refusal_13 : decode cX6_refusal 13 = .ok (.invokevirtual 77, 3) := by decide +kernel
theorem dX6_refusal_16 : decode cX6_refusal 16 = .ok (.ifCond .eq 7, 3) := by decide +kernel
theorem dX6_refusal_19 : decode cX6_refusal 19 = .ok (.iconst 0, 1) := by decide +kernel
theorem dX6_refusal_20 : decode cX6_refusal 20 = .ok (.goto 18, 3) := by decide +kernel
theorem dX6_refusal_23 : decode cX6_refusal 23 = .ok (.iload_n 1, 1) := by decide +kernel
theorem dX6_refusal_24 : decode cX6_refusal 24 = .ok (.ifCond .eq 10, 3) := by decide +kernel
theorem dX6_refusal_27 : decode cX6_refusal 27 = .ok (.aload_n 0, 1) := by decide +kernel
theorem dX6_refusal_28 : decode cX6_refusal 28 = .ok (.getfield 49, 3) := by decide +kernel
theorem dX6_refusal_31 : decode cX6_refusal 31 = .ok (.goto 7, 3) := by decide +kernel
theorem dX6_refusal_34 : decode cX6_refusal 34 = .ok (.aload_n 0, 1) := by decide +kernel
theorem dX6_refusal_35 : decode cX6_refusal 35 = .ok (.getfield 46, 3) := by decide +kernel
theorem dX6_refusal_38 : decode cX6_refusal 38 = .ok (.ireturn, 1) := by decide +kernel
set_option maxRecDepth 20000 in
theorem ggX6_summed_X6_of : GoodIn wsX6_summed wsX6_of := goodIn_ca (goodIn_r _ [6, 1, 7, 8, 9, 10, 11, 12, 13, 14, 15, 16, 17, 18, 19, 20, 21, 22, 23, 24, 25, 26] (by decide +kernel) (by decide +kernel)) (goodIn_sub (fun _ h => List.mem_cons_of_mem _ (List.mem_append_right _ h)) (by decide +kernel))
set_option maxRecDepth 20000 in
theorem gX6_summed_X6_of : GoodIn wsX6_summed (wsV RX6 74 RX6 yX6_of wsX6_of) := goodIn_app (goodIn_of _ (by decide +kernel)) ggX6_summed_X6_of
theorem dX6_summed_0 : decode cX6_summed 0 = .ok (.iconst 0, 1) := by decide +kernel
theorem dX6_summed_1 : decode cX6_summed 1 = .ok (.istore_n 2, 1) := by decide +kernel
theorem dX6_summed_2 : decode cX6_summed 2 = .ok (.iconst 0, 1) := by decide +kernel
theorem dX6_summed_3 : decode cX6_summed 3 = .ok (.istore_n 3, 1) := by decide +kernel
theorem dX6_summed_4 : decode cX6_summed 4 = .ok (.iload_n 3, 1) := by decide +kernel
theorem dX6_summed_5 : decode cX6_summed 5 = .ok (.aload_n 0, 1) := by decide +kernel
theorem dX6_summed_6 : decode cX6_summed 6 = .ok (.getfield 7, 3) := by decide +kernel
theorem dX6_summed_9 : decode cX6_summed 9 = .ok (.iconst 0, 1) := by decide +kernel
theorem dX6_summed_10 : decode cX6_summed 10 = .ok (.iaload, 1) := by decide +kernel
theorem dX6_summed_11 : decode cX6_summed 11 = .ok (.if_icmp .ge 18, 3) := by decide +kernel
theorem dX6_summed_14 : decode cX6_summed 14 = .ok (.iload_n 2, 1) := by decide +kernel
theorem dX6_summed_15 : decode cX6_summed 15 = .ok (.aload_n 0, 1) := by decide +kernel
theorem dX6_summed_16 : decode cX6_summed 16 = .ok (.iload_n 3, 1) := by decide +kernel
theorem dX6_summed_17 : decode cX6_summed 17 = .ok (.iload_n 1, 1) := by decide +kernel
theorem dX6_summed_18 : decode cX6_summed 18 = .ok (.invokevirtual 74, 3) := by decide +kernel
theorem dX6_summed_21 : decode cX6_summed 21 = .ok (.iadd, 1) := by decide +kernel
theorem dX6_summed_22 : decode cX6_summed 22 = .ok (.istore_n 2, 1) := by decide +kernel
theorem dX6_summed_23 : decode cX6_summed 23 = .ok (.iinc 3 1, 3) := by decide +kernel
theorem dX6_summed_26 : decode cX6_summed 26 = .ok (.goto (-22), 3) := by decide +kernel
theorem dX6_summed_29 : decode cX6_summed 29 = .ok (.iload_n 2, 1) := by decide +kernel
theorem dX6_summed_30 : decode cX6_summed 30 = .ok (.ireturn, 1) := by decide +kernel
set_option maxRecDepth 20000 in
theorem ggX6_cats_X6_isCat : GoodIn wsX6_cats wsX6_isCat := goodIn_ca (goodIn_r _ [6, 7, 8, 9, 5, 10, 1, 11, 12, 13, 14, 15, 16, 17, 18, 19, 20, 21, 22, 23, 24, 25, 26, 27, 28, 29, 30] (by decide +kernel) (by decide +kernel)) (goodIn_sub (fun _ h => List.mem_cons_of_mem _ (List.mem_append_right _ h)) (by decide +kernel))
set_option maxRecDepth 20000 in
theorem gX6_cats_X6_isCat : GoodIn wsX6_cats (wsV RX6 70 RX6 yX6_isCat wsX6_isCat) := goodIn_app (goodIn_of _ (by decide +kernel)) ggX6_cats_X6_isCat
theorem dX6_cats_0 : decode cX6_cats 0 = .ok (.iconst 0, 1) := by decide +kernel
theorem dX6_cats_1 : decode cX6_cats 1 = .ok (.istore_n 1, 1) := by decide +kernel
theorem dX6_cats_2 : decode cX6_cats 2 = .ok (.iconst 0, 1) := by decide +kernel
theorem dX6_cats_3 : decode cX6_cats 3 = .ok (.istore_n 2, 1) := by decide +kernel
theorem dX6_cats_4 : decode cX6_cats 4 = .ok (.iload_n 2, 1) := by decide +kernel
theorem dX6_cats_5 : decode cX6_cats 5 = .ok (.aload_n 0, 1) := by decide +kernel
theorem dX6_cats_6 : decode cX6_cats 6 = .ok (.getfield 7, 3) := by decide +kernel
theorem dX6_cats_9 : decode cX6_cats 9 = .ok (.iconst 1, 1) := by decide +kernel
theorem dX6_cats_10 : decode cX6_cats 10 = .ok (.iaload, 1) := by decide +kernel
theorem dX6_cats_11 : decode cX6_cats 11 = .ok (.if_icmp .ge 25, 3) := by decide +kernel
theorem dX6_cats_14 : decode cX6_cats 14 = .ok (.iload_n 1, 1) := by decide +kernel
theorem dX6_cats_15 : decode cX6_cats 15 = .ok (.aload_n 0, 1) := by decide +kernel
theorem dX6_cats_16 : decode cX6_cats 16 = .ok (.iload_n 2, 1) := by decide +kernel
theorem dX6_cats_17 : decode cX6_cats 17 = .ok (.invokevirtual 70, 3) := by decide +kernel
theorem dX6_cats_20 : decode cX6_cats 20 = .ok (.ifCond .eq 7, 3) := by decide +kernel
theorem dX6_cats_23 : decode cX6_cats 23 = .ok (.iconst 1, 1) := by decide +kernel
theorem dX6_cats_24 : decode cX6_cats 24 = .ok (.goto 4, 3) := by decide +kernel
theorem dX6_cats_27 : decode cX6_cats 27 = .ok (.iconst 0, 1) := by decide +kernel
theorem dX6_cats_28 : decode cX6_cats 28 = .ok (.iadd, 1) := by decide +kernel
theorem dX6_cats_29 : decode cX6_cats 29 = .ok (.istore_n 1, 1) := by decide +kernel
theorem dX6_cats_30 : decode cX6_cats 30 = .ok (.iinc 2 1, 3) := by decide +kernel
theorem dX6_cats_33 : decode cX6_cats 33 = .ok (.goto (-29), 3) := by decide +kernel
theorem dX6_cats_36 : decode cX6_cats 36 = .ok (.iload_n 1, 1) := by decide +kernel
theorem dX6_cats_37 : decode cX6_cats 37 = .ok (.ireturn, 1) := by decide +kernel
set_option maxRecDepth 20000 in
theorem ggX6_account_X6_in : GoodIn wsX6_account wsX6_in := goodIn_r _ [7] (by decide +kernel) (by decide +kernel)
set_option maxRecDepth 20000 in
theorem gX6_account_X6_in : GoodIn wsX6_account (va_wsS RX6 62 yX6_in wsX6_in) := goodIn_app (goodIn_of _ (by decide +kernel)) ggX6_account_X6_in
set_option maxRecDepth 20000 in
theorem ggX6_account_X6_fails : GoodIn wsX6_account wsX6_fails := goodIn_r _ [11, 12, 13, 42, 43, 44, 45, 46, 47, 48, 49, 50, 51, 52, 53, 54, 55, 56, 57, 58, 59, 60, 61] (by decide +kernel) (by decide +kernel)
set_option maxRecDepth 20000 in
theorem gX6_account_X6_fails : GoodIn wsX6_account (wsV RX6 77 RX6 yX6_fails wsX6_fails) := goodIn_app (goodIn_of _ (by decide +kernel)) ggX6_account_X6_fails
set_option maxRecDepth 20000 in
theorem ggX6_account_X6_summed : GoodIn wsX6_account wsX6_summed := goodIn_ca (goodIn_r _ [17, 1, 18, 19, 20, 6, 21, 42, 43, 44, 45, 46, 47, 48, 49, 50, 51, 52, 53, 54, 55, 56, 57, 58, 59, 60, 61] (by decide +kernel) (by decide +kernel)) (goodIn_sub (fun _ h => List.mem_cons_of_mem _ (List.mem_append_right _ h)) (by decide +kernel))
set_option maxRecDepth 20000 in
theorem gX6_account_X6_summed : GoodIn wsX6_account (wsV RX6 236 RX6 yX6_summed wsX6_summed) := goodIn_app (goodIn_of _ (by decide +kernel)) ggX6_account_X6_summed
set_option maxRecDepth 20000 in
theorem ggX6_account_X6_cats : GoodIn wsX6_account wsX6_cats := goodIn_ca (goodIn_r _ [25, 1, 26, 27, 28, 6, 29, 30, 31, 32, 33, 42, 43, 44, 45, 46, 47, 48, 49, 50, 51, 52, 53, 54, 55, 56, 57, 58, 59, 60, 61] (by decide +kernel) (by decide +kernel)) (goodIn_sub (fun _ h => List.mem_cons_of_mem _ (List.mem_append_right _ h)) (by decide +kernel))
set_option maxRecDepth 20000 in
theorem gX6_account_X6_cats : GoodIn wsX6_account (wsV RX6 239 RX6 yX6_cats wsX6_cats) := goodIn_app (goodIn_of _ (by decide +kernel)) ggX6_account_X6_cats
set_option maxRecDepth 20000 in
theorem ggX6_account_X6_taken : GoodIn wsX6_account wsX6_taken := goodIn_ca (goodIn_r _ [37, 18, 19, 20, 6, 21, 1, 42, 43, 44, 45, 46, 47, 48, 49, 50, 51, 52, 53, 54, 55, 56, 57, 58, 59, 60, 61] (by decide +kernel) (by decide +kernel)) (goodIn_sub (fun _ h => List.mem_cons_of_mem _ (List.mem_append_right _ h)) (by decide +kernel))
set_option maxRecDepth 20000 in
theorem gX6_account_X6_taken : GoodIn wsX6_account (wsV RX6 134 RX6 yX6_taken wsX6_taken) := goodIn_app (goodIn_of _ (by decide +kernel)) ggX6_account_X6_taken
set_option maxRecDepth 20000 in
theorem ggX6_account_X6_underStools : GoodIn wsX6_account wsX6_underStools := goodIn_ca (goodIn_r _ [41, 1, 18, 19, 20, 6, 21, 42, 43, 44, 45, 46, 47, 48, 49, 50, 51, 52, 53, 54, 55, 56, 57, 58, 59, 60, 61] (by decide +kernel) (by decide +kernel)) (goodIn_sub (fun _ h => List.mem_cons_of_mem _ (List.mem_append_right _ h)) (by decide +kernel))
set_option maxRecDepth 20000 in
theorem gX6_account_X6_underStools : GoodIn wsX6_account (wsV RX6 147 RX6 yX6_underStools wsX6_underStools) := goodIn_app (goodIn_of _ (by decide +kernel)) ggX6_account_X6_underStools
theorem dX6_account_0 : decode cX6_account 0 = .ok (.aload_n 0, 1) := by decide +kernel
theorem dX6_account_1 : decode cX6_account 1 = .ok (.iload_n 1, 1) := by decide +kernel
theorem dX6_account_2 : decode cX6_account 2 = .ok (.iconst 0, 1) := by decide +kernel
theorem dX6_account_3 : decode cX6_account 3 = .ok (.bipush 12, 2) := by decide +kernel
theorem dX6_account_5 : decode cX6_account 5 = .ok (.invokestatic 62, 3) := by decide +kernel
theorem dX6_account_8 : decode cX6_account 8 = .ok (.ifCond .eq 7, 3) := by decide +kernel
theorem dX6_account_11 : decode cX6_account 11 = .ok (.iconst 0, 1) := by decide +kernel
theorem dX6_account_12 : decode cX6_account 12 = .ok (.goto 4, 3) := by decide +kernel
theorem dX6_account_15 : decode cX6_account 15 = .ok (.iconst 1, 1) := by decide +kernel
theorem dX6_account_16 : decode cX6_account 16 = .ok (.invokevirtual 77, 3) := by decide +kernel
theorem dX6_account_19 : decode cX6_account 19 = .ok (.ifCond .eq 5, 3) := by decide +kernel
theorem dX6_account_22 : decode cX6_account 22 = .ok (.iconst 0, 1) := by decide +kernel
theorem dX6_account_23 : decode cX6_account 23 = .ok (.ireturn, 1) := by decide +kernel
theorem dX6_account_24 : decode cX6_account 24 = .ok (.iload_n 1, 1) := by decide +kernel
theorem dX6_account_25 : decode cX6_account 25 = .ok (.tableswitch 134 0 12 #[67, 74, 80, 87, 92, 106, 113, 134, 134, 134, 118, 124, 129], 67) := by decide +kernel
theorem dX6_account_92 : decode cX6_account 92 = .ok (.aload_n 0, 1) := by decide +kernel
theorem dX6_account_93 : decode cX6_account 93 = .ok (.getfield 7, 3) := by decide +kernel
theorem dX6_account_96 : decode cX6_account 96 = .ok (.iconst 0, 1) := by decide +kernel
theorem dX6_account_97 : decode cX6_account 97 = .ok (.iaload, 1) := by decide +kernel
theorem dX6_account_98 : decode cX6_account 98 = .ok (.ireturn, 1) := by decide +kernel
theorem dX6_account_99 : decode cX6_account 99 = .ok (.aload_n 0, 1) := by decide +kernel
theorem dX6_account_100 : decode cX6_account 100 = .ok (.iconst 3, 1) := by decide +kernel
theorem dX6_account_101 : decode cX6_account 101 = .ok (.invokevirtual 236, 3) := by decide +kernel
theorem dX6_account_104 : decode cX6_account 104 = .ok (.ireturn, 1) := by decide +kernel
theorem dX6_account_105 : decode cX6_account 105 = .ok (.aload_n 0, 1) := by decide +kernel
theorem dX6_account_106 : decode cX6_account 106 = .ok (.getfield 7, 3) := by decide +kernel
theorem dX6_account_109 : decode cX6_account 109 = .ok (.iconst 1, 1) := by decide +kernel
theorem dX6_account_110 : decode cX6_account 110 = .ok (.iaload, 1) := by decide +kernel
theorem dX6_account_111 : decode cX6_account 111 = .ok (.ireturn, 1) := by decide +kernel
theorem dX6_account_112 : decode cX6_account 112 = .ok (.aload_n 0, 1) := by decide +kernel
theorem dX6_account_113 : decode cX6_account 113 = .ok (.invokevirtual 239, 3) := by decide +kernel
theorem dX6_account_116 : decode cX6_account 116 = .ok (.ireturn, 1) := by decide +kernel
theorem dX6_account_117 : decode cX6_account 117 = .ok (.aload_n 0, 1) := by decide +kernel
theorem dX6_account_118 : decode cX6_account 118 = .ok (.iconst 0, 1) := by decide +kernel
theorem dX6_account_119 : decode cX6_account 119 = .ok (.aload_n 0, 1) := by decide +kernel
theorem dX6_account_120 : decode cX6_account 120 = .ok (.getfield 7, 3) := by decide +kernel
theorem dX6_account_123 : decode cX6_account 123 = .ok (.iconst 0, 1) := by decide +kernel
theorem dX6_account_124 : decode cX6_account 124 = .ok (.iaload, 1) := by decide +kernel
theorem dX6_account_125 : decode cX6_account 125 = .ok (.iconst 1, 1) := by decide +kernel
theorem dX6_account_126 : decode cX6_account 126 = .ok (.isub, 1) := by decide +kernel
theorem dX6_account_127 : decode cX6_account 127 = .ok (.invokevirtual 134, 3) := by decide +kernel
theorem dX6_account_130 : decode cX6_account 130 = .ok (.ireturn, 1) := by decide +kernel
theorem dX6_account_131 : decode cX6_account 131 = .ok (.aload_n 0, 1) := by decide +kernel
theorem dX6_account_132 : decode cX6_account 132 = .ok (.getfield 7, 3) := by decide +kernel
theorem dX6_account_135 : decode cX6_account 135 = .ok (.iconst 2, 1) := by decide +kernel
theorem dX6_account_136 : decode cX6_account 136 = .ok (.iaload, 1) := by decide +kernel
theorem dX6_account_137 : decode cX6_account 137 = .ok (.ireturn, 1) := by decide +kernel
theorem dX6_account_138 : decode cX6_account 138 = .ok (.aload_n 0, 1) := by decide +kernel
theorem dX6_account_139 : decode cX6_account 139 = .ok (.invokevirtual 147, 3) := by decide +kernel
theorem dX6_account_142 : decode cX6_account 142 = .ok (.ireturn, 1) := by decide +kernel
theorem dX6_account_143 : decode cX6_account 143 = .ok (.aload_n 0, 1) := by decide +kernel
theorem dX6_account_144 : decode cX6_account 144 = .ok (.iconst 2, 1) := by decide +kernel
theorem dX6_account_145 : decode cX6_account 145 = .ok (.invokevirtual 236, 3) := by decide +kernel
theorem dX6_account_148 : decode cX6_account 148 = .ok (.ireturn, 1) := by decide +kernel
theorem dX6_account_149 : decode cX6_account 149 = .ok (.aload_n 0, 1) := by decide +kernel
theorem dX6_account_150 : decode cX6_account 150 = .ok (.getfield 180, 3) := by decide +kernel
theorem dX6_account_153 : decode cX6_account 153 = .ok (.ireturn, 1) := by decide +kernel
theorem dX6_account_154 : decode cX6_account 154 = .ok (.aload_n 0, 1) := by decide +kernel
theorem dX6_account_155 : decode cX6_account 155 = .ok (.getfield 55, 3) := by decide +kernel
theorem dX6_account_158 : decode cX6_account 158 = .ok (.ireturn, 1) := by decide +kernel
theorem dX6_account_159 : decode cX6_account 159 = .ok (.aload_n 0, 1) := by decide +kernel
theorem dX6_account_160 : decode cX6_account 160 = .ok (.getfield 7, 3) := by decide +kernel
theorem dX6_account_163 : decode cX6_account 163 = .ok (.iconst 3, 1) := by decide +kernel
theorem dX6_account_164 : decode cX6_account 164 = .ok (.iload_n 1, 1) := by decide +kernel
theorem dX6_account_165 : decode cX6_account 165 = .ok (.iadd, 1) := by decide +kernel
theorem dX6_account_166 : decode cX6_account 166 = .ok (.bipush 7, 2) := by decide +kernel
theorem dX6_account_168 : decode cX6_account 168 = .ok (.isub, 1) := by decide +kernel
theorem dX6_account_169 : decode cX6_account 169 = .ok (.iaload, 1) := by decide +kernel
theorem dX6_account_170 : decode cX6_account 170 = .ok (.ireturn, 1) := by decide +kernel
set_option maxRecDepth 20000 in
theorem ggX6_isWell_X6_underStools : GoodIn wsX6_isWell wsX6_underStools := goodIn_ca (goodIn_r _ [7, 2, 8, 9, 10, 6, 11, 12, 13, 14, 15, 16, 17, 18, 19, 20, 21, 22, 23, 24, 25, 26, 27, 28, 29, 30, 31] (by decide +kernel) (by decide +kernel)) (goodIn_sub (fun _ h => List.mem_cons_of_mem _ (List.mem_append_right _ h)) (by decide +kernel))
set_option maxRecDepth 20000 in
theorem gX6_isWell_X6_underStools : GoodIn wsX6_isWell (wsV RX6 147 RX6 yX6_underStools wsX6_underStools) := goodIn_app (goodIn_of _ (by decide +kernel)) ggX6_isWell_X6_underStools
theorem dX6_isWell_0 : decode cX6_isWell 0 = .ok (.aload_n 0, 1) := by decide +kernel
theorem dX6_isWell_1 : decode cX6_isWell 1 = .ok (.iconst 0, 1) := by decide +kernel
theorem dX6_isWell_2 : decode cX6_isWell 2 = .ok (.putfield 39, 3) := by decide +kernel
theorem dX6_isWell_5 : decode cX6_isWell 5 = .ok (.aload_n 0, 1) := by decide +kernel
theorem dX6_isWell_6 : decode cX6_isWell 6 = .ok (.getfield 7, 3) := by decide +kernel
theorem dX6_isWell_9 : decode cX6_isWell 9 = .ok (.iconst 2, 1) := by decide +kernel
theorem dX6_isWell_10 : decode cX6_isWell 10 = .ok (.iaload, 1) := by decide +kernel
theorem dX6_isWell_11 : decode cX6_isWell 11 = .ok (.aload_n 0, 1) := by decide +kernel
theorem dX6_isWell_12 : decode cX6_isWell 12 = .ok (.invokevirtual 147, 3) := by decide +kernel
theorem dX6_isWell_15 : decode cX6_isWell 15 = .ok (.iadd, 1) := by decide +kernel
theorem dX6_isWell_16 : decode cX6_isWell 16 = .ok (.bipush 6, 2) := by decide +kernel
theorem dX6_isWell_18 : decode cX6_isWell 18 = .ok (.aload_n 0, 1) := by decide +kernel
theorem dX6_isWell_19 : decode cX6_isWell 19 = .ok (.getfield 7, 3) := by decide +kernel
theorem dX6_isWell_22 : decode cX6_isWell 22 = .ok (.iconst 5, 1) := by decide +kernel
theorem dX6_isWell_23 : decode cX6_isWell 23 = .ok (.iaload, 1) := by decide +kernel
theorem dX6_isWell_24 : decode cX6_isWell 24 = .ok (.iadd, 1) := by decide +kernel
theorem dX6_isWell_25 : decode cX6_isWell 25 = .ok (.if_icmp .ne 7, 3) := by decide +kernel
theorem dX6_isWell_28 : decode cX6_isWell 28 = .ok (.iconst 1, 1) := by decide +kernel
theorem dX6_isWell_29 : decode cX6_isWell 29 = .ok (.goto 4, 3) := by decide +kernel
theorem dX6_isWell_32 : decode cX6_isWell 32 = .ok (.iconst 0, 1) := by decide +kernel
theorem dX6_isWell_33 : decode cX6_isWell 33 = .ok (.ireturn, 1) := by decide +kernel
set_option maxRecDepth 20000 in
theorem ggX6_meanHeight_X6_taken : GoodIn wsX6_meanHeight wsX6_taken := goodIn_ca (goodIn_r _ [6, 7, 8, 9, 5, 10, 1, 17, 18, 19, 20, 21, 22, 23, 24, 25, 26, 27, 28, 29, 30, 31, 32, 33, 34, 35, 36] (by decide +kernel) (by decide +kernel)) (goodIn_sub (fun _ h => List.mem_cons_of_mem _ (List.mem_append_right _ h)) (by decide +kernel))
set_option maxRecDepth 20000 in
theorem gX6_meanHeight_X6_taken : GoodIn wsX6_meanHeight (wsV RX6 134 RX6 yX6_taken wsX6_taken) := goodIn_app (goodIn_of _ (by decide +kernel)) ggX6_meanHeight_X6_taken
set_option maxRecDepth 20000 in
theorem ggX6_meanHeight_X6_fails : GoodIn wsX6_meanHeight wsX6_fails := goodIn_r _ [14, 15, 16, 17, 18, 19, 20, 21, 22, 23, 24, 25, 26, 27, 28, 29, 30, 31, 32, 33, 34, 35, 36] (by decide +kernel) (by decide +kernel)
set_option maxRecDepth 20000 in
theorem gX6_meanHeight_X6_fails : GoodIn wsX6_meanHeight (wsV RX6 77 RX6 yX6_fails wsX6_fails) := goodIn_app (goodIn_of _ (by decide +kernel)) ggX6_meanHeight_X6_fails
set_option maxRecDepth 20000 in
theorem ggX6_meanHeight_X6_of : GoodIn wsX6_meanHeight wsX6_of := goodIn_ca (goodIn_r _ [10, 1, 17, 18, 19, 20, 21, 22, 23, 24, 25, 26, 27, 28, 29, 30, 31, 32, 33, 34, 35, 36] (by decide +kernel) (by decide +kernel)) (goodIn_sub (fun _ h => List.mem_cons_of_mem _ (List.mem_append_right _ h)) (by decide +kernel))
set_option maxRecDepth 20000 in
theorem gX6_meanHeight_X6_of : GoodIn wsX6_meanHeight (wsV RX6 74 RX6 yX6_of wsX6_of) := goodIn_app (goodIn_of _ (by decide +kernel)) ggX6_meanHeight_X6_of
theorem dX6_meanHeight_0 : decode cX6_meanHeight 0 = .ok (.aload_n 0, 1) := by decide +kernel
theorem dX6_meanHeight_1 : decode cX6_meanHeight 1 = .ok (.iconst 0, 1) := by decide +kernel
theorem dX6_meanHeight_2 : decode cX6_meanHeight 2 = .ok (.aload_n 0, 1) := by decide +kernel
theorem dX6_meanHeight_3 : decode cX6_meanHeight 3 = .ok (.getfield 7, 3) := by decide +kernel
theorem dX6_meanHeight_6 : decode cX6_meanHeight 6 = .ok (.iconst 0, 1) := by decide +kernel
theorem dX6_meanHeight_7 : decode cX6_meanHeight 7 = .ok (.iaload, 1) := by decide +kernel
theorem dX6_meanHeight_8 : decode cX6_meanHeight 8 = .ok (.iconst 1, 1) := by decide +kernel
theorem dX6_meanHeight_9 : decode cX6_meanHeight 9 = .ok (.isub, 1) := by decide +kernel
theorem dX6_meanHeight_10 : decode cX6_meanHeight 10 = .ok (.invokevirtual 134, 3) := by decide +kernel
theorem dX6_meanHeight_13 : decode cX6_meanHeight 13 = .ok (.istore_n 1, 1) := by decide +kernel
theorem dX6_meanHeight_14 : decode cX6_meanHeight 14 = .ok (.aload_n 0, 1) := by decide +kernel
theorem dX6_meanHeight_15 : decode cX6_meanHeight 15 = .ok (.iload_n 1, 1) := by decide +kernel
theorem dX6_meanHeight_16 : decode cX6_meanHeight 16 = .ok (.ifCond .ne 7, 3) := by decide +kernel
theorem dX6_meanHeight_19 : decode cX6_meanHeight 19 = .ok (.iconst 1, 1) := by decide +kernel
theorem dX6_meanHeight_20 : decode cX6_meanHeight 20 = .ok (.goto 4, 3) := by decide +kernel
theorem dX6_meanHeight_23 : decode cX6_meanHeight 23 = .ok (.iconst 0, 1) := by decide +kernel
theorem dX6_meanHeight_24 : decode cX6_meanHeight 24 = .ok (.invokevirtual 77, 3) := by decide +kernel
theorem dX6_meanHeight_27 : decode cX6_meanHeight 27 = .ok (.ifCond .eq 5, 3) := by decide +kernel
theorem dX6_meanHeight_30 : decode cX6_meanHeight 30 = .ok (.dconst 0, 1) := by decide +kernel
theorem dX6_meanHeight_31 : decode cX6_meanHeight 31 = .ok (.dreturn, 1) := by decide +kernel
theorem dX6_meanHeight_32 : decode cX6_meanHeight 32 = .ok (.iconst 0, 1) := by decide +kernel
theorem dX6_meanHeight_33 : decode cX6_meanHeight 33 = .ok (.istore_n 2, 1) := by decide +kernel
theorem dX6_meanHeight_34 : decode cX6_meanHeight 34 = .ok (.iconst 0, 1) := by decide +kernel
theorem dX6_meanHeight_35 : decode cX6_meanHeight 35 = .ok (.istore_n 3, 1) := by decide +kernel
theorem dX6_meanHeight_36 : decode cX6_meanHeight 36 = .ok (.iload_n 3, 1) := by decide +kernel
theorem dX6_meanHeight_37 : decode cX6_meanHeight 37 = .ok (.aload_n 0, 1) := by decide +kernel
theorem dX6_meanHeight_38 : decode cX6_meanHeight 38 = .ok (.getfield 7, 3) := by decide +kernel
theorem dX6_meanHeight_41 : decode cX6_meanHeight 41 = .ok (.iconst 0, 1) := by decide +kernel
theorem dX6_meanHeight_42 : decode cX6_meanHeight 42 = .ok (.iaload, 1) := by decide +kernel
theorem dX6_meanHeight_43 : decode cX6_meanHeight 43 = .ok (.if_icmp .ge 31, 3) := by decide +kernel
theorem dX6_meanHeight_46 : decode cX6_meanHeight 46 = .ok (.iload_n 2, 1) := by decide +kernel
theorem dX6_meanHeight_47 : decode cX6_meanHeight 47 = .ok (.aload_n 0, 1) := by decide +kernel
theorem dX6_meanHeight_48 : decode cX6_meanHeight 48 = .ok (.iload_n 3, 1) := by decide +kernel
theorem dX6_meanHeight_49 : decode cX6_meanHeight 49 = .ok (.iconst 5, 1) := by decide +kernel
theorem dX6_meanHeight_50 : decode cX6_meanHeight 50 = .ok (.invokevirtual 74, 3) := by decide +kernel
theorem dX6_meanHeight_53 : decode cX6_meanHeight 53 = .ok (.ifCond .lt 12, 3) := by decide +kernel
theorem dX6_meanHeight_56 : decode cX6_meanHeight 56 = .ok (.aload_n 0, 1) := by decide +kernel
theorem dX6_meanHeight_57 : decode cX6_meanHeight 57 = .ok (.iload_n 3, 1) := by decide +kernel
theorem dX6_meanHeight_58 : decode cX6_meanHeight 58 = .ok (.iconst 0, 1) := by decide +kernel
theorem dX6_meanHeight_59 : decode cX6_meanHeight 59 = .ok (.invokevirtual 74, 3) := by decide +kernel
theorem dX6_meanHeight_62 : decode cX6_meanHeight 62 = .ok (.goto 4, 3) := by decide +kernel
theorem dX6_meanHeight_65 : decode cX6_meanHeight 65 = .ok (.iconst 0, 1) := by decide +kernel
theorem dX6_meanHeight_66 : decode cX6_meanHeight 66 = .ok (.iadd, 1) := by decide +kernel
theorem dX6_meanHeight_67 : decode cX6_meanHeight 67 = .ok (.istore_n 2, 1) := by decide +kernel
theorem dX6_meanHeight_68 : decode cX6_meanHeight 68 = .ok (.iinc 3 1, 3) := by decide +kernel
theorem dX6_meanHeight_71 : decode cX6_meanHeight 71 = .ok (.goto (-35), 3) := by decide +kernel
theorem dX6_meanHeight_74 : decode cX6_meanHeight 74 = .ok (.iload_n 2, 1) := by decide +kernel
theorem dX6_meanHeight_75 : decode cX6_meanHeight 75 = .ok (.i2d, 1) := by decide +kernel
theorem dX6_meanHeight_76 : decode cX6_meanHeight 76 = .ok (.iload_n 1, 1) := by decide +kernel
theorem dX6_meanHeight_77 : decode cX6_meanHeight 77 = .ok (.i2d, 1) := by decide +kernel
theorem dX6_meanHeight_78 : decode cX6_meanHeight 78 = .ok (.ddiv, 1) := by decide +kernel
theorem dX6_meanHeight_79 : decode cX6_meanHeight 79 = .ok (.dreturn, 1) := by decide +kernel
set_option maxRecDepth 20000 in
theorem ggX6_undo_X6_fails : GoodIn wsX6_undo wsX6_fails := goodIn_r _ [8, 9, 10, 14, 15, 16, 17, 18, 19, 20, 21, 22, 23, 24, 25, 26, 27, 28, 29, 30, 31, 32, 33] (by decide +kernel) (by decide +kernel)
set_option maxRecDepth 20000 in
theorem gX6_undo_X6_fails : GoodIn wsX6_undo (wsV RX6 77 RX6 yX6_fails wsX6_fails) := goodIn_app (goodIn_of _ (by decide +kernel)) ggX6_undo_X6_fails
set_option maxRecDepth 20000 in
theorem ggX6_undo_X6_copies : GoodIn wsX6_undo wsX6_copies := goodIn_ca (goodIn_r _ [13] (by decide +kernel) (by decide +kernel)) (goodIn_sub (fun _ h => List.mem_cons_of_mem _ (List.mem_append_right _ h)) (by decide +kernel))
set_option maxRecDepth 20000 in
theorem gX6_undo_X6_copies : GoodIn wsX6_undo (va_wsS RX6 58 yX6_copies wsX6_copies) := goodIn_app (goodIn_of _ (by decide +kernel)) ggX6_undo_X6_copies
theorem dX6_undo_0 : decode cX6_undo 0 = .ok (.aload_n 0, 1) := by decide +kernel
theorem dX6_undo_1 : decode cX6_undo 1 = .ok (.aload_n 0, 1) := by decide +kernel
theorem dX6_undo_2 : decode cX6_undo 2 = .ok (.getfield 55, 3) := by decide +kernel
theorem dX6_undo_5 : decode cX6_undo 5 = .ok (.ifCond .ne 7, 3) := by decide +kernel
theorem dX6_undo_8 : decode cX6_undo 8 = .ok (.iconst 1, 1) := by decide +kernel
theorem dX6_undo_9 : decode cX6_undo 9 = .ok (.goto 4, 3) := by decide +kernel
theorem dX6_undo_12 : decode cX6_undo 12 = .ok (.iconst 0, 1) := by decide +kernel
theorem dX6_undo_13 : decode cX6_undo 13 = .ok (.invokevirtual 77, 3) := by decide +kernel
theorem dX6_undo_16 : decode cX6_undo 16 = .ok (.ifCond .eq 5, 3) := by decide +kernel
theorem dX6_undo_19 : decode cX6_undo 19 = .ok (.iconst 0, 1) := by decide +kernel
theorem dX6_undo_20 : decode cX6_undo 20 = .ok (.ireturn, 1) := by decide +kernel
theorem dX6_undo_21 : decode cX6_undo 21 = .ok (.aload_n 0, 1) := by decide +kernel
theorem dX6_undo_22 : decode cX6_undo 22 = .ok (.dup, 1) := by decide +kernel
theorem dX6_undo_23 : decode cX6_undo 23 = .ok (.getfield 55, 3) := by decide +kernel
theorem dX6_undo_26 : decode cX6_undo 26 = .ok (.iconst 1, 1) := by decide +kernel
theorem dX6_undo_27 : decode cX6_undo 27 = .ok (.isub, 1) := by decide +kernel
theorem dX6_undo_28 : decode cX6_undo 28 = .ok (.putfield 55, 3) := by decide +kernel
theorem dX6_undo_31 : decode cX6_undo 31 = .ok (.aload_n 0, 1) := by decide +kernel
theorem dX6_undo_32 : decode cX6_undo 32 = .ok (.getfield 13, 3) := by decide +kernel
theorem dX6_undo_35 : decode cX6_undo 35 = .ok (.bipush 114, 2) := by decide +kernel
theorem dX6_undo_37 : decode cX6_undo 37 = .ok (.aload_n 0, 1) := by decide +kernel
theorem dX6_undo_38 : decode cX6_undo 38 = .ok (.getfield 55, 3) := by decide +kernel
theorem dX6_undo_41 : decode cX6_undo 41 = .ok (.imul, 1) := by decide +kernel
theorem dX6_undo_42 : decode cX6_undo 42 = .ok (.aload_n 0, 1) := by decide +kernel
theorem dX6_undo_43 : decode cX6_undo 43 = .ok (.getfield 7, 3) := by decide +kernel
theorem dX6_undo_46 : decode cX6_undo 46 = .ok (.iconst 0, 1) := by decide +kernel
theorem dX6_undo_47 : decode cX6_undo 47 = .ok (.invokestatic 58, 3) := by decide +kernel
theorem dX6_undo_50 : decode cX6_undo 50 = .ok (.aload_n 0, 1) := by decide +kernel
theorem dX6_undo_51 : decode cX6_undo 51 = .ok (.getfield 55, 3) := by decide +kernel
theorem dX6_undo_54 : decode cX6_undo 54 = .ok (.ireturn, 1) := by decide +kernel
set_option maxRecDepth 20000 in
theorem ggX6_save_X6_copies : GoodIn wsX6_save wsX6_copies := goodIn_ca (goodIn_r _ [8] (by decide +kernel) (by decide +kernel)) (goodIn_sub (fun _ h => List.mem_cons_of_mem _ (List.mem_append_right _ h)) (by decide +kernel))
set_option maxRecDepth 20000 in
theorem gX6_save_X6_copies : GoodIn wsX6_save (va_wsS RX6 58 yX6_copies wsX6_copies) := goodIn_app (goodIn_of _ (by decide +kernel)) ggX6_save_X6_copies
theorem dX6_save_0 : decode cX6_save 0 = .ok (.aload_n 0, 1) := by decide +kernel
theorem dX6_save_1 : decode cX6_save 1 = .ok (.iconst 0, 1) := by decide +kernel
theorem dX6_save_2 : decode cX6_save 2 = .ok (.putfield 39, 3) := by decide +kernel
theorem dX6_save_5 : decode cX6_save 5 = .ok (.aload_n 0, 1) := by decide +kernel
theorem dX6_save_6 : decode cX6_save 6 = .ok (.iconst 1, 1) := by decide +kernel
theorem dX6_save_7 : decode cX6_save 7 = .ok (.putfield 242, 3) := by decide +kernel
theorem dX6_save_10 : decode cX6_save 10 = .ok (.aload_n 0, 1) := by decide +kernel
theorem dX6_save_11 : decode cX6_save 11 = .ok (.getfield 7, 3) := by decide +kernel
theorem dX6_save_14 : decode cX6_save 14 = .ok (.iconst 0, 1) := by decide +kernel
theorem dX6_save_15 : decode cX6_save 15 = .ok (.aload_n 0, 1) := by decide +kernel
theorem dX6_save_16 : decode cX6_save 16 = .ok (.getfield 16, 3) := by decide +kernel
theorem dX6_save_19 : decode cX6_save 19 = .ok (.iconst 0, 1) := by decide +kernel
theorem dX6_save_20 : decode cX6_save 20 = .ok (.invokestatic 58, 3) := by decide +kernel
theorem dX6_save_23 : decode cX6_save 23 = .ok (.aload_n 0, 1) := by decide +kernel
theorem dX6_save_24 : decode cX6_save 24 = .ok (.getfield 7, 3) := by decide +kernel
theorem dX6_save_27 : decode cX6_save 27 = .ok (.iconst 1, 1) := by decide +kernel
theorem dX6_save_28 : decode cX6_save 28 = .ok (.iaload, 1) := by decide +kernel
theorem dX6_save_29 : decode cX6_save 29 = .ok (.ireturn, 1) := by decide +kernel
set_option maxRecDepth 20000 in
theorem ggX6_restore_X6_fails : GoodIn wsX6_restore wsX6_fails := goodIn_r _ [9, 10, 11, 15, 16, 17, 18, 19, 20, 21, 22, 23, 24, 25, 26, 27, 28, 29, 30, 31, 32, 33, 34] (by decide +kernel) (by decide +kernel)
set_option maxRecDepth 20000 in
theorem gX6_restore_X6_fails : GoodIn wsX6_restore (wsV RX6 77 RX6 yX6_fails wsX6_fails) := goodIn_app (goodIn_of _ (by decide +kernel)) ggX6_restore_X6_fails
set_option maxRecDepth 20000 in
theorem ggX6_restore_X6_copies : GoodIn wsX6_restore wsX6_copies := goodIn_ca (goodIn_r _ [14] (by decide +kernel) (by decide +kernel)) (goodIn_sub (fun _ h => List.mem_cons_of_mem _ (List.mem_append_right _ h)) (by decide +kernel))
set_option maxRecDepth 20000 in
theorem gX6_restore_X6_copies : GoodIn wsX6_restore (va_wsS RX6 58 yX6_copies wsX6_copies) := goodIn_app (goodIn_of _ (by decide +kernel)) ggX6_restore_X6_copies
theorem dX6_restore_0 : decode cX6_restore 0 = .ok (.aload_n 0, 1) := by decide +kernel
theorem dX6_restore_1 : decode cX6_restore 1 = .ok (.aload_n 0, 1) := by decide +kernel
theorem dX6_restore_2 : decode cX6_restore 2 = .ok (.getfield 242, 3) := by decide +kernel
theorem dX6_restore_5 : decode cX6_restore 5 = .ok (.ifCond .eq 7, 3) := by decide +kernel
theorem dX6_restore_8 : decode cX6_restore 8 = .ok (.iconst 0, 1) := by decide +kernel
theorem dX6_restore_9 : decode cX6_restore 9 = .ok (.goto 4, 3) := by decide +kernel
theorem dX6_restore_12 : decode cX6_restore 12 = .ok (.iconst 1, 1) := by decide +kernel
theorem dX6_restore_13 : decode cX6_restore 13 = .ok (.invokevirtual 77, 3) := by decide +kernel
theorem dX6_restore_16 : decode cX6_restore 16 = .ok (.ifCond .eq 5, 3) := by decide +kernel
theorem dX6_restore_19 : decode cX6_restore 19 = .ok (.iconst 0, 1) := by decide +kernel
theorem dX6_restore_20 : decode cX6_restore 20 = .ok (.ireturn, 1) := by decide +kernel
theorem dX6_restore_21 : decode cX6_restore 21 = .ok (.aload_n 0, 1) := by decide +kernel
theorem dX6_restore_22 : decode cX6_restore 22 = .ok (.getfield 16, 3) := by decide +kernel
theorem dX6_restore_25 : decode cX6_restore 25 = .ok (.iconst 0, 1) := by decide +kernel
theorem dX6_restore_26 : decode cX6_restore 26 = .ok (.aload_n 0, 1) := by decide +kernel
theorem dX6_restore_27 : decode cX6_restore 27 = .ok (.getfield 7, 3) := by decide +kernel
theorem dX6_restore_30 : decode cX6_restore 30 = .ok (.iconst 0, 1) := by decide +kernel
theorem dX6_restore_31 : decode cX6_restore 31 = .ok (.invokestatic 58, 3) := by decide +kernel
theorem dX6_restore_34 : decode cX6_restore 34 = .ok (.aload_n 0, 1) := by decide +kernel
theorem dX6_restore_35 : decode cX6_restore 35 = .ok (.iconst 0, 1) := by decide +kernel
theorem dX6_restore_36 : decode cX6_restore 36 = .ok (.putfield 55, 3) := by decide +kernel
theorem dX6_restore_39 : decode cX6_restore 39 = .ok (.aload_n 0, 1) := by decide +kernel
theorem dX6_restore_40 : decode cX6_restore 40 = .ok (.getfield 7, 3) := by decide +kernel
theorem dX6_restore_43 : decode cX6_restore 43 = .ok (.iconst 1, 1) := by decide +kernel
theorem dX6_restore_44 : decode cX6_restore 44 = .ok (.iaload, 1) := by decide +kernel
theorem dX6_restore_45 : decode cX6_restore 45 = .ok (.ireturn, 1) := by decide +kernel
theorem dJx00060_init_a7421_0 : decode cJx00060_init_a7421 0 = .ok (.aload_n 0, 1) := by decide +kernel
theorem dJx00060_init_a7421_1 : decode cJx00060_init_a7421 1 = .ok (.aload_n 1, 1) := by decide +kernel
theorem dJx00060_init_a7421_2 : decode cJx00060_init_a7421 2 = .ok (.invokespecial 7, 3) := by decide +kernel
theorem dJx00060_init_a7421_5 : decode cJx00060_init_a7421 5 = .ok (.return_, 1) := by decide +kernel
theorem dJxf58ca_isNaN_12338_0 : decode cJxf58ca_isNaN_12338 0 = .ok (.fload_n 0, 1) := by decide +kernel
theorem dJxf58ca_isNaN_12338_1 : decode cJxf58ca_isNaN_12338 1 = .ok (.fload_n 0, 1) := by decide +kernel
theorem dJxf58ca_isNaN_12338_2 : decode cJxf58ca_isNaN_12338 2 = .ok (.fcmp .l, 1) := by decide +kernel
theorem dJxf58ca_isNaN_12338_3 : decode cJxf58ca_isNaN_12338 3 = .ok (.ifCond .eq 7, 3) := by decide +kernel
theorem dJxf58ca_isNaN_12338_6 : decode cJxf58ca_isNaN_12338 6 = .ok (.iconst 1, 1) := by decide +kernel
theorem dJxf58ca_isNaN_12338_7 : decode cJxf58ca_isNaN_12338 7 = .ok (.goto 4, 3) := by decide +kernel
theorem dJxf58ca_isNaN_12338_10 : decode cJxf58ca_isNaN_12338 10 = .ok (.iconst 0, 1) := by decide +kernel
theorem dJxf58ca_isNaN_12338_11 : decode cJxf58ca_isNaN_12338 11 = .ok (.ireturn, 1) := by decide +kernel
set_option maxRecDepth 20000 in
theorem ggJxf58ca_floatToIntBits_5c35a_Jxf58ca_isNaN_12338 : GoodIn wsJxf58ca_floatToIntBits_5c35a wsJxf58ca_isNaN_12338 := goodIn_r _ [9] (by decide +kernel) (by decide +kernel)
set_option maxRecDepth 20000 in
theorem gJxf58ca_floatToIntBits_5c35a_Jxf58ca_isNaN_12338 : GoodIn wsJxf58ca_floatToIntBits_5c35a (va_wsS RJxf58ca 59 yJxf58ca_isNaN_12338 wsJxf58ca_isNaN_12338) := goodIn_app (goodIn_of _ (by decide +kernel)) ggJxf58ca_floatToIntBits_5c35a_Jxf58ca_isNaN_12338
theorem dJxf58ca_floatToIntBits_5c35a_0 : decode cJxf58ca_floatToIntBits_5c35a 0 = .ok (.fload_n 0, 1) := by decide +kernel
theorem dJxf58ca_floatToIntBits_5c35a_1 : decode cJxf58ca_floatToIntBits_5c35a 1 = .ok (.invokestatic 59, 3) := by decide +kernel
theorem dJxf58ca_floatToIntBits_5c35a_4 : decode cJxf58ca_floatToIntBits_5c35a 4 = .ok (.ifCond .ne 8, 3) := by decide +kernel
theorem dJxf58ca_floatToIntBits_5c35a_7 : decode cJxf58ca_floatToIntBits_5c35a 7 = .ok (.fload_n 0, 1) := by decide +kernel
theorem dJxf58ca_floatToIntBits_5c35a_8 : decode cJxf58ca_floatToIntBits_5c35a 8 = .ok (.invokestatic 74, 3) := by decide +kernel
theorem dJxf58ca_floatToIntBits_5c35a_11 : decode cJxf58ca_floatToIntBits_5c35a 11 = .ok (.ireturn, 1) := by decide +kernel
theorem dJxf58ca_floatToIntBits_5c35a_12 : decode cJxf58ca_floatToIntBits_5c35a 12 = .ok (.ldc 77, 2) := by decide +kernel
theorem dJxf58ca_floatToIntBits_5c35a_14 : decode cJxf58ca_floatToIntBits_5c35a 14 = .ok (.ireturn, 1) := by decide +kernel
theorem dJ9_min_7cf53_0 : decode cJ9_min_7cf53 0 = .ok (.iload_n 0, 1) := by decide +kernel
theorem dJ9_min_7cf53_1 : decode cJ9_min_7cf53 1 = .ok (.iload_n 1, 1) := by decide +kernel
theorem dJ9_min_7cf53_2 : decode cJ9_min_7cf53 2 = .ok (.if_icmp .gt 7, 3) := by decide +kernel
theorem dJ9_min_7cf53_5 : decode cJ9_min_7cf53 5 = .ok (.iload_n 0, 1) := by decide +kernel
theorem dJ9_min_7cf53_6 : decode cJ9_min_7cf53 6 = .ok (.goto 4, 3) := by decide +kernel
theorem dJ9_min_7cf53_9 : decode cJ9_min_7cf53 9 = .ok (.iload_n 1, 1) := by decide +kernel
theorem dJ9_min_7cf53_10 : decode cJ9_min_7cf53 10 = .ok (.ireturn, 1) := by decide +kernel
