theorem dX6_init_0 : decode cX6_init 0 = .ok (.aload_n 0, 1) := by decide +kernel
theorem dX6_init_1 : decode cX6_init 1 = .ok (.invokespecial 1, 3) := by decide +kernel
theorem dX6_init_4 : decode cX6_init 4 = .ok (.aload_n 0, 1) := by decide +kernel
theorem dX6_init_5 : decode cX6_init 5 = .ok (.sipush 236, 3) := by decide +kernel
theorem dX6_init_8 : decode cX6_init 8 = .ok (.newarray .int, 2) := by decide +kernel
theorem dX6_init_10 : decode cX6_init 10 = .ok (.putfield 7, 3) := by decide +kernel
theorem dX6_init_13 : decode cX6_init 13 = .ok (.aload_n 0, 1) := by decide +kernel
theorem dX6_init_14 : decode cX6_init 14 = .ok (.sipush 944, 3) := by decide +kernel
theorem dX6_init_17 : decode cX6_init 17 = .ok (.newarray .int, 2) := by decide +kernel
theorem dX6_init_19 : decode cX6_init 19 = .ok (.putfield 13, 3) := by decide +kernel
theorem dX6_init_22 : decode cX6_init 22 = .ok (.aload_n 0, 1) := by decide +kernel
theorem dX6_init_23 : decode cX6_init 23 = .ok (.sipush 236, 3) := by decide +kernel
theorem dX6_init_26 : decode cX6_init 26 = .ok (.newarray .int, 2) := by decide +kernel
theorem dX6_init_28 : decode cX6_init 28 = .ok (.putfield 16, 3) := by decide +kernel
theorem dX6_init_31 : decode cX6_init 31 = .ok (.aload_n 0, 1) := by decide +kernel
theorem dX6_init_32 : decode cX6_init 32 = .ok (.bipush 60, 2) := by decide +kernel
theorem dX6_init_34 : decode cX6_init 34 = .ok (.newarray .int, 2) := by decide +kernel
theorem dX6_init_36 : decode cX6_init 36 = .ok (.putfield 19, 3) := by decide +kernel
theorem dX6_init_39 : decode cX6_init 39 = .ok (.aload_n 0, 1) := by decide +kernel
theorem dX6_init_40 : decode cX6_init 40 = .ok (.bipush 20, 2) := by decide +kernel
theorem dX6_init_42 : decode cX6_init 42 = .ok (.newarray .int, 2) := by decide +kernel
theorem dX6_init_44 : decode cX6_init 44 = .ok (.putfield 22, 3) := by decide +kernel
theorem dX6_init_47 : decode cX6_init 47 = .ok (.aload_n 0, 1) := by decide +kernel
theorem dX6_init_48 : decode cX6_init 48 = .ok (.bipush 20, 2) := by decide +kernel
theorem dX6_init_50 : decode cX6_init 50 = .ok (.newarray .int, 2) := by decide +kernel
theorem dX6_init_52 : decode cX6_init 52 = .ok (.putfield 25, 3) := by decide +kernel
theorem dX6_init_55 : decode cX6_init 55 = .ok (.aload_n 0, 1) := by decide +kernel
theorem dX6_init_56 : decode cX6_init 56 = .ok (.getfield 7, 3) := by decide +kernel
theorem dX6_init_59 : decode cX6_init 59 = .ok (.iconst 2, 1) := by decide +kernel
theorem dX6_init_60 : decode cX6_init 60 = .ok (.bipush 30, 2) := by decide +kernel
theorem dX6_init_62 : decode cX6_init 62 = .ok (.iastore, 1) := by decide +kernel
theorem dX6_init_63 : decode cX6_init 63 = .ok (.aload_n 0, 1) := by decide +kernel
theorem dX6_init_64 : decode cX6_init 64 = .ok (.getfield 7, 3) := by decide +kernel
theorem dX6_init_67 : decode cX6_init 67 = .ok (.iconst 3, 1) := by decide +kernel
theorem dX6_init_68 : decode cX6_init 68 = .ok (.bipush 60, 2) := by decide +kernel
theorem dX6_init_70 : decode cX6_init 70 = .ok (.iastore, 1) := by decide +kernel
theorem dX6_init_71 : decode cX6_init 71 = .ok (.aload_n 0, 1) := by decide +kernel
theorem dX6_init_72 : decode cX6_init 72 = .ok (.getfield 7, 3) := by decide +kernel
theorem dX6_init_75 : decode cX6_init 75 = .ok (.iconst 4, 1) := by decide +kernel
theorem dX6_init_76 : decode cX6_init 76 = .ok (.iconst 1, 1) := by decide +kernel
theorem dX6_init_77 : decode cX6_init 77 = .ok (.iastore, 1) := by decide +kernel
theorem dX6_init_78 : decode cX6_init 78 = .ok (.return_, 1) := by decide +kernel
theorem dX6_in_0 : decode cX6_in 0 = .ok (.iload_n 0, 1) := by decide +kernel
theorem dX6_in_1 : decode cX6_in 1 = .ok (.iload_n 1, 1) := by decide +kernel
theorem dX6_in_2 : decode cX6_in 2 = .ok (.if_icmp .lt 12, 3) := by decide +kernel
theorem dX6_in_5 : decode cX6_in 5 = .ok (.iload_n 0, 1) := by decide +kernel
theorem dX6_in_6 : decode cX6_in 6 = .ok (.iload_n 2, 1) := by decide +kernel
theorem dX6_in_7 : decode cX6_in 7 = .ok (.if_icmp .gt 7, 3) := by decide +kernel
theorem dX6_in_10 : decode cX6_in 10 = .ok (.iconst 1, 1) := by decide +kernel
theorem dX6_in_11 : decode cX6_in 11 = .ok (.goto 4, 3) := by decide +kernel
theorem dX6_in_14 : decode cX6_in 14 = .ok (.iconst 0, 1) := by decide +kernel
theorem dX6_in_15 : decode cX6_in 15 = .ok (.ireturn, 1) := by decide +kernel
theorem dX6_copies_0 : decode cX6_copies 0 = .ok (.iconst 0, 1) := by decide +kernel
theorem dX6_copies_1 : decode cX6_copies 1 = .ok (.istore 4, 2) := by decide +kernel
theorem dX6_copies_3 : decode cX6_copies 3 = .ok (.iload 4, 2) := by decide +kernel
theorem dX6_copies_5 : decode cX6_copies 5 = .ok (.sipush 236, 3) := by decide +kernel
theorem dX6_copies_8 : decode cX6_copies 8 = .ok (.if_icmp .ge 21, 3) := by decide +kernel
theorem dX6_copies_11 : decode cX6_copies 11 = .ok (.aload_n 2, 1) := by decide +kernel
theorem dX6_copies_12 : decode cX6_copies 12 = .ok (.iload_n 3, 1) := by decide +kernel
theorem dX6_copies_13 : decode cX6_copies 13 = .ok (.iload 4, 2) := by decide +kernel
theorem dX6_copies_15 : decode cX6_copies 15 = .ok (.iadd, 1) := by decide +kernel
theorem dX6_copies_16 : decode cX6_copies 16 = .ok (.aload_n 0, 1) := by decide +kernel
theorem dX6_copies_17 : decode cX6_copies 17 = .ok (.iload_n 1, 1) := by decide +kernel
theorem dX6_copies_18 : decode cX6_copies 18 = .ok (.iload 4, 2) := by decide +kernel
theorem dX6_copies_20 : decode cX6_copies 20 = .ok (.iadd, 1) := by decide +kernel
theorem dX6_copies_21 : decode cX6_copies 21 = .ok (.iaload, 1) := by decide +kernel
theorem dX6_copies_22 : decode cX6_copies 22 = .ok (.iastore, 1) := by decide +kernel
theorem dX6_copies_23 : decode cX6_copies 23 = .ok (.iinc 4 1, 3) := by decide +kernel
theorem dX6_copies_26 : decode cX6_copies 26 = .ok (.goto (-23), 3) := by decide +kernel
theorem dX6_copies_29 : decode cX6_copies 29 = .ok (.return_, 1) := by decide +kernel
set_option maxRecDepth 20000 in
theorem ggX6_records_X6_copies : GoodIn wsX6_records wsX6_copies := goodIn_r _ [7] (by decide +kernel) (by decide +kernel)
set_option maxRecDepth 20000 in
theorem gX6_records_X6_copies : GoodIn wsX6_records (va_wsS RX6 32 yX6_copies wsX6_copies) := goodIn_app (goodIn_of _ (by decide +kernel)) ggX6_records_X6_copies
theorem dX6_records_0 : decode cX6_records 0 = .ok (.aload_n 0, 1) := by decide +kernel
theorem dX6_records_1 : decode cX6_records 1 = .ok (.getfield 28, 3) := by decide +kernel
theorem dX6_records_4 : decode cX6_records 4 = .ok (.iconst 4, 1) := by decide +kernel
theorem dX6_records_5 : decode cX6_records 5 = .ok (.if_icmp .ne 39, 3) := by decide +kernel
theorem dX6_records_8 : decode cX6_records 8 = .ok (.iconst 0, 1) := by decide +kernel
theorem dX6_records_9 : decode cX6_records 9 = .ok (.istore_n 1, 1) := by decide +kernel
theorem dX6_records_10 : decode cX6_records 10 = .ok (.iload_n 1, 1) := by decide +kernel
theorem dX6_records_11 : decode cX6_records 11 = .ok (.sipush 708, 3) := by decide +kernel
theorem dX6_records_14 : decode cX6_records 14 = .ok (.if_icmp .ge 25, 3) := by decide +kernel
theorem dX6_records_17 : decode cX6_records 17 = .ok (.aload_n 0, 1) := by decide +kernel
theorem dX6_records_18 : decode cX6_records 18 = .ok (.getfield 13, 3) := by decide +kernel
theorem dX6_records_21 : decode cX6_records 21 = .ok (.iload_n 1, 1) := by decide +kernel
theorem dX6_records_22 : decode cX6_records 22 = .ok (.aload_n 0, 1) := by decide +kernel
theorem dX6_records_23 : decode cX6_records 23 = .ok (.getfield 13, 3) := by decide +kernel
theorem dX6_records_26 : decode cX6_records 26 = .ok (.iload_n 1, 1) := by decide +kernel
theorem dX6_records_27 : decode cX6_records 27 = .ok (.sipush 236, 3) := by decide +kernel
theorem dX6_records_30 : decode cX6_records 30 = .ok (.iadd, 1) := by decide +kernel
theorem dX6_records_31 : decode cX6_records 31 = .ok (.iaload, 1) := by decide +kernel
theorem dX6_records_32 : decode cX6_records 32 = .ok (.iastore, 1) := by decide +kernel
theorem dX6_records_33 : decode cX6_records 33 = .ok (.iinc 1 1, 3) := by decide +kernel
theorem dX6_records_36 : decode cX6_records 36 = .ok (.goto (-26), 3) := by decide +kernel
theorem dX6_records_39 : decode cX6_records 39 = .ok (.aload_n 0, 1) := by decide +kernel
theorem dX6_records_40 : decode cX6_records 40 = .ok (.iconst 3, 1) := by decide +kernel
theorem dX6_records_41 : decode cX6_records 41 = .ok (.putfield 28, 3) := by decide +kernel
theorem dX6_records_44 : decode cX6_records 44 = .ok (.aload_n 0, 1) := by decide +kernel
theorem dX6_records_45 : decode cX6_records 45 = .ok (.getfield 7, 3) := by decide +kernel
theorem dX6_records_48 : decode cX6_records 48 = .ok (.iconst 0, 1) := by decide +kernel
theorem dX6_records_49 : decode cX6_records 49 = .ok (.aload_n 0, 1) := by decide +kernel
theorem dX6_records_50 : decode cX6_records 50 = .ok (.getfield 13, 3) := by decide +kernel
theorem dX6_records_53 : decode cX6_records 53 = .ok (.aload_n 0, 1) := by decide +kernel
theorem dX6_records_54 : decode cX6_records 54 = .ok (.getfield 28, 3) := by decide +kernel
theorem dX6_records_57 : decode cX6_records 57 = .ok (.sipush 236, 3) := by decide +kernel
theorem dX6_records_60 : decode cX6_records 60 = .ok (.imul, 1) := by decide +kernel
theorem dX6_records_61 : decode cX6_records 61 = .ok (.invokestatic 32, 3) := by decide +kernel
theorem dX6_records_64 : decode cX6_records 64 = .ok (.aload_n 0, 1) := by decide +kernel
theorem dX6_records_65 : decode cX6_records 65 = .ok (.dup, 1) := by decide +kernel
theorem dX6_records_66 : decode cX6_records 66 = .ok (.getfield 28, 3) := by decide +kernel
theorem dX6_records_69 : decode cX6_records 69 = .ok (.iconst 1, 1) := by decide +kernel
theorem dX6_records_70 : decode cX6_records 70 = .ok (.iadd, 1) := by decide +kernel
theorem dX6_records_71 : decode cX6_records 71 = .ok (.putfield 28, 3) := by decide +kernel
theorem dX6_records_74 : decode cX6_records 74 = .ok (.return_, 1) := by decide +kernel
theorem dX6_of_0 : decode cX6_of 0 = .ok (.aload_n 0, 1) := by decide +kernel
theorem dX6_of_1 : decode cX6_of 1 = .ok (.getfield 7, 3) := by decide +kernel
theorem dX6_of_4 : decode cX6_of 4 = .ok (.bipush 16, 2) := by decide +kernel
theorem dX6_of_6 : decode cX6_of 6 = .ok (.bipush 11, 2) := by decide +kernel
theorem dX6_of_8 : decode cX6_of 8 = .ok (.iload_n 1, 1) := by decide +kernel
theorem dX6_of_9 : decode cX6_of 9 = .ok (.imul, 1) := by decide +kernel
theorem dX6_of_10 : decode cX6_of 10 = .ok (.iadd, 1) := by decide +kernel
theorem dX6_of_11 : decode cX6_of 11 = .ok (.iload_n 2, 1) := by decide +kernel
theorem dX6_of_12 : decode cX6_of 12 = .ok (.iadd, 1) := by decide +kernel
theorem dX6_of_13 : decode cX6_of 13 = .ok (.iaload, 1) := by decide +kernel
theorem dX6_of_14 : decode cX6_of 14 = .ok (.ireturn, 1) := by decide +kernel
theorem dX6_lays_0 : decode cX6_lays 0 = .ok (.aload_n 0, 1) := by decide +kernel
theorem dX6_lays_1 : decode cX6_lays 1 = .ok (.getfield 7, 3) := by decide +kernel
theorem dX6_lays_4 : decode cX6_lays 4 = .ok (.bipush 16, 2) := by decide +kernel
theorem dX6_lays_6 : decode cX6_lays 6 = .ok (.bipush 11, 2) := by decide +kernel
theorem dX6_lays_8 : decode cX6_lays 8 = .ok (.iload_n 1, 1) := by decide +kernel
theorem dX6_lays_9 : decode cX6_lays 9 = .ok (.imul, 1) := by decide +kernel
theorem dX6_lays_10 : decode cX6_lays 10 = .ok (.iadd, 1) := by decide +kernel
theorem dX6_lays_11 : decode cX6_lays 11 = .ok (.iload_n 2, 1) := by decide +kernel
theorem dX6_lays_12 : decode cX6_lays 12 = .ok (.iadd, 1) := by decide +kernel
theorem dX6_lays_13 : decode cX6_lays 13 = .ok (.iload_n 3, 1) := by decide +kernel
theorem dX6_lays_14 : decode cX6_lays 14 = .ok (.iastore, 1) := by decide +kernel
theorem dX6_lays_15 : decode cX6_lays 15 = .ok (.return_, 1) := by decide +kernel
theorem dX6_adds_0 : decode cX6_adds 0 = .ok (.aload_n 0, 1) := by decide +kernel
theorem dX6_adds_1 : decode cX6_adds 1 = .ok (.getfield 7, 3) := by decide +kernel
theorem dX6_adds_4 : decode cX6_adds 4 = .ok (.iconst 5, 1) := by decide +kernel
theorem dX6_adds_5 : decode cX6_adds 5 = .ok (.iload_n 1, 1) := by decide +kernel
theorem dX6_adds_6 : decode cX6_adds 6 = .ok (.iadd, 1) := by decide +kernel
theorem dX6_adds_7 : decode cX6_adds 7 = .ok (.dup2, 1) := by decide +kernel
theorem dX6_adds_8 : decode cX6_adds 8 = .ok (.iaload, 1) := by decide +kernel
theorem dX6_adds_9 : decode cX6_adds 9 = .ok (.iload_n 2, 1) := by decide +kernel
theorem dX6_adds_10 : decode cX6_adds 10 = .ok (.iadd, 1) := by decide +kernel
theorem dX6_adds_11 : decode cX6_adds 11 = .ok (.iastore, 1) := by decide +kernel
theorem dX6_adds_12 : decode cX6_adds 12 = .ok (.return_, 1) := by decide +kernel
set_option maxRecDepth 20000 in
theorem ggX6_isGood_X6_in : GoodIn wsX6_isGood wsX6_in := goodIn_r _ [5] (by decide +kernel) (by decide +kernel)
set_option maxRecDepth 20000 in
theorem gX6_isGood_X6_in : GoodIn wsX6_isGood (va_wsS RX6 36 yX6_in wsX6_in) := goodIn_app (goodIn_of _ (by decide +kernel)) ggX6_isGood_X6_in
theorem dX6_isGood_0 : decode cX6_isGood 0 = .ok (.iload_n 1, 1) := by decide +kernel
theorem dX6_isGood_1 : decode cX6_isGood 1 = .ok (.iconst 0, 1) := by decide +kernel
theorem dX6_isGood_2 : decode cX6_isGood 2 = .ok (.aload_n 0, 1) := by decide +kernel
theorem dX6_isGood_3 : decode cX6_isGood 3 = .ok (.getfield 7, 3) := by decide +kernel
theorem dX6_isGood_6 : decode cX6_isGood 6 = .ok (.iconst 0, 1) := by decide +kernel
theorem dX6_isGood_7 : decode cX6_isGood 7 = .ok (.iaload, 1) := by decide +kernel
theorem dX6_isGood_8 : decode cX6_isGood 8 = .ok (.iconst 1, 1) := by decide +kernel
theorem dX6_isGood_9 : decode cX6_isGood 9 = .ok (.isub, 1) := by decide +kernel
theorem dX6_isGood_10 : decode cX6_isGood 10 = .ok (.invokestatic 36, 3) := by decide +kernel
theorem dX6_isGood_13 : decode cX6_isGood 13 = .ok (.ireturn, 1) := by decide +kernel
set_option maxRecDepth 20000 in
theorem ggX6_isSlot_X6_in : GoodIn wsX6_isSlot wsX6_in := goodIn_r _ [4] (by decide +kernel) (by decide +kernel)
set_option maxRecDepth 20000 in
theorem gX6_isSlot_X6_in : GoodIn wsX6_isSlot (va_wsS RX6 36 yX6_in wsX6_in) := goodIn_app (goodIn_of _ (by decide +kernel)) ggX6_isSlot_X6_in
theorem dX6_isSlot_0 : decode cX6_isSlot 0 = .ok (.iload_n 0, 1) := by decide +kernel
theorem dX6_isSlot_1 : decode cX6_isSlot 1 = .ok (.iconst 0, 1) := by decide +kernel
theorem dX6_isSlot_2 : decode cX6_isSlot 2 = .ok (.bipush 59, 2) := by decide +kernel
theorem dX6_isSlot_4 : decode cX6_isSlot 4 = .ok (.invokestatic 36, 3) := by decide +kernel
theorem dX6_isSlot_7 : decode cX6_isSlot 7 = .ok (.ireturn, 1) := by decide +kernel
theorem dX6_reach_0 : decode cX6_reach 0 = .ok (.iload_n 0, 1) := by decide +kernel
theorem dX6_reach_1 : decode cX6_reach 1 = .ok (.bipush 6, 2) := by decide +kernel
theorem dX6_reach_3 : decode cX6_reach 3 = .ok (.irem, 1) := by decide +kernel
theorem dX6_reach_4 : decode cX6_reach 4 = .ok (.istore_n 1, 1) := by decide +kernel
theorem dX6_reach_5 : decode cX6_reach 5 = .ok (.iload_n 1, 1) := by decide +kernel
theorem dX6_reach_6 : decode cX6_reach 6 = .ok (.ifCond .ne 7, 3) := by decide +kernel
theorem dX6_reach_9 : decode cX6_reach 9 = .ok (.iconst 3, 1) := by decide +kernel
theorem dX6_reach_10 : decode cX6_reach 10 = .ok (.goto 32, 3) := by decide +kernel
theorem dX6_reach_13 : decode cX6_reach 13 = .ok (.iload_n 1, 1) := by decide +kernel
theorem dX6_reach_14 : decode cX6_reach 14 = .ok (.iconst 3, 1) := by decide +kernel
theorem dX6_reach_15 : decode cX6_reach 15 = .ok (.if_icmp .ge 7, 3) := by decide +kernel
theorem dX6_reach_18 : decode cX6_reach 18 = .ok (.iconst 0, 1) := by decide +kernel
theorem dX6_reach_19 : decode cX6_reach 19 = .ok (.goto 23, 3) := by decide +kernel
theorem dX6_reach_22 : decode cX6_reach 22 = .ok (.iload_n 1, 1) := by decide +kernel
theorem dX6_reach_23 : decode cX6_reach 23 = .ok (.iconst 3, 1) := by decide +kernel
theorem dX6_reach_24 : decode cX6_reach 24 = .ok (.if_icmp .ne 7, 3) := by decide +kernel
theorem dX6_reach_27 : decode cX6_reach 27 = .ok (.iconst 2, 1) := by decide +kernel
theorem dX6_reach_28 : decode cX6_reach 28 = .ok (.goto 14, 3) := by decide +kernel
theorem dX6_reach_31 : decode cX6_reach 31 = .ok (.iload_n 1, 1) := by decide +kernel
theorem dX6_reach_32 : decode cX6_reach 32 = .ok (.iconst 4, 1) := by decide +kernel
theorem dX6_reach_33 : decode cX6_reach 33 = .ok (.if_icmp .ne 7, 3) := by decide +kernel
theorem dX6_reach_36 : decode cX6_reach 36 = .ok (.iconst 5, 1) := by decide +kernel
theorem dX6_reach_37 : decode cX6_reach 37 = .ok (.goto 5, 3) := by decide +kernel
theorem dX6_reach_40 : decode cX6_reach 40 = .ok (.bipush 9, 2) := by decide +kernel
theorem dX6_reach_42 : decode cX6_reach 42 = .ok (.ireturn, 1) := by decide +kernel
set_option maxRecDepth 20000 in
theorem ggX6_walk_X6_reach : GoodIn wsX6_walk wsX6_reach := goodIn_r _ [4] (by decide +kernel) (by decide +kernel)
set_option maxRecDepth 20000 in
theorem gX6_walk_X6_reach : GoodIn wsX6_walk (va_wsS RX6 40 yX6_reach wsX6_reach) := goodIn_app (goodIn_of _ (by decide +kernel)) ggX6_walk_X6_reach
theorem dX6_walk_0 : decode cX6_walk 0 = .ok (.iload_n 0, 1) := by decide +kernel
theorem dX6_walk_1 : decode cX6_walk 1 = .ok (.bipush 6, 2) := by decide +kernel
theorem dX6_walk_3 : decode cX6_walk 3 = .ok (.idiv, 1) := by decide +kernel
theorem dX6_walk_4 : decode cX6_walk 4 = .ok (.iconst 4, 1) := by decide +kernel
theorem dX6_walk_5 : decode cX6_walk 5 = .ok (.imul, 1) := by decide +kernel
theorem dX6_walk_6 : decode cX6_walk 6 = .ok (.iconst 4, 1) := by decide +kernel
theorem dX6_walk_7 : decode cX6_walk 7 = .ok (.iadd, 1) := by decide +kernel
theorem dX6_walk_8 : decode cX6_walk 8 = .ok (.iload_n 0, 1) := by decide +kernel
theorem dX6_walk_9 : decode cX6_walk 9 = .ok (.invokestatic 40, 3) := by decide +kernel
theorem dX6_walk_12 : decode cX6_walk 12 = .ok (.iadd, 1) := by decide +kernel
theorem dX6_walk_13 : decode cX6_walk 13 = .ok (.ireturn, 1) := by decide +kernel
theorem dX6_most_0 : decode cX6_most 0 = .ok (.iload_n 0, 1) := by decide +kernel
theorem dX6_most_1 : decode cX6_most 1 = .ok (.ifCond .ne 8, 3) := by decide +kernel
theorem dX6_most_4 : decode cX6_most 4 = .ok (.bipush 40, 2) := by decide +kernel
theorem dX6_most_6 : decode cX6_most 6 = .ok (.goto 44, 3) := by decide +kernel
theorem dX6_most_9 : decode cX6_most 9 = .ok (.iload_n 0, 1) := by decide +kernel
theorem dX6_most_10 : decode cX6_most 10 = .ok (.iconst 1, 1) := by decide +kernel
theorem dX6_most_11 : decode cX6_most 11 = .ok (.if_icmp .ne 8, 3) := by decide +kernel
theorem dX6_most_14 : decode cX6_most 14 = .ok (.bipush 30, 2) := by decide +kernel
theorem dX6_most_16 : decode cX6_most 16 = .ok (.goto 34, 3) := by decide +kernel
theorem dX6_most_19 : decode cX6_most 19 = .ok (.iload_n 0, 1) := by decide +kernel
theorem dX6_most_20 : decode cX6_most 20 = .ok (.iconst 2, 1) := by decide +kernel
theorem dX6_most_21 : decode cX6_most 21 = .ok (.if_icmp .ne 8, 3) := by decide +kernel
theorem dX6_most_24 : decode cX6_most 24 = .ok (.bipush 20, 2) := by decide +kernel
theorem dX6_most_26 : decode cX6_most 26 = .ok (.goto 24, 3) := by decide +kernel
theorem dX6_most_29 : decode cX6_most 29 = .ok (.iload_n 0, 1) := by decide +kernel
theorem dX6_most_30 : decode cX6_most 30 = .ok (.iconst 3, 1) := by decide +kernel
theorem dX6_most_31 : decode cX6_most 31 = .ok (.if_icmp .ne 8, 3) := by decide +kernel
theorem dX6_most_34 : decode cX6_most 34 = .ok (.bipush 15, 2) := by decide +kernel
theorem dX6_most_36 : decode cX6_most 36 = .ok (.goto 14, 3) := by decide +kernel
theorem dX6_most_39 : decode cX6_most 39 = .ok (.iload_n 0, 1) := by decide +kernel
theorem dX6_most_40 : decode cX6_most 40 = .ok (.iconst 4, 1) := by decide +kernel
theorem dX6_most_41 : decode cX6_most 41 = .ok (.if_icmp .ne 8, 3) := by decide +kernel
theorem dX6_most_44 : decode cX6_most 44 = .ok (.bipush 8, 2) := by decide +kernel
theorem dX6_most_46 : decode cX6_most 46 = .ok (.goto 4, 3) := by decide +kernel
theorem dX6_most_49 : decode cX6_most 49 = .ok (.iconst 5, 1) := by decide +kernel
theorem dX6_most_50 : decode cX6_most 50 = .ok (.ireturn, 1) := by decide +kernel
set_option maxRecDepth 20000 in
theorem ggX6_mayBe_X6_of : GoodIn wsX6_mayBe wsX6_of := goodIn_r _ [5, 6, 10, 11, 12, 13, 14, 15, 16, 17, 18, 19, 20, 21, 22, 23, 24, 25, 26] (by decide +kernel) (by decide +kernel)
set_option maxRecDepth 20000 in
theorem gX6_mayBe_X6_of : GoodIn wsX6_mayBe (wsV RX6 44 RX6 yX6_of wsX6_of) := goodIn_app (goodIn_of _ (by decide +kernel)) ggX6_mayBe_X6_of
set_option maxRecDepth 20000 in
theorem ggX6_mayBe_X6_most : GoodIn wsX6_mayBe wsX6_most := goodIn_r _ [9] (by decide +kernel) (by decide +kernel)
set_option maxRecDepth 20000 in
theorem gX6_mayBe_X6_most : GoodIn wsX6_mayBe (va_wsS RX6 48 yX6_most wsX6_most) := goodIn_app (goodIn_of _ (by decide +kernel)) ggX6_mayBe_X6_most
theorem dX6_mayBe_0 : decode cX6_mayBe 0 = .ok (.aload_n 0, 1) := by decide +kernel
theorem dX6_mayBe_1 : decode cX6_mayBe 1 = .ok (.iload_n 1, 1) := by decide +kernel
theorem dX6_mayBe_2 : decode cX6_mayBe 2 = .ok (.iconst 0, 1) := by decide +kernel
theorem dX6_mayBe_3 : decode cX6_mayBe 3 = .ok (.invokevirtual 44, 3) := by decide +kernel
theorem dX6_mayBe_6 : decode cX6_mayBe 6 = .ok (.iload_n 2, 1) := by decide +kernel
theorem dX6_mayBe_7 : decode cX6_mayBe 7 = .ok (.bipush 6, 2) := by decide +kernel
theorem dX6_mayBe_9 : decode cX6_mayBe 9 = .ok (.irem, 1) := by decide +kernel
theorem dX6_mayBe_10 : decode cX6_mayBe 10 = .ok (.invokestatic 48, 3) := by decide +kernel
theorem dX6_mayBe_13 : decode cX6_mayBe 13 = .ok (.if_icmp .gt 7, 3) := by decide +kernel
theorem dX6_mayBe_16 : decode cX6_mayBe 16 = .ok (.iconst 1, 1) := by decide +kernel
theorem dX6_mayBe_17 : decode cX6_mayBe 17 = .ok (.goto 4, 3) := by decide +kernel
theorem dX6_mayBe_20 : decode cX6_mayBe 20 = .ok (.iconst 0, 1) := by decide +kernel
theorem dX6_mayBe_21 : decode cX6_mayBe 21 = .ok (.ireturn, 1) := by decide +kernel
set_option maxRecDepth 20000 in
theorem ggX6_goodAt_X6_of : GoodIn wsX6_goodAt wsX6_of := goodIn_r _ [6, 1, 7, 8, 9, 10, 11, 12, 13, 14, 15, 16, 17, 18, 19, 20, 21, 22, 23] (by decide +kernel) (by decide +kernel)
set_option maxRecDepth 20000 in
theorem gX6_goodAt_X6_of : GoodIn wsX6_goodAt (wsV RX6 44 RX6 yX6_of wsX6_of) := goodIn_app (goodIn_of _ (by decide +kernel)) ggX6_goodAt_X6_of
theorem dX6_goodAt_0 : decode cX6_goodAt 0 = .ok (.iconst 0, 1) := by decide +kernel
theorem dX6_goodAt_1 : decode cX6_goodAt 1 = .ok (.istore_n 2, 1) := by decide +kernel
theorem dX6_goodAt_2 : decode cX6_goodAt 2 = .ok (.iload_n 2, 1) := by decide +kernel
theorem dX6_goodAt_3 : decode cX6_goodAt 3 = .ok (.aload_n 0, 1) := by decide +kernel
theorem dX6_goodAt_4 : decode cX6_goodAt 4 = .ok (.getfield 7, 3) := by decide +kernel
theorem dX6_goodAt_7 : decode cX6_goodAt 7 = .ok (.iconst 0, 1) := by decide +kernel
theorem dX6_goodAt_8 : decode cX6_goodAt 8 = .ok (.iaload, 1) := by decide +kernel
theorem dX6_goodAt_9 : decode cX6_goodAt 9 = .ok (.if_icmp .ge 22, 3) := by decide +kernel
theorem dX6_goodAt_12 : decode cX6_goodAt 12 = .ok (.aload_n 0, 1) := by decide +kernel
theorem dX6_goodAt_13 : decode cX6_goodAt 13 = .ok (.iload_n 2, 1) := by decide +kernel
theorem dX6_goodAt_14 : decode cX6_goodAt 14 = .ok (.bipush 6, 2) := by decide +kernel
theorem dX6_goodAt_16 : decode cX6_goodAt 16 = .ok (.invokevirtual 44, 3) := by decide +kernel
theorem dX6_goodAt_19 : decode cX6_goodAt 19 = .ok (.iload_n 1, 1) := by decide +kernel
theorem dX6_goodAt_20 : decode cX6_goodAt 20 = .ok (.if_icmp .ne 5, 3) := by decide +kernel
theorem dX6_goodAt_23 : decode cX6_goodAt 23 = .ok (.iload_n 2, 1) := by decide +kernel
theorem dX6_goodAt_24 : decode cX6_goodAt 24 = .ok (.ireturn, 1) := by decide +kernel
theorem dX6_goodAt_25 : decode cX6_goodAt 25 = .ok (.iinc 2 1, 3) := by decide +kernel
theorem dX6_goodAt_28 : decode cX6_goodAt 28 = .ok (.goto (-26), 3) := by decide +kernel
theorem dX6_goodAt_31 : decode cX6_goodAt 31 = .ok (.iconst (-1), 1) := by decide +kernel
theorem dX6_goodAt_32 : decode cX6_goodAt 32 = .ok (.ireturn, 1) := by decide +kernel
theorem dX6_season_0 : decode cX6_season 0 = .ok (.aload_n 0, 1) := by decide +kernel
theorem dX6_season_1 : decode cX6_season 1 = .ok (.getfield 7, 3) := by decide +kernel
theorem dX6_season_4 : decode cX6_season 4 = .ok (.iconst 1, 1) := by decide +kernel
theorem dX6_season_5 : decode cX6_season 5 = .ok (.iaload, 1) := by decide +kernel
theorem dX6_season_6 : decode cX6_season 6 = .ok (.bipush 13, 2) := by decide +kernel
theorem dX6_season_8 : decode cX6_season 8 = .ok (.idiv, 1) := by decide +kernel
theorem dX6_season_9 : decode cX6_season 9 = .ok (.iconst 4, 1) := by decide +kernel
theorem dX6_season_10 : decode cX6_season 10 = .ok (.irem, 1) := by decide +kernel
theorem dX6_season_11 : decode cX6_season 11 = .ok (.ireturn, 1) := by decide +kernel
theorem dX6_weeksLeft_0 : decode cX6_weeksLeft 0 = .ok (.bipush 13, 2) := by decide +kernel
theorem dX6_weeksLeft_2 : decode cX6_weeksLeft 2 = .ok (.aload_n 0, 1) := by decide +kernel
theorem dX6_weeksLeft_3 : decode cX6_weeksLeft 3 = .ok (.getfield 7, 3) := by decide +kernel
theorem dX6_weeksLeft_6 : decode cX6_weeksLeft 6 = .ok (.iconst 1, 1) := by decide +kernel
theorem dX6_weeksLeft_7 : decode cX6_weeksLeft 7 = .ok (.iaload, 1) := by decide +kernel
theorem dX6_weeksLeft_8 : decode cX6_weeksLeft 8 = .ok (.bipush 13, 2) := by decide +kernel
theorem dX6_weeksLeft_10 : decode cX6_weeksLeft 10 = .ok (.irem, 1) := by decide +kernel
theorem dX6_weeksLeft_11 : decode cX6_weeksLeft 11 = .ok (.isub, 1) := by decide +kernel
theorem dX6_weeksLeft_12 : decode cX6_weeksLeft 12 = .ok (.ireturn, 1) := by decide +kernel
set_option maxRecDepth 20000 in
theorem ggX6_weeklyOf_X6_of : GoodIn wsX6_weeklyOf wsX6_of := goodIn_r _ [6, 1, 13, 14, 15, 16, 17, 18, 19, 20, 21, 22, 23, 24, 25, 26, 27, 28, 29] (by decide +kernel) (by decide +kernel)
set_option maxRecDepth 20000 in
theorem gX6_weeklyOf_X6_of : GoodIn wsX6_weeklyOf (wsV RX6 44 RX6 yX6_of wsX6_of) := goodIn_app (goodIn_of _ (by decide +kernel)) ggX6_weeklyOf_X6_of
set_option maxRecDepth 20000 in
theorem ggX6_weeklyOf_X6_walk : GoodIn wsX6_weeklyOf wsX6_walk := goodIn_r _ [9, 10, 11, 5, 12] (by decide +kernel) (by decide +kernel)
set_option maxRecDepth 20000 in
theorem gX6_weeklyOf_X6_walk : GoodIn wsX6_weeklyOf (va_wsS RX6 51 yX6_walk wsX6_walk) := goodIn_app (goodIn_of _ (by decide +kernel)) ggX6_weeklyOf_X6_walk
theorem dX6_weeklyOf_0 : decode cX6_weeklyOf 0 = .ok (.iconst 0, 1) := by decide +kernel
theorem dX6_weeklyOf_1 : decode cX6_weeklyOf 1 = .ok (.istore_n 2, 1) := by decide +kernel
theorem dX6_weeklyOf_2 : decode cX6_weeklyOf 2 = .ok (.iconst 0, 1) := by decide +kernel
theorem dX6_weeklyOf_3 : decode cX6_weeklyOf 3 = .ok (.istore_n 3, 1) := by decide +kernel
theorem dX6_weeklyOf_4 : decode cX6_weeklyOf 4 = .ok (.iload_n 3, 1) := by decide +kernel
theorem dX6_weeklyOf_5 : decode cX6_weeklyOf 5 = .ok (.aload_n 0, 1) := by decide +kernel
theorem dX6_weeklyOf_6 : decode cX6_weeklyOf 6 = .ok (.getfield 7, 3) := by decide +kernel
theorem dX6_weeklyOf_9 : decode cX6_weeklyOf 9 = .ok (.iconst 0, 1) := by decide +kernel
theorem dX6_weeklyOf_10 : decode cX6_weeklyOf 10 = .ok (.iaload, 1) := by decide +kernel
theorem dX6_weeklyOf_11 : decode cX6_weeklyOf 11 = .ok (.if_icmp .ge 46, 3) := by decide +kernel
theorem dX6_weeklyOf_14 : decode cX6_weeklyOf 14 = .ok (.iload_n 2, 1) := by decide +kernel
theorem dX6_weeklyOf_15 : decode cX6_weeklyOf 15 = .ok (.aload_n 0, 1) := by decide +kernel
theorem dX6_weeklyOf_16 : decode cX6_weeklyOf 16 = .ok (.iload_n 3, 1) := by decide +kernel
theorem dX6_weeklyOf_17 : decode cX6_weeklyOf 17 = .ok (.bipush 6, 2) := by decide +kernel
theorem dX6_weeklyOf_19 : decode cX6_weeklyOf 19 = .ok (.invokevirtual 44, 3) := by decide +kernel
theorem dX6_weeklyOf_22 : decode cX6_weeklyOf 22 = .ok (.iconst (-1), 1) := by decide +kernel
theorem dX6_weeklyOf_23 : decode cX6_weeklyOf 23 = .ok (.if_icmp .ne 7, 3) := by decide +kernel
theorem dX6_weeklyOf_26 : decode cX6_weeklyOf 26 = .ok (.iconst 0, 1) := by decide +kernel
theorem dX6_weeklyOf_27 : decode cX6_weeklyOf 27 = .ok (.goto 22, 3) := by decide +kernel
theorem dX6_weeklyOf_30 : decode cX6_weeklyOf 30 = .ok (.aload_n 0, 1) := by decide +kernel
theorem dX6_weeklyOf_31 : decode cX6_weeklyOf 31 = .ok (.iload_n 3, 1) := by decide +kernel
theorem dX6_weeklyOf_32 : decode cX6_weeklyOf 32 = .ok (.iconst 2, 1) := by decide +kernel
theorem dX6_weeklyOf_33 : decode cX6_weeklyOf 33 = .ok (.iload_n 1, 1) := by decide +kernel
theorem dX6_weeklyOf_34 : decode cX6_weeklyOf 34 = .ok (.iadd, 1) := by decide +kernel
theorem dX6_weeklyOf_35 : decode cX6_weeklyOf 35 = .ok (.invokevirtual 44, 3) := by decide +kernel
theorem dX6_weeklyOf_38 : decode cX6_weeklyOf 38 = .ok (.aload_n 0, 1) := by decide +kernel
theorem dX6_weeklyOf_39 : decode cX6_weeklyOf 39 = .ok (.iload_n 3, 1) := by decide +kernel
theorem dX6_weeklyOf_40 : decode cX6_weeklyOf 40 = .ok (.bipush 6, 2) := by decide +kernel
theorem dX6_weeklyOf_42 : decode cX6_weeklyOf 42 = .ok (.invokevirtual 44, 3) := by decide +kernel
theorem dX6_weeklyOf_45 : decode cX6_weeklyOf 45 = .ok (.invokestatic 51, 3) := by decide +kernel
theorem dX6_weeklyOf_48 : decode cX6_weeklyOf 48 = .ok (.imul, 1) := by decide +kernel
theorem dX6_weeklyOf_49 : decode cX6_weeklyOf 49 = .ok (.iadd, 1) := by decide +kernel
theorem dX6_weeklyOf_50 : decode cX6_weeklyOf 50 = .ok (.istore_n 2, 1) := by decide +kernel
theorem dX6_weeklyOf_51 : decode cX6_weeklyOf 51 = .ok (.iinc 3 1, 3) := by decide +kernel
theorem dX6_weeklyOf_54 : decode cX6_weeklyOf 54 = .ok (.goto (-50), 3) := by decide +kernel
theorem dX6_weeklyOf_57 : decode cX6_weeklyOf 57 = .ok (.iload_n 2, 1) := by decide +kernel
theorem dX6_weeklyOf_58 : decode cX6_weeklyOf 58 = .ok (.ireturn, 1) := by decide +kernel
set_option maxRecDepth 20000 in
theorem ggX6_good_X6_in : GoodIn wsX6_good wsX6_in := goodIn_r _ [5] (by decide +kernel) (by decide +kernel)
set_option maxRecDepth 20000 in
theorem gX6_good_X6_in : GoodIn wsX6_good (va_wsS RX6 36 yX6_in wsX6_in) := goodIn_app (goodIn_of _ (by decide +kernel)) ggX6_good_X6_in
set_option maxRecDepth 20000 in
theorem ggX6_good_X6_records : GoodIn wsX6_good wsX6_records := goodIn_r _ [9, 10, 11, 1, 12, 13, 4, 14, 19, 20, 21, 22, 23, 24, 25, 26, 27, 28, 29, 30, 31, 32, 33, 34, 35] (by decide +kernel) (by decide +kernel)
set_option maxRecDepth 20000 in
theorem gX6_good_X6_records : GoodIn wsX6_good (wsV RX6 54 RX6 yX6_records wsX6_records) := goodIn_app (goodIn_of _ (by decide +kernel)) ggX6_good_X6_records
set_option maxRecDepth 20000 in
theorem ggX6_good_X6_lays : GoodIn wsX6_good wsX6_lays := goodIn_r _ [18, 1, 19, 20, 21, 22, 23, 24, 25, 26, 27, 28, 29, 30, 31, 32, 33, 34, 35] (by decide +kernel) (by decide +kernel)
set_option maxRecDepth 20000 in
theorem gX6_good_X6_lays : GoodIn wsX6_good (wsV RX6 57 RX6 yX6_lays wsX6_lays) := goodIn_app (goodIn_of _ (by decide +kernel)) ggX6_good_X6_lays
theorem dX6_good_0 : decode cX6_good 0 = .ok (.iload_n 1, 1) := by decide +kernel
theorem dX6_good_1 : decode cX6_good 1 = .ok (.iconst 1, 1) := by decide +kernel
theorem dX6_good_2 : decode cX6_good 2 = .ok (.bipush 40, 2) := by decide +kernel
theorem dX6_good_4 : decode cX6_good 4 = .ok (.invokestatic 36, 3) := by decide +kernel
theorem dX6_good_7 : decode cX6_good 7 = .ok (.ifCond .eq 14, 3) := by decide +kernel
theorem dX6_good_10 : decode cX6_good 10 = .ok (.iload_n 2, 1) := by decide +kernel
theorem dX6_good_11 : decode cX6_good 11 = .ok (.iconst 1, 1) := by decide +kernel
theorem dX6_good_12 : decode cX6_good 12 = .ok (.sipush 200, 3) := by decide +kernel
theorem dX6_good_15 : decode cX6_good 15 = .ok (.invokestatic 36, 3) := by decide +kernel
theorem dX6_good_18 : decode cX6_good 18 = .ok (.ifCond .ne 5, 3) := by decide +kernel
theorem dX6_good_21 : decode cX6_good 21 = .ok (.iconst (-1), 1) := by decide +kernel
theorem dX6_good_22 : decode cX6_good 22 = .ok (.ireturn, 1) := by decide +kernel
theorem dX6_good_23 : decode cX6_good 23 = .ok (.aload_n 0, 1) := by decide +kernel
theorem dX6_good_24 : decode cX6_good 24 = .ok (.getfield 7, 3) := by decide +kernel
theorem dX6_good_27 : decode cX6_good 27 = .ok (.iconst 0, 1) := by decide +kernel
theorem dX6_good_28 : decode cX6_good 28 = .ok (.iaload, 1) := by decide +kernel
theorem dX6_good_29 : decode cX6_good 29 = .ok (.bipush 20, 2) := by decide +kernel
theorem dX6_good_31 : decode cX6_good 31 = .ok (.if_icmp .ne 6, 3) := by decide +kernel
theorem dX6_good_34 : decode cX6_good 34 = .ok (.bipush (-3), 2) := by decide +kernel
theorem dX6_good_36 : decode cX6_good 36 = .ok (.ireturn, 1) := by decide +kernel
theorem dX6_good_37 : decode cX6_good 37 = .ok (.aload_n 0, 1) := by decide +kernel
theorem dX6_good_38 : decode cX6_good 38 = .ok (.invokevirtual 54, 3) := by decide +kernel
theorem dX6_good_41 : decode cX6_good 41 = .ok (.aload_n 0, 1) := by decide +kernel
theorem dX6_good_42 : decode cX6_good 42 = .ok (.getfield 7, 3) := by decide +kernel
theorem dX6_good_45 : decode cX6_good 45 = .ok (.iconst 0, 1) := by decide +kernel
theorem dX6_good_46 : decode cX6_good 46 = .ok (.iaload, 1) := by decide +kernel
theorem dX6_good_47 : decode cX6_good 47 = .ok (.istore_n 3, 1) := by decide +kernel
theorem dX6_good_48 : decode cX6_good 48 = .ok (.aload_n 0, 1) := by decide +kernel
theorem dX6_good_49 : decode cX6_good 49 = .ok (.iload_n 3, 1) := by decide +kernel
theorem dX6_good_50 : decode cX6_good 50 = .ok (.iconst 0, 1) := by decide +kernel
theorem dX6_good_51 : decode cX6_good 51 = .ok (.iload_n 1, 1) := by decide +kernel
theorem dX6_good_52 : decode cX6_good 52 = .ok (.invokevirtual 57, 3) := by decide +kernel
theorem dX6_good_55 : decode cX6_good 55 = .ok (.aload_n 0, 1) := by decide +kernel
theorem dX6_good_56 : decode cX6_good 56 = .ok (.iload_n 3, 1) := by decide +kernel
theorem dX6_good_57 : decode cX6_good 57 = .ok (.iconst 1, 1) := by decide +kernel
theorem dX6_good_58 : decode cX6_good 58 = .ok (.iload_n 2, 1) := by decide +kernel
theorem dX6_good_59 : decode cX6_good 59 = .ok (.invokevirtual 57, 3) := by decide +kernel
theorem dX6_good_62 : decode cX6_good 62 = .ok (.aload_n 0, 1) := by decide +kernel
theorem dX6_good_63 : decode cX6_good 63 = .ok (.iload_n 3, 1) := by decide +kernel
theorem dX6_good_64 : decode cX6_good 64 = .ok (.bipush 6, 2) := by decide +kernel
theorem dX6_good_66 : decode cX6_good 66 = .ok (.iconst (-1), 1) := by decide +kernel
theorem dX6_good_67 : decode cX6_good 67 = .ok (.invokevirtual 57, 3) := by decide +kernel
theorem dX6_good_70 : decode cX6_good 70 = .ok (.aload_n 0, 1) := by decide +kernel
theorem dX6_good_71 : decode cX6_good 71 = .ok (.getfield 7, 3) := by decide +kernel
theorem dX6_good_74 : decode cX6_good 74 = .ok (.iconst 0, 1) := by decide +kernel
theorem dX6_good_75 : decode cX6_good 75 = .ok (.dup2, 1) := by decide +kernel
theorem dX6_good_76 : decode cX6_good 76 = .ok (.iaload, 1) := by decide +kernel
theorem dX6_good_77 : decode cX6_good 77 = .ok (.iconst 1, 1) := by decide +kernel
theorem dX6_good_78 : decode cX6_good 78 = .ok (.iadd, 1) := by decide +kernel
theorem dX6_good_79 : decode cX6_good 79 = .ok (.iastore, 1) := by decide +kernel
theorem dX6_good_80 : decode cX6_good 80 = .ok (.iload_n 3, 1) := by decide +kernel
theorem dX6_good_81 : decode cX6_good 81 = .ok (.ireturn, 1) := by decide +kernel
set_option maxRecDepth 20000 in
theorem ggX6_demand_X6_isGood : GoodIn wsX6_demand wsX6_isGood := goodIn_r _ [5, 6, 7, 8, 4, 9, 45, 46, 47, 48, 49, 50, 51, 52, 53, 54, 55, 56, 57, 58, 59, 60, 61] (by decide +kernel) (by decide +kernel)
set_option maxRecDepth 20000 in
theorem gX6_demand_X6_isGood : GoodIn wsX6_demand (wsV RX6 61 RX6 yX6_isGood wsX6_isGood) := goodIn_app (goodIn_of _ (by decide +kernel)) ggX6_demand_X6_isGood
set_option maxRecDepth 20000 in
theorem ggX6_demand_X6_in : GoodIn wsX6_demand wsX6_in := goodIn_r _ [9] (by decide +kernel) (by decide +kernel)
set_option maxRecDepth 20000 in
theorem gX6_demand_X6_in : GoodIn wsX6_demand (va_wsS RX6 36 yX6_in wsX6_in) := goodIn_app (goodIn_of _ (by decide +kernel)) ggX6_demand_X6_in
set_option maxRecDepth 20000 in
theorem ggX6_demand_X6_records : GoodIn wsX6_demand wsX6_records := goodIn_r _ [13, 14, 15, 6, 16, 17, 4, 18, 45, 46, 47, 48, 49, 50, 51, 52, 53, 54, 55, 56, 57, 58, 59, 60, 61] (by decide +kernel) (by decide +kernel)
set_option maxRecDepth 20000 in
theorem gX6_demand_X6_records : GoodIn wsX6_demand (wsV RX6 54 RX6 yX6_records wsX6_records) := goodIn_app (goodIn_of _ (by decide +kernel)) ggX6_demand_X6_records
set_option maxRecDepth 20000 in
theorem ggX6_demand_X6_of : GoodIn wsX6_demand wsX6_of := goodIn_r _ [22, 6, 45, 46, 47, 48, 49, 50, 51, 52, 53, 54, 55, 56, 57, 58, 59, 60, 61] (by decide +kernel) (by decide +kernel)
set_option maxRecDepth 20000 in
theorem gX6_demand_X6_of : GoodIn wsX6_demand (wsV RX6 44 RX6 yX6_of wsX6_of) := goodIn_app (goodIn_of _ (by decide +kernel)) ggX6_demand_X6_of
set_option maxRecDepth 20000 in
theorem ggX6_demand_X6_season : GoodIn wsX6_demand wsX6_season := goodIn_r _ [26, 6, 45, 46, 47, 48, 49, 50, 51, 52, 53, 54, 55, 56, 57, 58, 59, 60, 61] (by decide +kernel) (by decide +kernel)
set_option maxRecDepth 20000 in
theorem gX6_demand_X6_season : GoodIn wsX6_demand (wsV RX6 65 RX6 yX6_season wsX6_season) := goodIn_app (goodIn_of _ (by decide +kernel)) ggX6_demand_X6_season
set_option maxRecDepth 20000 in
theorem ggX6_demand_X6_weeklyOf : GoodIn wsX6_demand wsX6_weeklyOf := goodIn_r _ [30, 6, 19, 20, 21, 4, 22, 31, 32, 33, 34, 35, 36, 45, 46, 47, 48, 49, 50, 51, 52, 53, 54, 55, 56, 57, 58, 59, 60, 61] (by decide +kernel) (by decide +kernel)
set_option maxRecDepth 20000 in
theorem gX6_demand_X6_weeklyOf : GoodIn wsX6_demand (wsV RX6 69 RX6 yX6_weeklyOf wsX6_weeklyOf) := goodIn_app (goodIn_of _ (by decide +kernel)) ggX6_demand_X6_weeklyOf
set_option maxRecDepth 20000 in
theorem ggX6_demand_X6_lays : GoodIn wsX6_demand wsX6_lays := goodIn_r _ [40, 6, 45, 46, 47, 48, 49, 50, 51, 52, 53, 54, 55, 56, 57, 58, 59, 60, 61] (by decide +kernel) (by decide +kernel)
set_option maxRecDepth 20000 in
theorem gX6_demand_X6_lays : GoodIn wsX6_demand (wsV RX6 57 RX6 yX6_lays wsX6_lays) := goodIn_app (goodIn_of _ (by decide +kernel)) ggX6_demand_X6_lays
set_option maxRecDepth 20000 in
theorem ggX6_demand_X6_adds : GoodIn wsX6_demand wsX6_adds := goodIn_r _ [44, 6, 45, 46, 47, 48, 49, 50, 51, 52, 53, 54, 55, 56, 57, 58, 59, 60, 61] (by decide +kernel) (by decide +kernel)
set_option maxRecDepth 20000 in
theorem gX6_demand_X6_adds : GoodIn wsX6_demand (wsV RX6 72 RX6 yX6_adds wsX6_adds) := goodIn_app (goodIn_of _ (by decide +kernel)) ggX6_demand_X6_adds
theorem dX6_demand_0 : decode cX6_demand 0 = .ok (.aload_n 0, 1) := by decide +kernel
theorem dX6_demand_1 : decode cX6_demand 1 = .ok (.iload_n 1, 1) := by decide +kernel
theorem dX6_demand_2 : decode cX6_demand 2 = .ok (.invokevirtual 61, 3) := by decide +kernel
theorem dX6_demand_5 : decode cX6_demand 5 = .ok (.ifCond .eq 23, 3) := by decide +kernel
theorem dX6_demand_8 : decode cX6_demand 8 = .ok (.iload_n 2, 1) := by decide +kernel
theorem dX6_demand_9 : decode cX6_demand 9 = .ok (.iconst 0, 1) := by decide +kernel
theorem dX6_demand_10 : decode cX6_demand 10 = .ok (.iconst 3, 1) := by decide +kernel
theorem dX6_demand_11 : decode cX6_demand 11 = .ok (.invokestatic 36, 3) := by decide +kernel
theorem dX6_demand_14 : decode cX6_demand 14 = .ok (.ifCond .eq 14, 3) := by decide +kernel
theorem dX6_demand_17 : decode cX6_demand 17 = .ok (.iload_n 3, 1) := by decide +kernel
theorem dX6_demand_18 : decode cX6_demand 18 = .ok (.iconst 0, 1) := by decide +kernel
theorem dX6_demand_19 : decode cX6_demand 19 = .ok (.sipush 999, 3) := by decide +kernel
theorem dX6_demand_22 : decode cX6_demand 22 = .ok (.invokestatic 36, 3) := by decide +kernel
theorem dX6_demand_25 : decode cX6_demand 25 = .ok (.ifCond .ne 5, 3) := by decide +kernel
theorem dX6_demand_28 : decode cX6_demand 28 = .ok (.iconst (-1), 1) := by decide +kernel
theorem dX6_demand_29 : decode cX6_demand 29 = .ok (.ireturn, 1) := by decide +kernel
theorem dX6_demand_30 : decode cX6_demand 30 = .ok (.aload_n 0, 1) := by decide +kernel
theorem dX6_demand_31 : decode cX6_demand 31 = .ok (.invokevirtual 54, 3) := by decide +kernel
theorem dX6_demand_34 : decode cX6_demand 34 = .ok (.aload_n 0, 1) := by decide +kernel
theorem dX6_demand_35 : decode cX6_demand 35 = .ok (.iload_n 1, 1) := by decide +kernel
theorem dX6_demand_36 : decode cX6_demand 36 = .ok (.iconst 2, 1) := by decide +kernel
theorem dX6_demand_37 : decode cX6_demand 37 = .ok (.iload_n 2, 1) := by decide +kernel
theorem dX6_demand_38 : decode cX6_demand 38 = .ok (.iadd, 1) := by decide +kernel
theorem dX6_demand_39 : decode cX6_demand 39 = .ok (.invokevirtual 44, 3) := by decide +kernel
theorem dX6_demand_42 : decode cX6_demand 42 = .ok (.istore 4, 2) := by decide +kernel
theorem dX6_demand_44 : decode cX6_demand 44 = .ok (.aload_n 0, 1) := by decide +kernel
theorem dX6_demand_45 : decode cX6_demand 45 = .ok (.aload_n 0, 1) := by decide +kernel
theorem dX6_demand_46 : decode cX6_demand 46 = .ok (.invokevirtual 65, 3) := by decide +kernel
theorem dX6_demand_49 : decode cX6_demand 49 = .ok (.invokevirtual 69, 3) := by decide +kernel
theorem dX6_demand_52 : decode cX6_demand 52 = .ok (.istore 5, 2) := by decide +kernel
theorem dX6_demand_54 : decode cX6_demand 54 = .ok (.aload_n 0, 1) := by decide +kernel
theorem dX6_demand_55 : decode cX6_demand 55 = .ok (.iload_n 1, 1) := by decide +kernel
theorem dX6_demand_56 : decode cX6_demand 56 = .ok (.iconst 2, 1) := by decide +kernel
theorem dX6_demand_57 : decode cX6_demand 57 = .ok (.iload_n 2, 1) := by decide +kernel
theorem dX6_demand_58 : decode cX6_demand 58 = .ok (.iadd, 1) := by decide +kernel
theorem dX6_demand_59 : decode cX6_demand 59 = .ok (.iload_n 3, 1) := by decide +kernel
theorem dX6_demand_60 : decode cX6_demand 60 = .ok (.invokevirtual 57, 3) := by decide +kernel
theorem dX6_demand_63 : decode cX6_demand 63 = .ok (.aload_n 0, 1) := by decide +kernel
theorem dX6_demand_64 : decode cX6_demand 64 = .ok (.iconst 5, 1) := by decide +kernel
theorem dX6_demand_65 : decode cX6_demand 65 = .ok (.aload_n 0, 1) := by decide +kernel
theorem dX6_demand_66 : decode cX6_demand 66 = .ok (.aload_n 0, 1) := by decide +kernel
theorem dX6_demand_67 : decode cX6_demand 67 = .ok (.invokevirtual 65, 3) := by decide +kernel
theorem dX6_demand_70 : decode cX6_demand 70 = .ok (.invokevirtual 69, 3) := by decide +kernel
theorem dX6_demand_73 : decode cX6_demand 73 = .ok (.iload 5, 2) := by decide +kernel
theorem dX6_demand_75 : decode cX6_demand 75 = .ok (.isub, 1) := by decide +kernel
theorem dX6_demand_76 : decode cX6_demand 76 = .ok (.invokevirtual 72, 3) := by decide +kernel
theorem dX6_demand_79 : decode cX6_demand 79 = .ok (.iload 4, 2) := by decide +kernel
theorem dX6_demand_81 : decode cX6_demand 81 = .ok (.ireturn, 1) := by decide +kernel
set_option maxRecDepth 20000 in
theorem ggX6_deliver_X6_isGood : GoodIn wsX6_deliver wsX6_isGood := goodIn_r _ [6, 7, 8, 9, 5, 10, 28, 29, 30, 31, 32, 33, 34, 35, 36, 37, 38, 39, 40, 41, 42, 43, 44] (by decide +kernel) (by decide +kernel)
set_option maxRecDepth 20000 in
theorem gX6_deliver_X6_isGood : GoodIn wsX6_deliver (wsV RX6 61 RX6 yX6_isGood wsX6_isGood) := goodIn_app (goodIn_of _ (by decide +kernel)) ggX6_deliver_X6_isGood
set_option maxRecDepth 20000 in
theorem ggX6_deliver_X6_in : GoodIn wsX6_deliver wsX6_in := goodIn_r _ [10] (by decide +kernel) (by decide +kernel)
set_option maxRecDepth 20000 in
theorem gX6_deliver_X6_in : GoodIn wsX6_deliver (va_wsS RX6 36 yX6_in wsX6_in) := goodIn_app (goodIn_of _ (by decide +kernel)) ggX6_deliver_X6_in
set_option maxRecDepth 20000 in
theorem ggX6_deliver_X6_of : GoodIn wsX6_deliver wsX6_of := goodIn_r _ [14, 7, 28, 29, 30, 31, 32, 33, 34, 35, 36, 37, 38, 39, 40, 41, 42, 43, 44] (by decide +kernel) (by decide +kernel)
set_option maxRecDepth 20000 in
theorem gX6_deliver_X6_of : GoodIn wsX6_deliver (wsV RX6 44 RX6 yX6_of wsX6_of) := goodIn_app (goodIn_of _ (by decide +kernel)) ggX6_deliver_X6_of
set_option maxRecDepth 20000 in
theorem ggX6_deliver_X6_records : GoodIn wsX6_deliver wsX6_records := goodIn_r _ [18, 19, 20, 7, 21, 22, 5, 23, 28, 29, 30, 31, 32, 33, 34, 35, 36, 37, 38, 39, 40, 41, 42, 43, 44] (by decide +kernel) (by decide +kernel)
set_option maxRecDepth 20000 in
theorem gX6_deliver_X6_records : GoodIn wsX6_deliver (wsV RX6 54 RX6 yX6_records wsX6_records) := goodIn_app (goodIn_of _ (by decide +kernel)) ggX6_deliver_X6_records
set_option maxRecDepth 20000 in
theorem ggX6_deliver_X6_lays : GoodIn wsX6_deliver wsX6_lays := goodIn_r _ [27, 7, 28, 29, 30, 31, 32, 33, 34, 35, 36, 37, 38, 39, 40, 41, 42, 43, 44] (by decide +kernel) (by decide +kernel)
set_option maxRecDepth 20000 in
theorem gX6_deliver_X6_lays : GoodIn wsX6_deliver (wsV RX6 57 RX6 yX6_lays wsX6_lays) := goodIn_app (goodIn_of _ (by decide +kernel)) ggX6_deliver_X6_lays
theorem dX6_deliver_0 : decode cX6_deliver 0 = .ok (.aload_n 0, 1) := by decide +kernel
theorem dX6_deliver_1 : decode cX6_deliver 1 = .ok (.iload_n 1, 1) := by decide +kernel
theorem dX6_deliver_2 : decode cX6_deliver 2 = .ok (.invokevirtual 61, 3) := by decide +kernel
theorem dX6_deliver_5 : decode cX6_deliver 5 = .ok (.ifCond .eq 14, 3) := by decide +kernel
theorem dX6_deliver_8 : decode cX6_deliver 8 = .ok (.iload_n 2, 1) := by decide +kernel
theorem dX6_deliver_9 : decode cX6_deliver 9 = .ok (.iconst 1, 1) := by decide +kernel
theorem dX6_deliver_10 : decode cX6_deliver 10 = .ok (.sipush 5000, 3) := by decide +kernel
theorem dX6_deliver_13 : decode cX6_deliver 13 = .ok (.invokestatic 36, 3) := by decide +kernel
theorem dX6_deliver_16 : decode cX6_deliver 16 = .ok (.ifCond .ne 5, 3) := by decide +kernel
theorem dX6_deliver_19 : decode cX6_deliver 19 = .ok (.iconst (-1), 1) := by decide +kernel
theorem dX6_deliver_20 : decode cX6_deliver 20 = .ok (.ireturn, 1) := by decide +kernel
theorem dX6_deliver_21 : decode cX6_deliver 21 = .ok (.aload_n 0, 1) := by decide +kernel
theorem dX6_deliver_22 : decode cX6_deliver 22 = .ok (.iload_n 1, 1) := by decide +kernel
theorem dX6_deliver_23 : decode cX6_deliver 23 = .ok (.bipush 8, 2) := by decide +kernel
theorem dX6_deliver_25 : decode cX6_deliver 25 = .ok (.invokevirtual 44, 3) := by decide +kernel
theorem dX6_deliver_28 : decode cX6_deliver 28 = .ok (.iload_n 2, 1) := by decide +kernel
theorem dX6_deliver_29 : decode cX6_deliver 29 = .ok (.iadd, 1) := by decide +kernel
theorem dX6_deliver_30 : decode cX6_deliver 30 = .ok (.ldc 76, 2) := by decide +kernel
theorem dX6_deliver_32 : decode cX6_deliver 32 = .ok (.if_icmp .le 6, 3) := by decide +kernel
theorem dX6_deliver_35 : decode cX6_deliver 35 = .ok (.bipush (-3), 2) := by decide +kernel
theorem dX6_deliver_37 : decode cX6_deliver 37 = .ok (.ireturn, 1) := by decide +kernel
theorem dX6_deliver_38 : decode cX6_deliver 38 = .ok (.aload_n 0, 1) := by decide +kernel
theorem dX6_deliver_39 : decode cX6_deliver 39 = .ok (.invokevirtual 54, 3) := by decide +kernel
theorem dX6_deliver_42 : decode cX6_deliver 42 = .ok (.aload_n 0, 1) := by decide +kernel
theorem dX6_deliver_43 : decode cX6_deliver 43 = .ok (.iload_n 1, 1) := by decide +kernel
theorem dX6_deliver_44 : decode cX6_deliver 44 = .ok (.bipush 8, 2) := by decide +kernel
theorem dX6_deliver_46 : decode cX6_deliver 46 = .ok (.aload_n 0, 1) := by decide +kernel
theorem dX6_deliver_47 : decode cX6_deliver 47 = .ok (.iload_n 1, 1) := by decide +kernel
theorem dX6_deliver_48 : decode cX6_deliver 48 = .ok (.bipush 8, 2) := by decide +kernel
theorem dX6_deliver_50 : decode cX6_deliver 50 = .ok (.invokevirtual 44, 3) := by decide +kernel
theorem dX6_deliver_53 : decode cX6_deliver 53 = .ok (.iload_n 2, 1) := by decide +kernel
theorem dX6_deliver_54 : decode cX6_deliver 54 = .ok (.iadd, 1) := by decide +kernel
theorem dX6_deliver_55 : decode cX6_deliver 55 = .ok (.invokevirtual 57, 3) := by decide +kernel
theorem dX6_deliver_58 : decode cX6_deliver 58 = .ok (.aload_n 0, 1) := by decide +kernel
theorem dX6_deliver_59 : decode cX6_deliver 59 = .ok (.iload_n 1, 1) := by decide +kernel
theorem dX6_deliver_60 : decode cX6_deliver 60 = .ok (.bipush 8, 2) := by decide +kernel
theorem dX6_deliver_62 : decode cX6_deliver 62 = .ok (.invokevirtual 44, 3) := by decide +kernel
theorem dX6_deliver_65 : decode cX6_deliver 65 = .ok (.ireturn, 1) := by decide +kernel
set_option maxRecDepth 20000 in
theorem ggX6_place_X6_isGood : GoodIn wsX6_place wsX6_isGood := goodIn_r _ [5, 6, 7, 8, 4, 9, 55, 56, 57, 58, 59, 60, 61, 62, 63, 64, 65, 66, 67, 68, 69, 70, 71] (by decide +kernel) (by decide +kernel)
set_option maxRecDepth 20000 in
theorem gX6_place_X6_isGood : GoodIn wsX6_place (wsV RX6 61 RX6 yX6_isGood wsX6_isGood) := goodIn_app (goodIn_of _ (by decide +kernel)) ggX6_place_X6_isGood
set_option maxRecDepth 20000 in
theorem ggX6_place_X6_isSlot : GoodIn wsX6_place wsX6_isSlot := goodIn_r _ [12, 7, 8, 4, 9] (by decide +kernel) (by decide +kernel)
set_option maxRecDepth 20000 in
theorem gX6_place_X6_isSlot : GoodIn wsX6_place (va_wsS RX6 77 yX6_isSlot wsX6_isSlot) := goodIn_app (goodIn_of _ (by decide +kernel)) ggX6_place_X6_isSlot
set_option maxRecDepth 20000 in
theorem ggX6_place_X6_of : GoodIn wsX6_place wsX6_of := goodIn_r _ [16, 6, 55, 56, 57, 58, 59, 60, 61, 62, 63, 64, 65, 66, 67, 68, 69, 70, 71] (by decide +kernel) (by decide +kernel)
set_option maxRecDepth 20000 in
theorem gX6_place_X6_of : GoodIn wsX6_place (wsV RX6 44 RX6 yX6_of wsX6_of) := goodIn_app (goodIn_of _ (by decide +kernel)) ggX6_place_X6_of
set_option maxRecDepth 20000 in
theorem ggX6_place_X6_goodAt : GoodIn wsX6_place wsX6_goodAt := goodIn_r _ [20, 6, 13, 14, 15, 4, 16, 55, 56, 57, 58, 59, 60, 61, 62, 63, 64, 65, 66, 67, 68, 69, 70, 71] (by decide +kernel) (by decide +kernel)
set_option maxRecDepth 20000 in
theorem gX6_place_X6_goodAt : GoodIn wsX6_place (wsV RX6 80 RX6 yX6_goodAt wsX6_goodAt) := goodIn_app (goodIn_of _ (by decide +kernel)) ggX6_place_X6_goodAt
set_option maxRecDepth 20000 in
theorem ggX6_place_X6_mayBe : GoodIn wsX6_place wsX6_mayBe := goodIn_r _ [24, 13, 14, 15, 4, 16, 6, 25, 26, 27, 55, 56, 57, 58, 59, 60, 61, 62, 63, 64, 65, 66, 67, 68, 69, 70, 71] (by decide +kernel) (by decide +kernel)
set_option maxRecDepth 20000 in
theorem gX6_place_X6_mayBe : GoodIn wsX6_place (wsV RX6 83 RX6 yX6_mayBe wsX6_mayBe) := goodIn_app (goodIn_of _ (by decide +kernel)) ggX6_place_X6_mayBe
set_option maxRecDepth 20000 in
theorem ggX6_place_X6_records : GoodIn wsX6_place wsX6_records := goodIn_r _ [31, 32, 33, 6, 34, 35, 4, 36, 55, 56, 57, 58, 59, 60, 61, 62, 63, 64, 65, 66, 67, 68, 69, 70, 71] (by decide +kernel) (by decide +kernel)
set_option maxRecDepth 20000 in
theorem gX6_place_X6_records : GoodIn wsX6_place (wsV RX6 54 RX6 yX6_records wsX6_records) := goodIn_app (goodIn_of _ (by decide +kernel)) ggX6_place_X6_records
set_option maxRecDepth 20000 in
theorem ggX6_place_X6_lays : GoodIn wsX6_place wsX6_lays := goodIn_r _ [40, 6, 55, 56, 57, 58, 59, 60, 61, 62, 63, 64, 65, 66, 67, 68, 69, 70, 71] (by decide +kernel) (by decide +kernel)
set_option maxRecDepth 20000 in
theorem gX6_place_X6_lays : GoodIn wsX6_place (wsV RX6 57 RX6 yX6_lays wsX6_lays) := goodIn_app (goodIn_of _ (by decide +kernel)) ggX6_place_X6_lays
set_option maxRecDepth 20000 in
theorem ggX6_place_X6_season : GoodIn wsX6_place wsX6_season := goodIn_r _ [44, 6, 55, 56, 57, 58, 59, 60, 61, 62, 63, 64, 65, 66, 67, 68, 69, 70, 71] (by decide +kernel) (by decide +kernel)
set_option maxRecDepth 20000 in
theorem gX6_place_X6_season : GoodIn wsX6_place (wsV RX6 65 RX6 yX6_season wsX6_season) := goodIn_app (goodIn_of _ (by decide +kernel)) ggX6_place_X6_season
set_option maxRecDepth 20000 in
theorem ggX6_place_X6_walk : GoodIn wsX6_place wsX6_walk := goodIn_r _ [47, 48, 49, 4, 50] (by decide +kernel) (by decide +kernel)
set_option maxRecDepth 20000 in
theorem gX6_place_X6_walk : GoodIn wsX6_place (va_wsS RX6 51 yX6_walk wsX6_walk) := goodIn_app (goodIn_of _ (by decide +kernel)) ggX6_place_X6_walk
set_option maxRecDepth 20000 in
theorem ggX6_place_X6_adds : GoodIn wsX6_place wsX6_adds := goodIn_r _ [54, 6, 55, 56, 57, 58, 59, 60, 61, 62, 63, 64, 65, 66, 67, 68, 69, 70, 71] (by decide +kernel) (by decide +kernel)
set_option maxRecDepth 20000 in
theorem gX6_place_X6_adds : GoodIn wsX6_place (wsV RX6 72 RX6 yX6_adds wsX6_adds) := goodIn_app (goodIn_of _ (by decide +kernel)) ggX6_place_X6_adds
theorem dX6_place_0 : decode cX6_place 0 = .ok (.aload_n 0, 1) := by decide +kernel
theorem dX6_place_1 : decode cX6_place 1 = .ok (.iload_n 1, 1) := by decide +kernel
theorem dX6_place_2 : decode cX6_place 2 = .ok (.invokevirtual 61, 3) := by decide +kernel
theorem dX6_place_5 : decode cX6_place 5 = .ok (.ifCond .eq 10, 3) := by decide +kernel
theorem dX6_place_8 : decode cX6_place 8 = .ok (.iload_n 2, 1) := by decide +kernel
theorem dX6_place_9 : decode cX6_place 9 = .ok (.invokestatic 77, 3) := by decide +kernel
theorem dX6_place_12 : decode cX6_place 12 = .ok (.ifCond .ne 5, 3) := by decide +kernel
theorem dX6_place_15 : decode cX6_place 15 = .ok (.iconst (-1), 1) := by decide +kernel
theorem dX6_place_16 : decode cX6_place 16 = .ok (.ireturn, 1) := by decide +kernel
theorem dX6_place_17 : decode cX6_place 17 = .ok (.aload_n 0, 1) := by decide +kernel
theorem dX6_place_18 : decode cX6_place 18 = .ok (.iload_n 1, 1) := by decide +kernel
theorem dX6_place_19 : decode cX6_place 19 = .ok (.bipush 6, 2) := by decide +kernel
theorem dX6_place_21 : decode cX6_place 21 = .ok (.invokevirtual 44, 3) := by decide +kernel
theorem dX6_place_24 : decode cX6_place 24 = .ok (.iconst (-1), 1) := by decide +kernel
theorem dX6_place_25 : decode cX6_place 25 = .ok (.if_icmp .ne 21, 3) := by decide +kernel
theorem dX6_place_28 : decode cX6_place 28 = .ok (.aload_n 0, 1) := by decide +kernel
theorem dX6_place_29 : decode cX6_place 29 = .ok (.iload_n 2, 1) := by decide +kernel
theorem dX6_place_30 : decode cX6_place 30 = .ok (.invokevirtual 80, 3) := by decide +kernel
theorem dX6_place_33 : decode cX6_place 33 = .ok (.iconst (-1), 1) := by decide +kernel
theorem dX6_place_34 : decode cX6_place 34 = .ok (.if_icmp .ne 12, 3) := by decide +kernel
theorem dX6_place_37 : decode cX6_place 37 = .ok (.aload_n 0, 1) := by decide +kernel
theorem dX6_place_38 : decode cX6_place 38 = .ok (.iload_n 1, 1) := by decide +kernel
theorem dX6_place_39 : decode cX6_place 39 = .ok (.iload_n 2, 1) := by decide +kernel
theorem dX6_place_40 : decode cX6_place 40 = .ok (.invokevirtual 83, 3) := by decide +kernel
theorem dX6_place_43 : decode cX6_place 43 = .ok (.ifCond .ne 6, 3) := by decide +kernel
theorem dX6_place_46 : decode cX6_place 46 = .ok (.bipush (-2), 2) := by decide +kernel
theorem dX6_place_48 : decode cX6_place 48 = .ok (.ireturn, 1) := by decide +kernel
theorem dX6_place_49 : decode cX6_place 49 = .ok (.aload_n 0, 1) := by decide +kernel
theorem dX6_place_50 : decode cX6_place 50 = .ok (.invokevirtual 54, 3) := by decide +kernel
theorem dX6_place_53 : decode cX6_place 53 = .ok (.aload_n 0, 1) := by decide +kernel
theorem dX6_place_54 : decode cX6_place 54 = .ok (.iload_n 1, 1) := by decide +kernel
theorem dX6_place_55 : decode cX6_place 55 = .ok (.bipush 6, 2) := by decide +kernel
theorem dX6_place_57 : decode cX6_place 57 = .ok (.iload_n 2, 1) := by decide +kernel
theorem dX6_place_58 : decode cX6_place 58 = .ok (.invokevirtual 57, 3) := by decide +kernel
theorem dX6_place_61 : decode cX6_place 61 = .ok (.aload_n 0, 1) := by decide +kernel
theorem dX6_place_62 : decode cX6_place 62 = .ok (.iconst 5, 1) := by decide +kernel
theorem dX6_place_63 : decode cX6_place 63 = .ok (.aload_n 0, 1) := by decide +kernel
theorem dX6_place_64 : decode cX6_place 64 = .ok (.iload_n 1, 1) := by decide +kernel
theorem dX6_place_65 : decode cX6_place 65 = .ok (.iconst 2, 1) := by decide +kernel
theorem dX6_place_66 : decode cX6_place 66 = .ok (.aload_n 0, 1) := by decide +kernel
theorem dX6_place_67 : decode cX6_place 67 = .ok (.invokevirtual 65, 3) := by decide +kernel
theorem dX6_place_70 : decode cX6_place 70 = .ok (.iadd, 1) := by decide +kernel
theorem dX6_place_71 : decode cX6_place 71 = .ok (.invokevirtual 44, 3) := by decide +kernel
theorem dX6_place_74 : decode cX6_place 74 = .ok (.iload_n 2, 1) := by decide +kernel
theorem dX6_place_75 : decode cX6_place 75 = .ok (.invokestatic 51, 3) := by decide +kernel
theorem dX6_place_78 : decode cX6_place 78 = .ok (.imul, 1) := by decide +kernel
theorem dX6_place_79 : decode cX6_place 79 = .ok (.invokevirtual 72, 3) := by decide +kernel
theorem dX6_place_82 : decode cX6_place 82 = .ok (.iload_n 2, 1) := by decide +kernel
theorem dX6_place_83 : decode cX6_place 83 = .ok (.invokestatic 51, 3) := by decide +kernel
theorem dX6_place_86 : decode cX6_place 86 = .ok (.ireturn, 1) := by decide +kernel
set_option maxRecDepth 20000 in
theorem ggX6_take_X6_isGood : GoodIn wsX6_take wsX6_isGood := goodIn_r _ [5, 6, 7, 8, 4, 9, 41, 42, 43, 44, 45, 46, 47, 48, 49, 50, 51, 52, 53, 54, 55, 56, 57] (by decide +kernel) (by decide +kernel)
set_option maxRecDepth 20000 in
theorem gX6_take_X6_isGood : GoodIn wsX6_take (wsV RX6 61 RX6 yX6_isGood wsX6_isGood) := goodIn_app (goodIn_of _ (by decide +kernel)) ggX6_take_X6_isGood
set_option maxRecDepth 20000 in
theorem ggX6_take_X6_of : GoodIn wsX6_take wsX6_of := goodIn_r _ [13, 6, 41, 42, 43, 44, 45, 46, 47, 48, 49, 50, 51, 52, 53, 54, 55, 56, 57] (by decide +kernel) (by decide +kernel)
set_option maxRecDepth 20000 in
theorem gX6_take_X6_of : GoodIn wsX6_take (wsV RX6 44 RX6 yX6_of wsX6_of) := goodIn_app (goodIn_of _ (by decide +kernel)) ggX6_take_X6_of
set_option maxRecDepth 20000 in
theorem ggX6_take_X6_records : GoodIn wsX6_take wsX6_records := goodIn_r _ [17, 18, 19, 6, 20, 21, 4, 22, 41, 42, 43, 44, 45, 46, 47, 48, 49, 50, 51, 52, 53, 54, 55, 56, 57] (by decide +kernel) (by decide +kernel)
set_option maxRecDepth 20000 in
theorem gX6_take_X6_records : GoodIn wsX6_take (wsV RX6 54 RX6 yX6_records wsX6_records) := goodIn_app (goodIn_of _ (by decide +kernel)) ggX6_take_X6_records
set_option maxRecDepth 20000 in
theorem ggX6_take_X6_season : GoodIn wsX6_take wsX6_season := goodIn_r _ [26, 6, 41, 42, 43, 44, 45, 46, 47, 48, 49, 50, 51, 52, 53, 54, 55, 56, 57] (by decide +kernel) (by decide +kernel)
set_option maxRecDepth 20000 in
theorem gX6_take_X6_season : GoodIn wsX6_take (wsV RX6 65 RX6 yX6_season wsX6_season) := goodIn_app (goodIn_of _ (by decide +kernel)) ggX6_take_X6_season
set_option maxRecDepth 20000 in
theorem ggX6_take_X6_walk : GoodIn wsX6_take wsX6_walk := goodIn_r _ [29, 30, 31, 4, 32] (by decide +kernel) (by decide +kernel)
set_option maxRecDepth 20000 in
theorem gX6_take_X6_walk : GoodIn wsX6_take (va_wsS RX6 51 yX6_walk wsX6_walk) := goodIn_app (goodIn_of _ (by decide +kernel)) ggX6_take_X6_walk
set_option maxRecDepth 20000 in
theorem ggX6_take_X6_adds : GoodIn wsX6_take wsX6_adds := goodIn_r _ [36, 6, 41, 42, 43, 44, 45, 46, 47, 48, 49, 50, 51, 52, 53, 54, 55, 56, 57] (by decide +kernel) (by decide +kernel)
set_option maxRecDepth 20000 in
theorem gX6_take_X6_adds : GoodIn wsX6_take (wsV RX6 72 RX6 yX6_adds wsX6_adds) := goodIn_app (goodIn_of _ (by decide +kernel)) ggX6_take_X6_adds
set_option maxRecDepth 20000 in
theorem ggX6_take_X6_lays : GoodIn wsX6_take wsX6_lays := goodIn_r _ [40, 6, 41, 42, 43, 44, 45, 46, 47, 48, 49, 50, 51, 52, 53, 54, 55, 56, 57] (by decide +kernel) (by decide +kernel)
set_option maxRecDepth 20000 in
theorem gX6_take_X6_lays : GoodIn wsX6_take (wsV RX6 57 RX6 yX6_lays wsX6_lays) := goodIn_app (goodIn_of _ (by decide +kernel)) ggX6_take_X6_lays
theorem dX6_take_0 : decode cX6_take 0 = .ok (.aload_n 0, 1) := by decide +kernel
theorem dX6_take_1 : decode cX6_take 1 = .ok (.iload_n 1, 1) := by decide +kernel
theorem dX6_take_2 : decode cX6_take 2 = .ok (.invokevirtual 61, 3) := by decide +kernel
theorem dX6_take_5 : decode cX6_take 5 = .ok (.ifCond .ne 5, 3) := by decide +kernel
theorem dX6_take_8 : decode cX6_take 8 = .ok (.iconst (-1), 1) := by decide +kernel
theorem dX6_take_9 : decode cX6_take 9 = .ok (.ireturn, 1) := by decide +kernel
theorem dX6_take_10 : decode cX6_take 10 = .ok (.aload_n 0, 1) := by decide +kernel
theorem dX6_take_11 : decode cX6_take 11 = .ok (.iload_n 1, 1) := by decide +kernel
theorem dX6_take_12 : decode cX6_take 12 = .ok (.bipush 6, 2) := by decide +kernel
theorem dX6_take_14 : decode cX6_take 14 = .ok (.invokevirtual 44, 3) := by decide +kernel
theorem dX6_take_17 : decode cX6_take 17 = .ok (.iconst (-1), 1) := by decide +kernel
theorem dX6_take_18 : decode cX6_take 18 = .ok (.if_icmp .ne 6, 3) := by decide +kernel
theorem dX6_take_21 : decode cX6_take 21 = .ok (.bipush (-2), 2) := by decide +kernel
theorem dX6_take_23 : decode cX6_take 23 = .ok (.ireturn, 1) := by decide +kernel
theorem dX6_take_24 : decode cX6_take 24 = .ok (.aload_n 0, 1) := by decide +kernel
theorem dX6_take_25 : decode cX6_take 25 = .ok (.invokevirtual 54, 3) := by decide +kernel
theorem dX6_take_28 : decode cX6_take 28 = .ok (.aload_n 0, 1) := by decide +kernel
theorem dX6_take_29 : decode cX6_take 29 = .ok (.iload_n 1, 1) := by decide +kernel
theorem dX6_take_30 : decode cX6_take 30 = .ok (.bipush 7, 2) := by decide +kernel
theorem dX6_take_32 : decode cX6_take 32 = .ok (.invokevirtual 44, 3) := by decide +kernel
theorem dX6_take_35 : decode cX6_take 35 = .ok (.istore_n 2, 1) := by decide +kernel
theorem dX6_take_36 : decode cX6_take 36 = .ok (.aload_n 0, 1) := by decide +kernel
theorem dX6_take_37 : decode cX6_take 37 = .ok (.iconst 5, 1) := by decide +kernel
theorem dX6_take_38 : decode cX6_take 38 = .ok (.aload_n 0, 1) := by decide +kernel
theorem dX6_take_39 : decode cX6_take 39 = .ok (.iload_n 1, 1) := by decide +kernel
theorem dX6_take_40 : decode cX6_take 40 = .ok (.iconst 2, 1) := by decide +kernel
theorem dX6_take_41 : decode cX6_take 41 = .ok (.aload_n 0, 1) := by decide +kernel
theorem dX6_take_42 : decode cX6_take 42 = .ok (.invokevirtual 65, 3) := by decide +kernel
theorem dX6_take_45 : decode cX6_take 45 = .ok (.iadd, 1) := by decide +kernel
theorem dX6_take_46 : decode cX6_take 46 = .ok (.invokevirtual 44, 3) := by decide +kernel
theorem dX6_take_49 : decode cX6_take 49 = .ok (.ineg, 1) := by decide +kernel
theorem dX6_take_50 : decode cX6_take 50 = .ok (.aload_n 0, 1) := by decide +kernel
theorem dX6_take_51 : decode cX6_take 51 = .ok (.iload_n 1, 1) := by decide +kernel
theorem dX6_take_52 : decode cX6_take 52 = .ok (.bipush 6, 2) := by decide +kernel
theorem dX6_take_54 : decode cX6_take 54 = .ok (.invokevirtual 44, 3) := by decide +kernel
theorem dX6_take_57 : decode cX6_take 57 = .ok (.invokestatic 51, 3) := by decide +kernel
theorem dX6_take_60 : decode cX6_take 60 = .ok (.imul, 1) := by decide +kernel
theorem dX6_take_61 : decode cX6_take 61 = .ok (.invokevirtual 72, 3) := by decide +kernel
theorem dX6_take_64 : decode cX6_take 64 = .ok (.aload_n 0, 1) := by decide +kernel
theorem dX6_take_65 : decode cX6_take 65 = .ok (.iload_n 1, 1) := by decide +kernel
theorem dX6_take_66 : decode cX6_take 66 = .ok (.bipush 8, 2) := by decide +kernel
theorem dX6_take_68 : decode cX6_take 68 = .ok (.aload_n 0, 1) := by decide +kernel
theorem dX6_take_69 : decode cX6_take 69 = .ok (.iload_n 1, 1) := by decide +kernel
theorem dX6_take_70 : decode cX6_take 70 = .ok (.bipush 8, 2) := by decide +kernel
theorem dX6_take_72 : decode cX6_take 72 = .ok (.invokevirtual 44, 3) := by decide +kernel
theorem dX6_take_75 : decode cX6_take 75 = .ok (.iload_n 2, 1) := by decide +kernel
theorem dX6_take_76 : decode cX6_take 76 = .ok (.iadd, 1) := by decide +kernel
theorem dX6_take_77 : decode cX6_take 77 = .ok (.invokevirtual 57, 3) := by decide +kernel
theorem dX6_take_80 : decode cX6_take 80 = .ok (.aload_n 0, 1) := by decide +kernel
theorem dX6_take_81 : decode cX6_take 81 = .ok (.iload_n 1, 1) := by decide +kernel
theorem dX6_take_82 : decode cX6_take 82 = .ok (.bipush 7, 2) := by decide +kernel
theorem dX6_take_84 : decode cX6_take 84 = .ok (.iconst 0, 1) := by decide +kernel
theorem dX6_take_85 : decode cX6_take 85 = .ok (.invokevirtual 57, 3) := by decide +kernel
theorem dX6_take_88 : decode cX6_take 88 = .ok (.aload_n 0, 1) := by decide +kernel
theorem dX6_take_89 : decode cX6_take 89 = .ok (.iload_n 1, 1) := by decide +kernel
theorem dX6_take_90 : decode cX6_take 90 = .ok (.bipush 6, 2) := by decide +kernel
theorem dX6_take_92 : decode cX6_take 92 = .ok (.iconst (-1), 1) := by decide +kernel
theorem dX6_take_93 : decode cX6_take 93 = .ok (.invokevirtual 57, 3) := by decide +kernel
theorem dX6_take_96 : decode cX6_take 96 = .ok (.iload_n 2, 1) := by decide +kernel
theorem dX6_take_97 : decode cX6_take 97 = .ok (.ireturn, 1) := by decide +kernel
set_option maxRecDepth 20000 in
theorem ggX6_highest_X6_of : GoodIn wsX6_highest wsX6_of := goodIn_r _ [5, 6, 10, 11, 12, 13, 14, 15, 16, 17, 18, 19, 20, 21, 22, 23, 24, 25, 26] (by decide +kernel) (by decide +kernel)
set_option maxRecDepth 20000 in
theorem gX6_highest_X6_of : GoodIn wsX6_highest (wsV RX6 44 RX6 yX6_of wsX6_of) := goodIn_app (goodIn_of _ (by decide +kernel)) ggX6_highest_X6_of
set_option maxRecDepth 20000 in
theorem ggX6_highest_X6_most : GoodIn wsX6_highest wsX6_most := goodIn_r _ [9] (by decide +kernel) (by decide +kernel)
set_option maxRecDepth 20000 in
theorem gX6_highest_X6_most : GoodIn wsX6_highest (va_wsS RX6 48 yX6_most wsX6_most) := goodIn_app (goodIn_of _ (by decide +kernel)) ggX6_highest_X6_most
theorem dX6_highest_0 : decode cX6_highest 0 = .ok (.iconst 0, 1) := by decide +kernel
theorem dX6_highest_1 : decode cX6_highest 1 = .ok (.istore_n 2, 1) := by decide +kernel
theorem dX6_highest_2 : decode cX6_highest 2 = .ok (.iload_n 2, 1) := by decide +kernel
theorem dX6_highest_3 : decode cX6_highest 3 = .ok (.iconst 5, 1) := by decide +kernel
theorem dX6_highest_4 : decode cX6_highest 4 = .ok (.if_icmp .ge 24, 3) := by decide +kernel
theorem dX6_highest_7 : decode cX6_highest 7 = .ok (.aload_n 0, 1) := by decide +kernel
theorem dX6_highest_8 : decode cX6_highest 8 = .ok (.iload_n 1, 1) := by decide +kernel
theorem dX6_highest_9 : decode cX6_highest 9 = .ok (.iconst 0, 1) := by decide +kernel
theorem dX6_highest_10 : decode cX6_highest 10 = .ok (.invokevirtual 44, 3) := by decide +kernel
theorem dX6_highest_13 : decode cX6_highest 13 = .ok (.iload_n 2, 1) := by decide +kernel
theorem dX6_highest_14 : decode cX6_highest 14 = .ok (.iconst 1, 1) := by decide +kernel
theorem dX6_highest_15 : decode cX6_highest 15 = .ok (.iadd, 1) := by decide +kernel
theorem dX6_highest_16 : decode cX6_highest 16 = .ok (.invokestatic 48, 3) := by decide +kernel
theorem dX6_highest_19 : decode cX6_highest 19 = .ok (.if_icmp .gt 9, 3) := by decide +kernel
theorem dX6_highest_22 : decode cX6_highest 22 = .ok (.iinc 2 1, 3) := by decide +kernel
theorem dX6_highest_25 : decode cX6_highest 25 = .ok (.goto (-23), 3) := by decide +kernel
theorem dX6_highest_28 : decode cX6_highest 28 = .ok (.iload_n 2, 1) := by decide +kernel
theorem dX6_highest_29 : decode cX6_highest 29 = .ok (.ireturn, 1) := by decide +kernel
set_option maxRecDepth 20000 in
theorem ggX6_goodOf_X6_isGood : GoodIn wsX6_goodOf wsX6_isGood := goodIn_r _ [5, 6, 7, 8, 4, 9, 21, 22, 23, 24, 25, 26, 27, 28, 29, 30, 31, 32, 33, 34, 35, 36, 37] (by decide +kernel) (by decide +kernel)
set_option maxRecDepth 20000 in
theorem gX6_goodOf_X6_isGood : GoodIn wsX6_goodOf (wsV RX6 61 RX6 yX6_isGood wsX6_isGood) := goodIn_app (goodIn_of _ (by decide +kernel)) ggX6_goodOf_X6_isGood
set_option maxRecDepth 20000 in
theorem ggX6_goodOf_X6_in : GoodIn wsX6_goodOf wsX6_in := goodIn_r _ [9] (by decide +kernel) (by decide +kernel)
set_option maxRecDepth 20000 in
theorem gX6_goodOf_X6_in : GoodIn wsX6_goodOf (va_wsS RX6 36 yX6_in wsX6_in) := goodIn_app (goodIn_of _ (by decide +kernel)) ggX6_goodOf_X6_in
set_option maxRecDepth 20000 in
theorem ggX6_goodOf_X6_highest : GoodIn wsX6_goodOf wsX6_highest := goodIn_r _ [13, 14, 15, 16, 4, 17, 6, 18, 19, 20, 21, 22, 23, 24, 25, 26, 27, 28, 29, 30, 31, 32, 33, 34, 35, 36, 37] (by decide +kernel) (by decide +kernel)
set_option maxRecDepth 20000 in
theorem gX6_goodOf_X6_highest : GoodIn wsX6_goodOf (wsV RX6 87 RX6 yX6_highest wsX6_highest) := goodIn_app (goodIn_of _ (by decide +kernel)) ggX6_goodOf_X6_highest
set_option maxRecDepth 20000 in
theorem ggX6_goodOf_X6_of : GoodIn wsX6_goodOf wsX6_of := goodIn_r _ [17, 6, 21, 22, 23, 24, 25, 26, 27, 28, 29, 30, 31, 32, 33, 34, 35, 36, 37] (by decide +kernel) (by decide +kernel)
set_option maxRecDepth 20000 in
theorem gX6_goodOf_X6_of : GoodIn wsX6_goodOf (wsV RX6 44 RX6 yX6_of wsX6_of) := goodIn_app (goodIn_of _ (by decide +kernel)) ggX6_goodOf_X6_of
theorem dX6_goodOf_0 : decode cX6_goodOf 0 = .ok (.aload_n 0, 1) := by decide +kernel
theorem dX6_goodOf_1 : decode cX6_goodOf 1 = .ok (.iload_n 1, 1) := by decide +kernel
theorem dX6_goodOf_2 : decode cX6_goodOf 2 = .ok (.invokevirtual 61, 3) := by decide +kernel
theorem dX6_goodOf_5 : decode cX6_goodOf 5 = .ok (.ifCond .eq 13, 3) := by decide +kernel
theorem dX6_goodOf_8 : decode cX6_goodOf 8 = .ok (.iload_n 2, 1) := by decide +kernel
theorem dX6_goodOf_9 : decode cX6_goodOf 9 = .ok (.iconst 0, 1) := by decide +kernel
theorem dX6_goodOf_10 : decode cX6_goodOf 10 = .ok (.bipush 11, 2) := by decide +kernel
theorem dX6_goodOf_12 : decode cX6_goodOf 12 = .ok (.invokestatic 36, 3) := by decide +kernel
theorem dX6_goodOf_15 : decode cX6_goodOf 15 = .ok (.ifCond .ne 5, 3) := by decide +kernel
theorem dX6_goodOf_18 : decode cX6_goodOf 18 = .ok (.iconst (-1), 1) := by decide +kernel
theorem dX6_goodOf_19 : decode cX6_goodOf 19 = .ok (.ireturn, 1) := by decide +kernel
theorem dX6_goodOf_20 : decode cX6_goodOf 20 = .ok (.iload_n 2, 1) := by decide +kernel
theorem dX6_goodOf_21 : decode cX6_goodOf 21 = .ok (.bipush 11, 2) := by decide +kernel
theorem dX6_goodOf_23 : decode cX6_goodOf 23 = .ok (.if_icmp .ne 9, 3) := by decide +kernel
theorem dX6_goodOf_26 : decode cX6_goodOf 26 = .ok (.aload_n 0, 1) := by decide +kernel
theorem dX6_goodOf_27 : decode cX6_goodOf 27 = .ok (.iload_n 1, 1) := by decide +kernel
theorem dX6_goodOf_28 : decode cX6_goodOf 28 = .ok (.invokevirtual 87, 3) := by decide +kernel
theorem dX6_goodOf_31 : decode cX6_goodOf 31 = .ok (.ireturn, 1) := by decide +kernel
theorem dX6_goodOf_32 : decode cX6_goodOf 32 = .ok (.iload_n 2, 1) := by decide +kernel
theorem dX6_goodOf_33 : decode cX6_goodOf 33 = .ok (.bipush 6, 2) := by decide +kernel
theorem dX6_goodOf_35 : decode cX6_goodOf 35 = .ok (.if_icmp .ne 19, 3) := by decide +kernel
theorem dX6_goodOf_38 : decode cX6_goodOf 38 = .ok (.aload_n 0, 1) := by decide +kernel
theorem dX6_goodOf_39 : decode cX6_goodOf 39 = .ok (.iload_n 1, 1) := by decide +kernel
theorem dX6_goodOf_40 : decode cX6_goodOf 40 = .ok (.bipush 6, 2) := by decide +kernel
theorem dX6_goodOf_42 : decode cX6_goodOf 42 = .ok (.invokevirtual 44, 3) := by decide +kernel
theorem dX6_goodOf_45 : decode cX6_goodOf 45 = .ok (.iconst (-1), 1) := by decide +kernel
theorem dX6_goodOf_46 : decode cX6_goodOf 46 = .ok (.if_icmp .ne 8, 3) := by decide +kernel
theorem dX6_goodOf_49 : decode cX6_goodOf 49 = .ok (.bipush (-4), 2) := by decide +kernel
theorem dX6_goodOf_51 : decode cX6_goodOf 51 = .ok (.goto 9, 3) := by decide +kernel
theorem dX6_goodOf_54 : decode cX6_goodOf 54 = .ok (.aload_n 0, 1) := by decide +kernel
theorem dX6_goodOf_55 : decode cX6_goodOf 55 = .ok (.iload_n 1, 1) := by decide +kernel
theorem dX6_goodOf_56 : decode cX6_goodOf 56 = .ok (.iload_n 2, 1) := by decide +kernel
theorem dX6_goodOf_57 : decode cX6_goodOf 57 = .ok (.invokevirtual 44, 3) := by decide +kernel
theorem dX6_goodOf_60 : decode cX6_goodOf 60 = .ok (.ireturn, 1) := by decide +kernel
set_option maxRecDepth 20000 in
theorem ggX6_slotOf_X6_isSlot : GoodIn wsX6_slotOf wsX6_isSlot := goodIn_r _ [4, 5, 6, 3, 7] (by decide +kernel) (by decide +kernel)
set_option maxRecDepth 20000 in
theorem gX6_slotOf_X6_isSlot : GoodIn wsX6_slotOf (va_wsS RX6 77 yX6_isSlot wsX6_isSlot) := goodIn_app (goodIn_of _ (by decide +kernel)) ggX6_slotOf_X6_isSlot
set_option maxRecDepth 20000 in
theorem ggX6_slotOf_X6_in : GoodIn wsX6_slotOf wsX6_in := goodIn_r _ [7] (by decide +kernel) (by decide +kernel)
set_option maxRecDepth 20000 in
theorem gX6_slotOf_X6_in : GoodIn wsX6_slotOf (va_wsS RX6 36 yX6_in wsX6_in) := goodIn_app (goodIn_of _ (by decide +kernel)) ggX6_slotOf_X6_in
set_option maxRecDepth 20000 in
theorem ggX6_slotOf_X6_goodAt : GoodIn wsX6_slotOf wsX6_goodAt := goodIn_r _ [11, 12, 13, 14, 15, 3, 16, 26, 27, 28, 29, 30, 31, 32, 33, 34, 35, 36, 37, 38, 39, 40, 41, 42] (by decide +kernel) (by decide +kernel)
set_option maxRecDepth 20000 in
theorem gX6_slotOf_X6_goodAt : GoodIn wsX6_slotOf (wsV RX6 80 RX6 yX6_goodAt wsX6_goodAt) := goodIn_app (goodIn_of _ (by decide +kernel)) ggX6_slotOf_X6_goodAt
set_option maxRecDepth 20000 in
theorem ggX6_slotOf_X6_walk : GoodIn wsX6_slotOf wsX6_walk := goodIn_r _ [19, 20, 21, 3, 22] (by decide +kernel) (by decide +kernel)
set_option maxRecDepth 20000 in
theorem gX6_slotOf_X6_walk : GoodIn wsX6_slotOf (va_wsS RX6 51 yX6_walk wsX6_walk) := goodIn_app (goodIn_of _ (by decide +kernel)) ggX6_slotOf_X6_walk
set_option maxRecDepth 20000 in
theorem ggX6_slotOf_X6_most : GoodIn wsX6_slotOf wsX6_most := goodIn_r _ [25] (by decide +kernel) (by decide +kernel)
set_option maxRecDepth 20000 in
theorem gX6_slotOf_X6_most : GoodIn wsX6_slotOf (va_wsS RX6 48 yX6_most wsX6_most) := goodIn_app (goodIn_of _ (by decide +kernel)) ggX6_slotOf_X6_most
theorem dX6_slotOf_0 : decode cX6_slotOf 0 = .ok (.iload_n 1, 1) := by decide +kernel
theorem dX6_slotOf_1 : decode cX6_slotOf 1 = .ok (.invokestatic 77, 3) := by decide +kernel
theorem dX6_slotOf_4 : decode cX6_slotOf 4 = .ok (.ifCond .eq 12, 3) := by decide +kernel
theorem dX6_slotOf_7 : decode cX6_slotOf 7 = .ok (.iload_n 2, 1) := by decide +kernel
theorem dX6_slotOf_8 : decode cX6_slotOf 8 = .ok (.iconst 0, 1) := by decide +kernel
theorem dX6_slotOf_9 : decode cX6_slotOf 9 = .ok (.iconst 2, 1) := by decide +kernel
theorem dX6_slotOf_10 : decode cX6_slotOf 10 = .ok (.invokestatic 36, 3) := by decide +kernel
theorem dX6_slotOf_13 : decode cX6_slotOf 13 = .ok (.ifCond .ne 5, 3) := by decide +kernel
theorem dX6_slotOf_16 : decode cX6_slotOf 16 = .ok (.iconst (-1), 1) := by decide +kernel
theorem dX6_slotOf_17 : decode cX6_slotOf 17 = .ok (.ireturn, 1) := by decide +kernel
theorem dX6_slotOf_18 : decode cX6_slotOf 18 = .ok (.aload_n 0, 1) := by decide +kernel
theorem dX6_slotOf_19 : decode cX6_slotOf 19 = .ok (.iload_n 1, 1) := by decide +kernel
theorem dX6_slotOf_20 : decode cX6_slotOf 20 = .ok (.invokevirtual 80, 3) := by decide +kernel
theorem dX6_slotOf_23 : decode cX6_slotOf 23 = .ok (.istore_n 3, 1) := by decide +kernel
theorem dX6_slotOf_24 : decode cX6_slotOf 24 = .ok (.iload_n 2, 1) := by decide +kernel
theorem dX6_slotOf_25 : decode cX6_slotOf 25 = .ok (.iconst 1, 1) := by decide +kernel
theorem dX6_slotOf_26 : decode cX6_slotOf 26 = .ok (.if_icmp .ne 10, 3) := by decide +kernel
theorem dX6_slotOf_29 : decode cX6_slotOf 29 = .ok (.iload_n 1, 1) := by decide +kernel
theorem dX6_slotOf_30 : decode cX6_slotOf 30 = .ok (.invokestatic 51, 3) := by decide +kernel
theorem dX6_slotOf_33 : decode cX6_slotOf 33 = .ok (.goto 29, 3) := by decide +kernel
theorem dX6_slotOf_36 : decode cX6_slotOf 36 = .ok (.iload_n 2, 1) := by decide +kernel
theorem dX6_slotOf_37 : decode cX6_slotOf 37 = .ok (.iconst 2, 1) := by decide +kernel
theorem dX6_slotOf_38 : decode cX6_slotOf 38 = .ok (.if_icmp .ne 13, 3) := by decide +kernel
theorem dX6_slotOf_41 : decode cX6_slotOf 41 = .ok (.iload_n 1, 1) := by decide +kernel
theorem dX6_slotOf_42 : decode cX6_slotOf 42 = .ok (.bipush 6, 2) := by decide +kernel
theorem dX6_slotOf_44 : decode cX6_slotOf 44 = .ok (.irem, 1) := by decide +kernel
theorem dX6_slotOf_45 : decode cX6_slotOf 45 = .ok (.invokestatic 48, 3) := by decide +kernel
theorem dX6_slotOf_48 : decode cX6_slotOf 48 = .ok (.goto 14, 3) := by decide +kernel
theorem dX6_slotOf_51 : decode cX6_slotOf 51 = .ok (.iload_n 3, 1) := by decide +kernel
theorem dX6_slotOf_52 : decode cX6_slotOf 52 = .ok (.iconst (-1), 1) := by decide +kernel
theorem dX6_slotOf_53 : decode cX6_slotOf 53 = .ok (.if_icmp .ne 8, 3) := by decide +kernel
theorem dX6_slotOf_56 : decode cX6_slotOf 56 = .ok (.bipush (-4), 2) := by decide +kernel
theorem dX6_slotOf_58 : decode cX6_slotOf 58 = .ok (.goto 4, 3) := by decide +kernel
theorem dX6_slotOf_61 : decode cX6_slotOf 61 = .ok (.iload_n 3, 1) := by decide +kernel
theorem dX6_slotOf_62 : decode cX6_slotOf 62 = .ok (.ireturn, 1) := by decide +kernel
set_option maxRecDepth 20000 in
theorem ggX6_nearest_X6_isGood : GoodIn wsX6_nearest wsX6_isGood := goodIn_r _ [5, 6, 7, 8, 4, 9, 31, 32, 33, 34, 35, 36, 37, 38, 39, 40, 41, 42, 43, 44, 45, 46, 47] (by decide +kernel) (by decide +kernel)
set_option maxRecDepth 20000 in
theorem gX6_nearest_X6_isGood : GoodIn wsX6_nearest (wsV RX6 61 RX6 yX6_isGood wsX6_isGood) := goodIn_app (goodIn_of _ (by decide +kernel)) ggX6_nearest_X6_isGood
set_option maxRecDepth 20000 in
theorem ggX6_nearest_X6_goodAt : GoodIn wsX6_nearest wsX6_goodAt := goodIn_r _ [13, 6, 14, 15, 16, 4, 17, 31, 32, 33, 34, 35, 36, 37, 38, 39, 40, 41, 42, 43, 44, 45, 46, 47] (by decide +kernel) (by decide +kernel)
set_option maxRecDepth 20000 in
theorem gX6_nearest_X6_goodAt : GoodIn wsX6_nearest (wsV RX6 80 RX6 yX6_goodAt wsX6_goodAt) := goodIn_app (goodIn_of _ (by decide +kernel)) ggX6_nearest_X6_goodAt
set_option maxRecDepth 20000 in
theorem ggX6_nearest_X6_mayBe : GoodIn wsX6_nearest wsX6_mayBe := goodIn_r _ [21, 14, 15, 16, 4, 17, 6, 22, 23, 24, 31, 32, 33, 34, 35, 36, 37, 38, 39, 40, 41, 42, 43, 44, 45, 46, 47] (by decide +kernel) (by decide +kernel)
set_option maxRecDepth 20000 in
theorem gX6_nearest_X6_mayBe : GoodIn wsX6_nearest (wsV RX6 83 RX6 yX6_mayBe wsX6_mayBe) := goodIn_app (goodIn_of _ (by decide +kernel)) ggX6_nearest_X6_mayBe
set_option maxRecDepth 20000 in
theorem ggX6_nearest_X6_walk : GoodIn wsX6_nearest wsX6_walk := goodIn_r _ [27, 28, 29, 4, 30] (by decide +kernel) (by decide +kernel)
set_option maxRecDepth 20000 in
theorem gX6_nearest_X6_walk : GoodIn wsX6_nearest (va_wsS RX6 51 yX6_walk wsX6_walk) := goodIn_app (goodIn_of _ (by decide +kernel)) ggX6_nearest_X6_walk
theorem dX6_nearest_0 : decode cX6_nearest 0 = .ok (.aload_n 0, 1) := by decide +kernel
theorem dX6_nearest_1 : decode cX6_nearest 1 = .ok (.iload_n 1, 1) := by decide +kernel
theorem dX6_nearest_2 : decode cX6_nearest 2 = .ok (.invokevirtual 61, 3) := by decide +kernel
theorem dX6_nearest_5 : decode cX6_nearest 5 = .ok (.ifCond .ne 5, 3) := by decide +kernel
theorem dX6_nearest_8 : decode cX6_nearest 8 = .ok (.iconst (-1), 1) := by decide +kernel
theorem dX6_nearest_9 : decode cX6_nearest 9 = .ok (.ireturn, 1) := by decide +kernel
theorem dX6_nearest_10 : decode cX6_nearest 10 = .ok (.bipush (-4), 2) := by decide +kernel
theorem dX6_nearest_12 : decode cX6_nearest 12 = .ok (.istore_n 2, 1) := by decide +kernel
theorem dX6_nearest_13 : decode cX6_nearest 13 = .ok (.iconst 0, 1) := by decide +kernel
theorem dX6_nearest_14 : decode cX6_nearest 14 = .ok (.istore_n 3, 1) := by decide +kernel
theorem dX6_nearest_15 : decode cX6_nearest 15 = .ok (.iload_n 3, 1) := by decide +kernel
theorem dX6_nearest_16 : decode cX6_nearest 16 = .ok (.bipush 60, 2) := by decide +kernel
theorem dX6_nearest_18 : decode cX6_nearest 18 = .ok (.if_icmp .ge 46, 3) := by decide +kernel
theorem dX6_nearest_21 : decode cX6_nearest 21 = .ok (.aload_n 0, 1) := by decide +kernel
theorem dX6_nearest_22 : decode cX6_nearest 22 = .ok (.iload_n 3, 1) := by decide +kernel
theorem dX6_nearest_23 : decode cX6_nearest 23 = .ok (.invokevirtual 80, 3) := by decide +kernel
theorem dX6_nearest_26 : decode cX6_nearest 26 = .ok (.iconst (-1), 1) := by decide +kernel
theorem dX6_nearest_27 : decode cX6_nearest 27 = .ok (.if_icmp .ne 31, 3) := by decide +kernel
theorem dX6_nearest_30 : decode cX6_nearest 30 = .ok (.aload_n 0, 1) := by decide +kernel
theorem dX6_nearest_31 : decode cX6_nearest 31 = .ok (.iload_n 1, 1) := by decide +kernel
theorem dX6_nearest_32 : decode cX6_nearest 32 = .ok (.iload_n 3, 1) := by decide +kernel
theorem dX6_nearest_33 : decode cX6_nearest 33 = .ok (.invokevirtual 83, 3) := by decide +kernel
theorem dX6_nearest_36 : decode cX6_nearest 36 = .ok (.ifCond .eq 22, 3) := by decide +kernel
theorem dX6_nearest_39 : decode cX6_nearest 39 = .ok (.iload_n 2, 1) := by decide +kernel
theorem dX6_nearest_40 : decode cX6_nearest 40 = .ok (.bipush (-4), 2) := by decide +kernel
theorem dX6_nearest_42 : decode cX6_nearest 42 = .ok (.if_icmp .eq 14, 3) := by decide +kernel
theorem dX6_nearest_45 : decode cX6_nearest 45 = .ok (.iload_n 3, 1) := by decide +kernel
theorem dX6_nearest_46 : decode cX6_nearest 46 = .ok (.invokestatic 51, 3) := by decide +kernel
theorem dX6_nearest_49 : decode cX6_nearest 49 = .ok (.iload_n 2, 1) := by decide +kernel
theorem dX6_nearest_50 : decode cX6_nearest 50 = .ok (.invokestatic 51, 3) := by decide +kernel
theorem dX6_nearest_53 : decode cX6_nearest 53 = .ok (.if_icmp .ge 5, 3) := by decide +kernel
theorem dX6_nearest_56 : decode cX6_nearest 56 = .ok (.iload_n 3, 1) := by decide +kernel
theorem dX6_nearest_57 : decode cX6_nearest 57 = .ok (.istore_n 2, 1) := by decide +kernel
theorem dX6_nearest_58 : decode cX6_nearest 58 = .ok (.iinc 3 1, 3) := by decide +kernel
theorem dX6_nearest_61 : decode cX6_nearest 61 = .ok (.goto (-46), 3) := by decide +kernel
theorem dX6_nearest_64 : decode cX6_nearest 64 = .ok (.iload_n 2, 1) := by decide +kernel
theorem dX6_nearest_65 : decode cX6_nearest 65 = .ok (.ireturn, 1) := by decide +kernel
set_option maxRecDepth 20000 in
theorem ggX6_room_X6_of : GoodIn wsX6_room wsX6_of := goodIn_r _ [5, 6, 7, 8, 9, 10, 11, 12, 13, 14, 15, 16, 17, 18, 19, 20, 21, 22, 23] (by decide +kernel) (by decide +kernel)
set_option maxRecDepth 20000 in
theorem gX6_room_X6_of : GoodIn wsX6_room (wsV RX6 44 RX6 yX6_of wsX6_of) := goodIn_app (goodIn_of _ (by decide +kernel)) ggX6_room_X6_of
theorem dX6_room_0 : decode cX6_room 0 = .ok (.aload_n 0, 1) := by decide +kernel
theorem dX6_room_1 : decode cX6_room 1 = .ok (.iload_n 1, 1) := by decide +kernel
theorem dX6_room_2 : decode cX6_room 2 = .ok (.iconst 1, 1) := by decide +kernel
theorem dX6_room_3 : decode cX6_room 3 = .ok (.invokevirtual 44, 3) := by decide +kernel
theorem dX6_room_6 : decode cX6_room 6 = .ok (.aload_n 0, 1) := by decide +kernel
theorem dX6_room_7 : decode cX6_room 7 = .ok (.iload_n 1, 1) := by decide +kernel
theorem dX6_room_8 : decode cX6_room 8 = .ok (.bipush 7, 2) := by decide +kernel
theorem dX6_room_10 : decode cX6_room 10 = .ok (.invokevirtual 44, 3) := by decide +kernel
theorem dX6_room_13 : decode cX6_room 13 = .ok (.isub, 1) := by decide +kernel
theorem dX6_room_14 : decode cX6_room 14 = .ok (.istore_n 2, 1) := by decide +kernel
theorem dX6_room_15 : decode cX6_room 15 = .ok (.iload_n 2, 1) := by decide +kernel
theorem dX6_room_16 : decode cX6_room 16 = .ok (.aload_n 0, 1) := by decide +kernel
theorem dX6_room_17 : decode cX6_room 17 = .ok (.iload_n 1, 1) := by decide +kernel
theorem dX6_room_18 : decode cX6_room 18 = .ok (.bipush 8, 2) := by decide +kernel
theorem dX6_room_20 : decode cX6_room 20 = .ok (.invokevirtual 44, 3) := by decide +kernel
theorem dX6_room_23 : decode cX6_room 23 = .ok (.if_icmp .ge 7, 3) := by decide +kernel
theorem dX6_room_26 : decode cX6_room 26 = .ok (.iload_n 2, 1) := by decide +kernel
theorem dX6_room_27 : decode cX6_room 27 = .ok (.goto 10, 3) := by decide +kernel
theorem dX6_room_30 : decode cX6_room 30 = .ok (.aload_n 0, 1) := by decide +kernel
theorem dX6_room_31 : decode cX6_room 31 = .ok (.iload_n 1, 1) := by decide +kernel
theorem dX6_room_32 : decode cX6_room 32 = .ok (.bipush 8, 2) := by decide +kernel
theorem dX6_room_34 : decode cX6_room 34 = .ok (.invokevirtual 44, 3) := by decide +kernel
theorem dX6_room_37 : decode cX6_room 37 = .ok (.ireturn, 1) := by decide +kernel
set_option maxRecDepth 20000 in
theorem ggX6_brings_X6_of : GoodIn wsX6_brings wsX6_of := goodIn_r _ [6, 1, 21, 22, 23, 24, 25, 26, 27, 28, 29, 30, 31, 32, 33, 34, 35, 36, 37] (by decide +kernel) (by decide +kernel)
set_option maxRecDepth 20000 in
theorem gX6_brings_X6_of : GoodIn wsX6_brings (wsV RX6 44 RX6 yX6_of wsX6_of) := goodIn_app (goodIn_of _ (by decide +kernel)) ggX6_brings_X6_of
set_option maxRecDepth 20000 in
theorem ggX6_brings_X6_walk : GoodIn wsX6_brings wsX6_walk := goodIn_r _ [9, 10, 11, 5, 12] (by decide +kernel) (by decide +kernel)
set_option maxRecDepth 20000 in
theorem gX6_brings_X6_walk : GoodIn wsX6_brings (va_wsS RX6 51 yX6_walk wsX6_walk) := goodIn_app (goodIn_of _ (by decide +kernel)) ggX6_brings_X6_walk
set_option maxRecDepth 20000 in
theorem ggX6_brings_X6_lays : GoodIn wsX6_brings wsX6_lays := goodIn_r _ [16, 1, 21, 22, 23, 24, 25, 26, 27, 28, 29, 30, 31, 32, 33, 34, 35, 36, 37] (by decide +kernel) (by decide +kernel)
set_option maxRecDepth 20000 in
theorem gX6_brings_X6_lays : GoodIn wsX6_brings (wsV RX6 57 RX6 yX6_lays wsX6_lays) := goodIn_app (goodIn_of _ (by decide +kernel)) ggX6_brings_X6_lays
set_option maxRecDepth 20000 in
theorem ggX6_brings_X6_adds : GoodIn wsX6_brings wsX6_adds := goodIn_r _ [20, 1, 21, 22, 23, 24, 25, 26, 27, 28, 29, 30, 31, 32, 33, 34, 35, 36, 37] (by decide +kernel) (by decide +kernel)
set_option maxRecDepth 20000 in
theorem gX6_brings_X6_adds : GoodIn wsX6_brings (wsV RX6 72 RX6 yX6_adds wsX6_adds) := goodIn_app (goodIn_of _ (by decide +kernel)) ggX6_brings_X6_adds
theorem dX6_brings_0 : decode cX6_brings 0 = .ok (.aload_n 0, 1) := by decide +kernel
theorem dX6_brings_1 : decode cX6_brings 1 = .ok (.getfield 7, 3) := by decide +kernel
theorem dX6_brings_4 : decode cX6_brings 4 = .ok (.iconst 3, 1) := by decide +kernel
theorem dX6_brings_5 : decode cX6_brings 5 = .ok (.iaload, 1) := by decide +kernel
theorem dX6_brings_6 : decode cX6_brings 6 = .ok (.istore_n 3, 1) := by decide +kernel
theorem dX6_brings_7 : decode cX6_brings 7 = .ok (.iload_n 2, 1) := by decide +kernel
theorem dX6_brings_8 : decode cX6_brings 8 = .ok (.aload_n 0, 1) := by decide +kernel
theorem dX6_brings_9 : decode cX6_brings 9 = .ok (.iload_n 1, 1) := by decide +kernel
theorem dX6_brings_10 : decode cX6_brings 10 = .ok (.iconst 0, 1) := by decide +kernel
theorem dX6_brings_11 : decode cX6_brings 11 = .ok (.invokevirtual 44, 3) := by decide +kernel
theorem dX6_brings_14 : decode cX6_brings 14 = .ok (.imul, 1) := by decide +kernel
theorem dX6_brings_15 : decode cX6_brings 15 = .ok (.iload_n 3, 1) := by decide +kernel
theorem dX6_brings_16 : decode cX6_brings 16 = .ok (.iadd, 1) := by decide +kernel
theorem dX6_brings_17 : decode cX6_brings 17 = .ok (.iconst 1, 1) := by decide +kernel
theorem dX6_brings_18 : decode cX6_brings 18 = .ok (.isub, 1) := by decide +kernel
theorem dX6_brings_19 : decode cX6_brings 19 = .ok (.iload_n 3, 1) := by decide +kernel
theorem dX6_brings_20 : decode cX6_brings 20 = .ok (.idiv, 1) := by decide +kernel
theorem dX6_brings_21 : decode cX6_brings 21 = .ok (.istore 4, 2) := by decide +kernel
theorem dX6_brings_23 : decode cX6_brings 23 = .ok (.iload 4, 2) := by decide +kernel
theorem dX6_brings_25 : decode cX6_brings 25 = .ok (.aload_n 0, 1) := by decide +kernel
theorem dX6_brings_26 : decode cX6_brings 26 = .ok (.getfield 7, 3) := by decide +kernel
theorem dX6_brings_29 : decode cX6_brings 29 = .ok (.iconst 2, 1) := by decide +kernel
theorem dX6_brings_30 : decode cX6_brings 30 = .ok (.iaload, 1) := by decide +kernel
theorem dX6_brings_31 : decode cX6_brings 31 = .ok (.aload_n 0, 1) := by decide +kernel
theorem dX6_brings_32 : decode cX6_brings 32 = .ok (.iload_n 1, 1) := by decide +kernel
theorem dX6_brings_33 : decode cX6_brings 33 = .ok (.bipush 6, 2) := by decide +kernel
theorem dX6_brings_35 : decode cX6_brings 35 = .ok (.invokevirtual 44, 3) := by decide +kernel
theorem dX6_brings_38 : decode cX6_brings 38 = .ok (.invokestatic 51, 3) := by decide +kernel
theorem dX6_brings_41 : decode cX6_brings 41 = .ok (.iadd, 1) := by decide +kernel
theorem dX6_brings_42 : decode cX6_brings 42 = .ok (.imul, 1) := by decide +kernel
theorem dX6_brings_43 : decode cX6_brings 43 = .ok (.istore 5, 2) := by decide +kernel
theorem dX6_brings_45 : decode cX6_brings 45 = .ok (.aload_n 0, 1) := by decide +kernel
theorem dX6_brings_46 : decode cX6_brings 46 = .ok (.iload_n 1, 1) := by decide +kernel
theorem dX6_brings_47 : decode cX6_brings 47 = .ok (.bipush 8, 2) := by decide +kernel
theorem dX6_brings_49 : decode cX6_brings 49 = .ok (.aload_n 0, 1) := by decide +kernel
theorem dX6_brings_50 : decode cX6_brings 50 = .ok (.iload_n 1, 1) := by decide +kernel
theorem dX6_brings_51 : decode cX6_brings 51 = .ok (.bipush 8, 2) := by decide +kernel
theorem dX6_brings_53 : decode cX6_brings 53 = .ok (.invokevirtual 44, 3) := by decide +kernel
theorem dX6_brings_56 : decode cX6_brings 56 = .ok (.iload_n 2, 1) := by decide +kernel
theorem dX6_brings_57 : decode cX6_brings 57 = .ok (.isub, 1) := by decide +kernel
theorem dX6_brings_58 : decode cX6_brings 58 = .ok (.invokevirtual 57, 3) := by decide +kernel
theorem dX6_brings_61 : decode cX6_brings 61 = .ok (.aload_n 0, 1) := by decide +kernel
theorem dX6_brings_62 : decode cX6_brings 62 = .ok (.iload_n 1, 1) := by decide +kernel
theorem dX6_brings_63 : decode cX6_brings 63 = .ok (.bipush 7, 2) := by decide +kernel
theorem dX6_brings_65 : decode cX6_brings 65 = .ok (.aload_n 0, 1) := by decide +kernel
theorem dX6_brings_66 : decode cX6_brings 66 = .ok (.iload_n 1, 1) := by decide +kernel
theorem dX6_brings_67 : decode cX6_brings 67 = .ok (.bipush 7, 2) := by decide +kernel
theorem dX6_brings_69 : decode cX6_brings 69 = .ok (.invokevirtual 44, 3) := by decide +kernel
theorem dX6_brings_72 : decode cX6_brings 72 = .ok (.iload_n 2, 1) := by decide +kernel
theorem dX6_brings_73 : decode cX6_brings 73 = .ok (.iadd, 1) := by decide +kernel
theorem dX6_brings_74 : decode cX6_brings 74 = .ok (.invokevirtual 57, 3) := by decide +kernel
theorem dX6_brings_77 : decode cX6_brings 77 = .ok (.aload_n 0, 1) := by decide +kernel
theorem dX6_brings_78 : decode cX6_brings 78 = .ok (.iconst 3, 1) := by decide +kernel
theorem dX6_brings_79 : decode cX6_brings 79 = .ok (.iload 4, 2) := by decide +kernel
theorem dX6_brings_81 : decode cX6_brings 81 = .ok (.invokevirtual 72, 3) := by decide +kernel
theorem dX6_brings_84 : decode cX6_brings 84 = .ok (.aload_n 0, 1) := by decide +kernel
theorem dX6_brings_85 : decode cX6_brings 85 = .ok (.iconst 1, 1) := by decide +kernel
theorem dX6_brings_86 : decode cX6_brings 86 = .ok (.iload 5, 2) := by decide +kernel
theorem dX6_brings_88 : decode cX6_brings 88 = .ok (.invokevirtual 72, 3) := by decide +kernel
theorem dX6_brings_91 : decode cX6_brings 91 = .ok (.iload 5, 2) := by decide +kernel
theorem dX6_brings_93 : decode cX6_brings 93 = .ok (.ireturn, 1) := by decide +kernel
set_option maxRecDepth 20000 in
theorem ggX6_canPick_X6_of : GoodIn wsX6_canPick wsX6_of := goodIn_r _ [6, 1, 11, 12, 13, 14, 15, 16, 17, 18, 19, 20, 21, 22, 23, 24, 25, 26, 27] (by decide +kernel) (by decide +kernel)
set_option maxRecDepth 20000 in
theorem gX6_canPick_X6_of : GoodIn wsX6_canPick (wsV RX6 44 RX6 yX6_of wsX6_of) := goodIn_app (goodIn_of _ (by decide +kernel)) ggX6_canPick_X6_of
set_option maxRecDepth 20000 in
theorem ggX6_canPick_X6_room : GoodIn wsX6_canPick wsX6_room := goodIn_r _ [10, 2, 3, 4, 5, 6, 1, 11, 12, 13, 14, 15, 16, 17, 18, 19, 20, 21, 22, 23, 24, 25, 26, 27] (by decide +kernel) (by decide +kernel)
set_option maxRecDepth 20000 in
theorem gX6_canPick_X6_room : GoodIn wsX6_canPick (wsV RX6 90 RX6 yX6_room wsX6_room) := goodIn_app (goodIn_of _ (by decide +kernel)) ggX6_canPick_X6_room
theorem dX6_canPick_0 : decode cX6_canPick 0 = .ok (.aload_n 0, 1) := by decide +kernel
theorem dX6_canPick_1 : decode cX6_canPick 1 = .ok (.iload_n 1, 1) := by decide +kernel
theorem dX6_canPick_2 : decode cX6_canPick 2 = .ok (.bipush 7, 2) := by decide +kernel
theorem dX6_canPick_4 : decode cX6_canPick 4 = .ok (.invokevirtual 44, 3) := by decide +kernel
theorem dX6_canPick_7 : decode cX6_canPick 7 = .ok (.aload_n 0, 1) := by decide +kernel
theorem dX6_canPick_8 : decode cX6_canPick 8 = .ok (.getfield 7, 3) := by decide +kernel
theorem dX6_canPick_11 : decode cX6_canPick 11 = .ok (.iconst 4, 1) := by decide +kernel
theorem dX6_canPick_12 : decode cX6_canPick 12 = .ok (.iaload, 1) := by decide +kernel
theorem dX6_canPick_13 : decode cX6_canPick 13 = .ok (.iconst 1, 1) := by decide +kernel
theorem dX6_canPick_14 : decode cX6_canPick 14 = .ok (.if_icmp .ne 11, 3) := by decide +kernel
theorem dX6_canPick_17 : decode cX6_canPick 17 = .ok (.aload_n 0, 1) := by decide +kernel
theorem dX6_canPick_18 : decode cX6_canPick 18 = .ok (.iload_n 1, 1) := by decide +kernel
theorem dX6_canPick_19 : decode cX6_canPick 19 = .ok (.invokevirtual 90, 3) := by decide +kernel
theorem dX6_canPick_22 : decode cX6_canPick 22 = .ok (.goto 4, 3) := by decide +kernel
theorem dX6_canPick_25 : decode cX6_canPick 25 = .ok (.iconst 0, 1) := by decide +kernel
theorem dX6_canPick_26 : decode cX6_canPick 26 = .ok (.iadd, 1) := by decide +kernel
theorem dX6_canPick_27 : decode cX6_canPick 27 = .ok (.istore_n 3, 1) := by decide +kernel
theorem dX6_canPick_28 : decode cX6_canPick 28 = .ok (.aload_n 0, 1) := by decide +kernel
theorem dX6_canPick_29 : decode cX6_canPick 29 = .ok (.iload_n 1, 1) := by decide +kernel
theorem dX6_canPick_30 : decode cX6_canPick 30 = .ok (.bipush 6, 2) := by decide +kernel
theorem dX6_canPick_32 : decode cX6_canPick 32 = .ok (.invokevirtual 44, 3) := by decide +kernel
theorem dX6_canPick_35 : decode cX6_canPick 35 = .ok (.iconst (-1), 1) := by decide +kernel
theorem dX6_canPick_36 : decode cX6_canPick 36 = .ok (.if_icmp .eq 12, 3) := by decide +kernel
theorem dX6_canPick_39 : decode cX6_canPick 39 = .ok (.iload_n 3, 1) := by decide +kernel
theorem dX6_canPick_40 : decode cX6_canPick 40 = .ok (.iload_n 2, 1) := by decide +kernel
theorem dX6_canPick_41 : decode cX6_canPick 41 = .ok (.if_icmp .lt 7, 3) := by decide +kernel
theorem dX6_canPick_44 : decode cX6_canPick 44 = .ok (.iconst 1, 1) := by decide +kernel
theorem dX6_canPick_45 : decode cX6_canPick 45 = .ok (.goto 4, 3) := by decide +kernel
theorem dX6_canPick_48 : decode cX6_canPick 48 = .ok (.iconst 0, 1) := by decide +kernel
theorem dX6_canPick_49 : decode cX6_canPick 49 = .ok (.ireturn, 1) := by decide +kernel
set_option maxRecDepth 20000 in
theorem ggX6_picks_X6_of : GoodIn wsX6_picks wsX6_of := goodIn_r _ [5, 6, 29, 30, 31, 32, 33, 34, 35, 36, 37, 38, 39, 40, 41, 42, 43, 44, 45] (by decide +kernel) (by decide +kernel)
set_option maxRecDepth 20000 in
theorem gX6_picks_X6_of : GoodIn wsX6_picks (wsV RX6 44 RX6 yX6_of wsX6_of) := goodIn_app (goodIn_of _ (by decide +kernel)) ggX6_picks_X6_of
set_option maxRecDepth 20000 in
theorem ggX6_picks_X6_room : GoodIn wsX6_picks wsX6_room := goodIn_r _ [10, 1, 2, 3, 4, 5, 6, 29, 30, 31, 32, 33, 34, 35, 36, 37, 38, 39, 40, 41, 42, 43, 44, 45] (by decide +kernel) (by decide +kernel)
set_option maxRecDepth 20000 in
theorem gX6_picks_X6_room : GoodIn wsX6_picks (wsV RX6 90 RX6 yX6_room wsX6_room) := goodIn_app (goodIn_of _ (by decide +kernel)) ggX6_picks_X6_room
set_option maxRecDepth 20000 in
theorem ggX6_picks_X6_brings : GoodIn wsX6_picks wsX6_brings := goodIn_r _ [14, 6, 1, 2, 3, 4, 5, 15, 16, 17, 18, 19, 20, 21, 22, 23, 24, 25, 26, 27, 28, 29, 30, 31, 32, 33, 34, 35, 36, 37, 38, 39, 40, 41, 42, 43, 44, 45] (by decide +kernel) (by decide +kernel)
set_option maxRecDepth 20000 in
theorem gX6_picks_X6_brings : GoodIn wsX6_picks (wsV RX6 93 RX6 yX6_brings wsX6_brings) := goodIn_app (goodIn_of _ (by decide +kernel)) ggX6_picks_X6_brings
set_option maxRecDepth 20000 in
theorem ggX6_picks_X6_walk : GoodIn wsX6_picks wsX6_walk := goodIn_r _ [17, 18, 19, 4, 20] (by decide +kernel) (by decide +kernel)
set_option maxRecDepth 20000 in
theorem gX6_picks_X6_walk : GoodIn wsX6_picks (va_wsS RX6 51 yX6_walk wsX6_walk) := goodIn_app (goodIn_of _ (by decide +kernel)) ggX6_picks_X6_walk
set_option maxRecDepth 20000 in
theorem ggX6_picks_X6_lays : GoodIn wsX6_picks wsX6_lays := goodIn_r _ [24, 6, 29, 30, 31, 32, 33, 34, 35, 36, 37, 38, 39, 40, 41, 42, 43, 44, 45] (by decide +kernel) (by decide +kernel)
set_option maxRecDepth 20000 in
theorem gX6_picks_X6_lays : GoodIn wsX6_picks (wsV RX6 57 RX6 yX6_lays wsX6_lays) := goodIn_app (goodIn_of _ (by decide +kernel)) ggX6_picks_X6_lays
set_option maxRecDepth 20000 in
theorem ggX6_picks_X6_adds : GoodIn wsX6_picks wsX6_adds := goodIn_r _ [28, 6, 29, 30, 31, 32, 33, 34, 35, 36, 37, 38, 39, 40, 41, 42, 43, 44, 45] (by decide +kernel) (by decide +kernel)
set_option maxRecDepth 20000 in
theorem gX6_picks_X6_adds : GoodIn wsX6_picks (wsV RX6 72 RX6 yX6_adds wsX6_adds) := goodIn_app (goodIn_of _ (by decide +kernel)) ggX6_picks_X6_adds
theorem dX6_picks_0 : decode cX6_picks 0 = .ok (.aload_n 0, 1) := by decide +kernel
theorem dX6_picks_1 : decode cX6_picks 1 = .ok (.iload_n 1, 1) := by decide +kernel
theorem dX6_picks_2 : decode cX6_picks 2 = .ok (.bipush 7, 2) := by decide +kernel
theorem dX6_picks_4 : decode cX6_picks 4 = .ok (.invokevirtual 44, 3) := by decide +kernel
theorem dX6_picks_7 : decode cX6_picks 7 = .ok (.iload_n 2, 1) := by decide +kernel
theorem dX6_picks_8 : decode cX6_picks 8 = .ok (.if_icmp .ge 16, 3) := by decide +kernel
theorem dX6_picks_11 : decode cX6_picks 11 = .ok (.aload_n 0, 1) := by decide +kernel
theorem dX6_picks_12 : decode cX6_picks 12 = .ok (.iload_n 1, 1) := by decide +kernel
theorem dX6_picks_13 : decode cX6_picks 13 = .ok (.aload_n 0, 1) := by decide +kernel
theorem dX6_picks_14 : decode cX6_picks 14 = .ok (.iload_n 1, 1) := by decide +kernel
theorem dX6_picks_15 : decode cX6_picks 15 = .ok (.invokevirtual 90, 3) := by decide +kernel
theorem dX6_picks_18 : decode cX6_picks 18 = .ok (.invokevirtual 93, 3) := by decide +kernel
theorem dX6_picks_21 : decode cX6_picks 21 = .ok (.goto 4, 3) := by decide +kernel
theorem dX6_picks_24 : decode cX6_picks 24 = .ok (.iconst 0, 1) := by decide +kernel
theorem dX6_picks_25 : decode cX6_picks 25 = .ok (.istore_n 3, 1) := by decide +kernel
theorem dX6_picks_26 : decode cX6_picks 26 = .ok (.aload_n 0, 1) := by decide +kernel
theorem dX6_picks_27 : decode cX6_picks 27 = .ok (.iload_n 1, 1) := by decide +kernel
theorem dX6_picks_28 : decode cX6_picks 28 = .ok (.bipush 6, 2) := by decide +kernel
theorem dX6_picks_30 : decode cX6_picks 30 = .ok (.invokevirtual 44, 3) := by decide +kernel
theorem dX6_picks_33 : decode cX6_picks 33 = .ok (.invokestatic 51, 3) := by decide +kernel
theorem dX6_picks_36 : decode cX6_picks 36 = .ok (.istore 4, 2) := by decide +kernel
theorem dX6_picks_38 : decode cX6_picks 38 = .ok (.aload_n 0, 1) := by decide +kernel
theorem dX6_picks_39 : decode cX6_picks 39 = .ok (.iload_n 1, 1) := by decide +kernel
theorem dX6_picks_40 : decode cX6_picks 40 = .ok (.bipush 7, 2) := by decide +kernel
theorem dX6_picks_42 : decode cX6_picks 42 = .ok (.aload_n 0, 1) := by decide +kernel
theorem dX6_picks_43 : decode cX6_picks 43 = .ok (.iload_n 1, 1) := by decide +kernel
theorem dX6_picks_44 : decode cX6_picks 44 = .ok (.bipush 7, 2) := by decide +kernel
theorem dX6_picks_46 : decode cX6_picks 46 = .ok (.invokevirtual 44, 3) := by decide +kernel
theorem dX6_picks_49 : decode cX6_picks 49 = .ok (.iload_n 2, 1) := by decide +kernel
theorem dX6_picks_50 : decode cX6_picks 50 = .ok (.isub, 1) := by decide +kernel
theorem dX6_picks_51 : decode cX6_picks 51 = .ok (.invokevirtual 57, 3) := by decide +kernel
theorem dX6_picks_54 : decode cX6_picks 54 = .ok (.aload_n 0, 1) := by decide +kernel
theorem dX6_picks_55 : decode cX6_picks 55 = .ok (.iload_n 1, 1) := by decide +kernel
theorem dX6_picks_56 : decode cX6_picks 56 = .ok (.bipush 9, 2) := by decide +kernel
theorem dX6_picks_58 : decode cX6_picks 58 = .ok (.aload_n 0, 1) := by decide +kernel
theorem dX6_picks_59 : decode cX6_picks 59 = .ok (.iload_n 1, 1) := by decide +kernel
theorem dX6_picks_60 : decode cX6_picks 60 = .ok (.bipush 9, 2) := by decide +kernel
theorem dX6_picks_62 : decode cX6_picks 62 = .ok (.invokevirtual 44, 3) := by decide +kernel
theorem dX6_picks_65 : decode cX6_picks 65 = .ok (.iconst 1, 1) := by decide +kernel
theorem dX6_picks_66 : decode cX6_picks 66 = .ok (.iadd, 1) := by decide +kernel
theorem dX6_picks_67 : decode cX6_picks 67 = .ok (.invokevirtual 57, 3) := by decide +kernel
theorem dX6_picks_70 : decode cX6_picks 70 = .ok (.aload_n 0, 1) := by decide +kernel
theorem dX6_picks_71 : decode cX6_picks 71 = .ok (.iload_n 1, 1) := by decide +kernel
theorem dX6_picks_72 : decode cX6_picks 72 = .ok (.bipush 10, 2) := by decide +kernel
theorem dX6_picks_74 : decode cX6_picks 74 = .ok (.aload_n 0, 1) := by decide +kernel
theorem dX6_picks_75 : decode cX6_picks 75 = .ok (.iload_n 1, 1) := by decide +kernel
theorem dX6_picks_76 : decode cX6_picks 76 = .ok (.bipush 10, 2) := by decide +kernel
theorem dX6_picks_78 : decode cX6_picks 78 = .ok (.invokevirtual 44, 3) := by decide +kernel
theorem dX6_picks_81 : decode cX6_picks 81 = .ok (.iload_n 2, 1) := by decide +kernel
theorem dX6_picks_82 : decode cX6_picks 82 = .ok (.iadd, 1) := by decide +kernel
theorem dX6_picks_83 : decode cX6_picks 83 = .ok (.invokevirtual 57, 3) := by decide +kernel
theorem dX6_picks_86 : decode cX6_picks 86 = .ok (.aload_n 0, 1) := by decide +kernel
theorem dX6_picks_87 : decode cX6_picks 87 = .ok (.iconst 0, 1) := by decide +kernel
theorem dX6_picks_88 : decode cX6_picks 88 = .ok (.iload 4, 2) := by decide +kernel
theorem dX6_picks_90 : decode cX6_picks 90 = .ok (.invokevirtual 72, 3) := by decide +kernel
theorem dX6_picks_93 : decode cX6_picks 93 = .ok (.aload_n 0, 1) := by decide +kernel
theorem dX6_picks_94 : decode cX6_picks 94 = .ok (.bipush 7, 2) := by decide +kernel
theorem dX6_picks_96 : decode cX6_picks 96 = .ok (.iconst 1, 1) := by decide +kernel
theorem dX6_picks_97 : decode cX6_picks 97 = .ok (.invokevirtual 72, 3) := by decide +kernel
theorem dX6_picks_100 : decode cX6_picks 100 = .ok (.iload_n 3, 1) := by decide +kernel
theorem dX6_picks_101 : decode cX6_picks 101 = .ok (.iload 4, 2) := by decide +kernel
theorem dX6_picks_103 : decode cX6_picks 103 = .ok (.iadd, 1) := by decide +kernel
theorem dX6_picks_104 : decode cX6_picks 104 = .ok (.ireturn, 1) := by decide +kernel
set_option maxRecDepth 20000 in
theorem ggX6_pick_X6_isGood : GoodIn wsX6_pick wsX6_isGood := goodIn_r _ [5, 6, 7, 8, 4, 9, 53, 54, 55, 56, 57, 58, 59, 60, 61, 62, 63, 64, 65, 66, 67, 68, 69] (by decide +kernel) (by decide +kernel)
set_option maxRecDepth 20000 in
theorem gX6_pick_X6_isGood : GoodIn wsX6_pick (wsV RX6 61 RX6 yX6_isGood wsX6_isGood) := goodIn_app (goodIn_of _ (by decide +kernel)) ggX6_pick_X6_isGood
set_option maxRecDepth 20000 in
theorem ggX6_pick_X6_in : GoodIn wsX6_pick wsX6_in := goodIn_r _ [9] (by decide +kernel) (by decide +kernel)
set_option maxRecDepth 20000 in
theorem gX6_pick_X6_in : GoodIn wsX6_pick (va_wsS RX6 36 yX6_in wsX6_in) := goodIn_app (goodIn_of _ (by decide +kernel)) ggX6_pick_X6_in
set_option maxRecDepth 20000 in
theorem ggX6_pick_X6_canPick : GoodIn wsX6_pick wsX6_canPick := goodIn_r _ [13, 6, 14, 15, 16, 4, 17, 18, 19, 20, 21, 53, 54, 55, 56, 57, 58, 59, 60, 61, 62, 63, 64, 65, 66, 67, 68, 69] (by decide +kernel) (by decide +kernel)
set_option maxRecDepth 20000 in
theorem gX6_pick_X6_canPick : GoodIn wsX6_pick (wsV RX6 96 RX6 yX6_canPick wsX6_canPick) := goodIn_app (goodIn_of _ (by decide +kernel)) ggX6_pick_X6_canPick
set_option maxRecDepth 20000 in
theorem ggX6_pick_X6_records : GoodIn wsX6_pick wsX6_records := goodIn_r _ [25, 26, 27, 6, 28, 29, 4, 30, 53, 54, 55, 56, 57, 58, 59, 60, 61, 62, 63, 64, 65, 66, 67, 68, 69] (by decide +kernel) (by decide +kernel)
set_option maxRecDepth 20000 in
theorem gX6_pick_X6_records : GoodIn wsX6_pick (wsV RX6 54 RX6 yX6_records wsX6_records) := goodIn_app (goodIn_of _ (by decide +kernel)) ggX6_pick_X6_records
set_option maxRecDepth 20000 in
theorem ggX6_pick_X6_picks : GoodIn wsX6_pick wsX6_picks := goodIn_r _ [34, 14, 15, 16, 4, 17, 6, 18, 19, 20, 21, 35, 36, 37, 38, 39, 40, 41, 42, 43, 44, 45, 46, 47, 48, 49, 50, 51, 52, 53, 54, 55, 56, 57, 58, 59, 60, 61, 62, 63, 64, 65, 66, 67, 68, 69] (by decide +kernel) (by decide +kernel)
set_option maxRecDepth 20000 in
theorem gX6_pick_X6_picks : GoodIn wsX6_pick (wsV RX6 99 RX6 yX6_picks wsX6_picks) := goodIn_app (goodIn_of _ (by decide +kernel)) ggX6_pick_X6_picks
theorem dX6_pick_0 : decode cX6_pick 0 = .ok (.aload_n 0, 1) := by decide +kernel
theorem dX6_pick_1 : decode cX6_pick 1 = .ok (.iload_n 1, 1) := by decide +kernel
theorem dX6_pick_2 : decode cX6_pick 2 = .ok (.invokevirtual 61, 3) := by decide +kernel
theorem dX6_pick_5 : decode cX6_pick 5 = .ok (.ifCond .eq 14, 3) := by decide +kernel
theorem dX6_pick_8 : decode cX6_pick 8 = .ok (.iload_n 2, 1) := by decide +kernel
theorem dX6_pick_9 : decode cX6_pick 9 = .ok (.iconst 1, 1) := by decide +kernel
theorem dX6_pick_10 : decode cX6_pick 10 = .ok (.sipush 200, 3) := by decide +kernel
theorem dX6_pick_13 : decode cX6_pick 13 = .ok (.invokestatic 36, 3) := by decide +kernel
theorem dX6_pick_16 : decode cX6_pick 16 = .ok (.ifCond .ne 5, 3) := by decide +kernel
theorem dX6_pick_19 : decode cX6_pick 19 = .ok (.iconst (-1), 1) := by decide +kernel
theorem dX6_pick_20 : decode cX6_pick 20 = .ok (.ireturn, 1) := by decide +kernel
theorem dX6_pick_21 : decode cX6_pick 21 = .ok (.aload_n 0, 1) := by decide +kernel
theorem dX6_pick_22 : decode cX6_pick 22 = .ok (.iload_n 1, 1) := by decide +kernel
theorem dX6_pick_23 : decode cX6_pick 23 = .ok (.iload_n 2, 1) := by decide +kernel
theorem dX6_pick_24 : decode cX6_pick 24 = .ok (.invokevirtual 96, 3) := by decide +kernel
theorem dX6_pick_27 : decode cX6_pick 27 = .ok (.ifCond .ne 6, 3) := by decide +kernel
theorem dX6_pick_30 : decode cX6_pick 30 = .ok (.bipush (-2), 2) := by decide +kernel
theorem dX6_pick_32 : decode cX6_pick 32 = .ok (.ireturn, 1) := by decide +kernel
theorem dX6_pick_33 : decode cX6_pick 33 = .ok (.aload_n 0, 1) := by decide +kernel
theorem dX6_pick_34 : decode cX6_pick 34 = .ok (.invokevirtual 54, 3) := by decide +kernel
theorem dX6_pick_37 : decode cX6_pick 37 = .ok (.aload_n 0, 1) := by decide +kernel
theorem dX6_pick_38 : decode cX6_pick 38 = .ok (.iload_n 1, 1) := by decide +kernel
theorem dX6_pick_39 : decode cX6_pick 39 = .ok (.iload_n 2, 1) := by decide +kernel
theorem dX6_pick_40 : decode cX6_pick 40 = .ok (.invokevirtual 99, 3) := by decide +kernel
theorem dX6_pick_43 : decode cX6_pick 43 = .ok (.ireturn, 1) := by decide +kernel
set_option maxRecDepth 20000 in
theorem ggX6_canRefill_X6_of : GoodIn wsX6_canRefill wsX6_of := goodIn_r _ [5, 6, 11, 12, 13, 14, 15, 16, 17, 18, 19, 20, 21, 22, 23, 24, 25, 26, 27] (by decide +kernel) (by decide +kernel)
set_option maxRecDepth 20000 in
theorem gX6_canRefill_X6_of : GoodIn wsX6_canRefill (wsV RX6 44 RX6 yX6_of wsX6_of) := goodIn_app (goodIn_of _ (by decide +kernel)) ggX6_canRefill_X6_of
set_option maxRecDepth 20000 in
theorem ggX6_canRefill_X6_room : GoodIn wsX6_canRefill wsX6_room := goodIn_r _ [10, 1, 2, 3, 4, 5, 6, 11, 12, 13, 14, 15, 16, 17, 18, 19, 20, 21, 22, 23, 24, 25, 26, 27] (by decide +kernel) (by decide +kernel)
set_option maxRecDepth 20000 in
theorem gX6_canRefill_X6_room : GoodIn wsX6_canRefill (wsV RX6 90 RX6 yX6_room wsX6_room) := goodIn_app (goodIn_of _ (by decide +kernel)) ggX6_canRefill_X6_room
theorem dX6_canRefill_0 : decode cX6_canRefill 0 = .ok (.aload_n 0, 1) := by decide +kernel
theorem dX6_canRefill_1 : decode cX6_canRefill 1 = .ok (.iload_n 1, 1) := by decide +kernel
theorem dX6_canRefill_2 : decode cX6_canRefill 2 = .ok (.bipush 6, 2) := by decide +kernel
theorem dX6_canRefill_4 : decode cX6_canRefill 4 = .ok (.invokevirtual 44, 3) := by decide +kernel
theorem dX6_canRefill_7 : decode cX6_canRefill 7 = .ok (.iconst (-1), 1) := by decide +kernel
theorem dX6_canRefill_8 : decode cX6_canRefill 8 = .ok (.if_icmp .eq 15, 3) := by decide +kernel
theorem dX6_canRefill_11 : decode cX6_canRefill 11 = .ok (.aload_n 0, 1) := by decide +kernel
theorem dX6_canRefill_12 : decode cX6_canRefill 12 = .ok (.iload_n 1, 1) := by decide +kernel
theorem dX6_canRefill_13 : decode cX6_canRefill 13 = .ok (.invokevirtual 90, 3) := by decide +kernel
theorem dX6_canRefill_16 : decode cX6_canRefill 16 = .ok (.ifCond .le 7, 3) := by decide +kernel
theorem dX6_canRefill_19 : decode cX6_canRefill 19 = .ok (.iconst 1, 1) := by decide +kernel
theorem dX6_canRefill_20 : decode cX6_canRefill 20 = .ok (.goto 4, 3) := by decide +kernel
theorem dX6_canRefill_23 : decode cX6_canRefill 23 = .ok (.iconst 0, 1) := by decide +kernel
theorem dX6_canRefill_24 : decode cX6_canRefill 24 = .ok (.ireturn, 1) := by decide +kernel
set_option maxRecDepth 20000 in
theorem ggX6_refill_X6_isGood : GoodIn wsX6_refill wsX6_isGood := goodIn_r _ [5, 6, 7, 8, 4, 9, 49, 50, 51, 52, 53, 54, 55, 56, 57, 58, 59, 60, 61, 62, 63, 64, 65] (by decide +kernel) (by decide +kernel)
set_option maxRecDepth 20000 in
theorem gX6_refill_X6_isGood : GoodIn wsX6_refill (wsV RX6 61 RX6 yX6_isGood wsX6_isGood) := goodIn_app (goodIn_of _ (by decide +kernel)) ggX6_refill_X6_isGood
set_option maxRecDepth 20000 in
theorem ggX6_refill_X6_canRefill : GoodIn wsX6_refill wsX6_canRefill := goodIn_r _ [13, 14, 15, 16, 4, 17, 6, 18, 19, 20, 21, 49, 50, 51, 52, 53, 54, 55, 56, 57, 58, 59, 60, 61, 62, 63, 64, 65] (by decide +kernel) (by decide +kernel)
set_option maxRecDepth 20000 in
theorem gX6_refill_X6_canRefill : GoodIn wsX6_refill (wsV RX6 102 RX6 yX6_canRefill wsX6_canRefill) := goodIn_app (goodIn_of _ (by decide +kernel)) ggX6_refill_X6_canRefill
set_option maxRecDepth 20000 in
theorem ggX6_refill_X6_records : GoodIn wsX6_refill wsX6_records := goodIn_r _ [25, 26, 27, 6, 28, 29, 4, 30, 49, 50, 51, 52, 53, 54, 55, 56, 57, 58, 59, 60, 61, 62, 63, 64, 65] (by decide +kernel) (by decide +kernel)
set_option maxRecDepth 20000 in
theorem gX6_refill_X6_records : GoodIn wsX6_refill (wsV RX6 54 RX6 yX6_records wsX6_records) := goodIn_app (goodIn_of _ (by decide +kernel)) ggX6_refill_X6_records
set_option maxRecDepth 20000 in
theorem ggX6_refill_X6_of : GoodIn wsX6_refill wsX6_of := goodIn_r _ [17, 6, 49, 50, 51, 52, 53, 54, 55, 56, 57, 58, 59, 60, 61, 62, 63, 64, 65] (by decide +kernel) (by decide +kernel)
set_option maxRecDepth 20000 in
theorem gX6_refill_X6_of : GoodIn wsX6_refill (wsV RX6 44 RX6 yX6_of wsX6_of) := goodIn_app (goodIn_of _ (by decide +kernel)) ggX6_refill_X6_of
set_option maxRecDepth 20000 in
theorem ggX6_refill_X6_room : GoodIn wsX6_refill wsX6_room := goodIn_r _ [21, 14, 15, 16, 4, 17, 6, 49, 50, 51, 52, 53, 54, 55, 56, 57, 58, 59, 60, 61, 62, 63, 64, 65] (by decide +kernel) (by decide +kernel)
set_option maxRecDepth 20000 in
theorem gX6_refill_X6_room : GoodIn wsX6_refill (wsV RX6 90 RX6 yX6_room wsX6_room) := goodIn_app (goodIn_of _ (by decide +kernel)) ggX6_refill_X6_room
set_option maxRecDepth 20000 in
theorem ggX6_refill_X6_brings : GoodIn wsX6_refill wsX6_brings := goodIn_r _ [34, 6, 14, 15, 16, 4, 17, 35, 36, 37, 38, 39, 40, 41, 42, 43, 44, 45, 46, 47, 48, 49, 50, 51, 52, 53, 54, 55, 56, 57, 58, 59, 60, 61, 62, 63, 64, 65] (by decide +kernel) (by decide +kernel)
set_option maxRecDepth 20000 in
theorem gX6_refill_X6_brings : GoodIn wsX6_refill (wsV RX6 93 RX6 yX6_brings wsX6_brings) := goodIn_app (goodIn_of _ (by decide +kernel)) ggX6_refill_X6_brings
theorem dX6_refill_0 : decode cX6_refill 0 = .ok (.aload_n 0, 1) := by decide +kernel
theorem dX6_refill_1 : decode cX6_refill 1 = .ok (.iload_n 1, 1) := by decide +kernel
theorem dX6_refill_2 : decode cX6_refill 2 = .ok (.invokevirtual 61, 3) := by decide +kernel
theorem dX6_refill_5 : decode cX6_refill 5 = .ok (.ifCond .ne 5, 3) := by decide +kernel
theorem dX6_refill_8 : decode cX6_refill 8 = .ok (.iconst (-1), 1) := by decide +kernel
theorem dX6_refill_9 : decode cX6_refill 9 = .ok (.ireturn, 1) := by decide +kernel
theorem dX6_refill_10 : decode cX6_refill 10 = .ok (.aload_n 0, 1) := by decide +kernel
theorem dX6_refill_11 : decode cX6_refill 11 = .ok (.iload_n 1, 1) := by decide +kernel
theorem dX6_refill_12 : decode cX6_refill 12 = .ok (.invokevirtual 102, 3) := by decide +kernel
theorem dX6_refill_15 : decode cX6_refill 15 = .ok (.ifCond .ne 6, 3) := by decide +kernel
theorem dX6_refill_18 : decode cX6_refill 18 = .ok (.bipush (-2), 2) := by decide +kernel
theorem dX6_refill_20 : decode cX6_refill 20 = .ok (.ireturn, 1) := by decide +kernel
theorem dX6_refill_21 : decode cX6_refill 21 = .ok (.aload_n 0, 1) := by decide +kernel
theorem dX6_refill_22 : decode cX6_refill 22 = .ok (.invokevirtual 54, 3) := by decide +kernel
theorem dX6_refill_25 : decode cX6_refill 25 = .ok (.aload_n 0, 1) := by decide +kernel
theorem dX6_refill_26 : decode cX6_refill 26 = .ok (.iload_n 1, 1) := by decide +kernel
theorem dX6_refill_27 : decode cX6_refill 27 = .ok (.bipush 7, 2) := by decide +kernel
theorem dX6_refill_29 : decode cX6_refill 29 = .ok (.invokevirtual 44, 3) := by decide +kernel
theorem dX6_refill_32 : decode cX6_refill 32 = .ok (.istore_n 2, 1) := by decide +kernel
theorem dX6_refill_33 : decode cX6_refill 33 = .ok (.aload_n 0, 1) := by decide +kernel
theorem dX6_refill_34 : decode cX6_refill 34 = .ok (.iload_n 1, 1) := by decide +kernel
theorem dX6_refill_35 : decode cX6_refill 35 = .ok (.aload_n 0, 1) := by decide +kernel
theorem dX6_refill_36 : decode cX6_refill 36 = .ok (.iload_n 1, 1) := by decide +kernel
theorem dX6_refill_37 : decode cX6_refill 37 = .ok (.invokevirtual 90, 3) := by decide +kernel
theorem dX6_refill_40 : decode cX6_refill 40 = .ok (.invokevirtual 93, 3) := by decide +kernel
theorem dX6_refill_43 : decode cX6_refill 43 = .ok (.istore_n 3, 1) := by decide +kernel
theorem dX6_refill_44 : decode cX6_refill 44 = .ok (.aload_n 0, 1) := by decide +kernel
theorem dX6_refill_45 : decode cX6_refill 45 = .ok (.iload_n 1, 1) := by decide +kernel
theorem dX6_refill_46 : decode cX6_refill 46 = .ok (.bipush 7, 2) := by decide +kernel
theorem dX6_refill_48 : decode cX6_refill 48 = .ok (.invokevirtual 44, 3) := by decide +kernel
theorem dX6_refill_51 : decode cX6_refill 51 = .ok (.iload_n 2, 1) := by decide +kernel
theorem dX6_refill_52 : decode cX6_refill 52 = .ok (.isub, 1) := by decide +kernel
theorem dX6_refill_53 : decode cX6_refill 53 = .ok (.ireturn, 1) := by decide +kernel
set_option maxRecDepth 20000 in
theorem ggX6_ends_X6_season : GoodIn wsX6_ends wsX6_season := goodIn_r _ [6, 1, 29, 30, 31, 32, 33, 34, 35, 36, 37, 38, 39, 40, 41, 42, 43, 44, 45] (by decide +kernel) (by decide +kernel)
set_option maxRecDepth 20000 in
theorem gX6_ends_X6_season : GoodIn wsX6_ends (wsV RX6 65 RX6 yX6_season wsX6_season) := goodIn_app (goodIn_of _ (by decide +kernel)) ggX6_ends_X6_season
set_option maxRecDepth 20000 in
theorem ggX6_ends_X6_weeklyOf : GoodIn wsX6_ends wsX6_weeklyOf := goodIn_r _ [10, 1, 11, 12, 13, 5, 14, 15, 16, 17, 18, 19, 20, 29, 30, 31, 32, 33, 34, 35, 36, 37, 38, 39, 40, 41, 42, 43, 44, 45] (by decide +kernel) (by decide +kernel)
set_option maxRecDepth 20000 in
theorem gX6_ends_X6_weeklyOf : GoodIn wsX6_ends (wsV RX6 69 RX6 yX6_weeklyOf wsX6_weeklyOf) := goodIn_app (goodIn_of _ (by decide +kernel)) ggX6_ends_X6_weeklyOf
set_option maxRecDepth 20000 in
theorem ggX6_ends_X6_of : GoodIn wsX6_ends wsX6_of := goodIn_r _ [14, 1, 29, 30, 31, 32, 33, 34, 35, 36, 37, 38, 39, 40, 41, 42, 43, 44, 45] (by decide +kernel) (by decide +kernel)
set_option maxRecDepth 20000 in
theorem gX6_ends_X6_of : GoodIn wsX6_ends (wsV RX6 44 RX6 yX6_of wsX6_of) := goodIn_app (goodIn_of _ (by decide +kernel)) ggX6_ends_X6_of
set_option maxRecDepth 20000 in
theorem ggX6_ends_X6_lays : GoodIn wsX6_ends wsX6_lays := goodIn_r _ [24, 1, 29, 30, 31, 32, 33, 34, 35, 36, 37, 38, 39, 40, 41, 42, 43, 44, 45] (by decide +kernel) (by decide +kernel)
set_option maxRecDepth 20000 in
theorem gX6_ends_X6_lays : GoodIn wsX6_ends (wsV RX6 57 RX6 yX6_lays wsX6_lays) := goodIn_app (goodIn_of _ (by decide +kernel)) ggX6_ends_X6_lays
set_option maxRecDepth 20000 in
theorem ggX6_ends_X6_adds : GoodIn wsX6_ends wsX6_adds := goodIn_r _ [28, 1, 29, 30, 31, 32, 33, 34, 35, 36, 37, 38, 39, 40, 41, 42, 43, 44, 45] (by decide +kernel) (by decide +kernel)
set_option maxRecDepth 20000 in
theorem gX6_ends_X6_adds : GoodIn wsX6_ends (wsV RX6 72 RX6 yX6_adds wsX6_adds) := goodIn_app (goodIn_of _ (by decide +kernel)) ggX6_ends_X6_adds
theorem dX6_ends_0 : decode cX6_ends 0 = .ok (.aload_n 0, 1) := by decide +kernel
theorem dX6_ends_1 : decode cX6_ends 1 = .ok (.invokevirtual 65, 3) := by decide +kernel
theorem dX6_ends_4 : decode cX6_ends 4 = .ok (.istore_n 1, 1) := by decide +kernel
theorem dX6_ends_5 : decode cX6_ends 5 = .ok (.aload_n 0, 1) := by decide +kernel
theorem dX6_ends_6 : decode cX6_ends 6 = .ok (.iload_n 1, 1) := by decide +kernel
theorem dX6_ends_7 : decode cX6_ends 7 = .ok (.invokevirtual 69, 3) := by decide +kernel
theorem dX6_ends_10 : decode cX6_ends 10 = .ok (.istore_n 2, 1) := by decide +kernel
theorem dX6_ends_11 : decode cX6_ends 11 = .ok (.iconst 0, 1) := by decide +kernel
theorem dX6_ends_12 : decode cX6_ends 12 = .ok (.istore_n 3, 1) := by decide +kernel
theorem dX6_ends_13 : decode cX6_ends 13 = .ok (.iload_n 3, 1) := by decide +kernel
theorem dX6_ends_14 : decode cX6_ends 14 = .ok (.aload_n 0, 1) := by decide +kernel
theorem dX6_ends_15 : decode cX6_ends 15 = .ok (.getfield 7, 3) := by decide +kernel
theorem dX6_ends_18 : decode cX6_ends 18 = .ok (.iconst 0, 1) := by decide +kernel
theorem dX6_ends_19 : decode cX6_ends 19 = .ok (.iaload, 1) := by decide +kernel
theorem dX6_ends_20 : decode cX6_ends 20 = .ok (.if_icmp .ge 63, 3) := by decide +kernel
theorem dX6_ends_23 : decode cX6_ends 23 = .ok (.iconst 3, 1) := by decide +kernel
theorem dX6_ends_24 : decode cX6_ends 24 = .ok (.aload_n 0, 1) := by decide +kernel
theorem dX6_ends_25 : decode cX6_ends 25 = .ok (.iload_n 3, 1) := by decide +kernel
theorem dX6_ends_26 : decode cX6_ends 26 = .ok (.iconst 2, 1) := by decide +kernel
theorem dX6_ends_27 : decode cX6_ends 27 = .ok (.iload_n 1, 1) := by decide +kernel
theorem dX6_ends_28 : decode cX6_ends 28 = .ok (.iadd, 1) := by decide +kernel
theorem dX6_ends_29 : decode cX6_ends 29 = .ok (.invokevirtual 44, 3) := by decide +kernel
theorem dX6_ends_32 : decode cX6_ends 32 = .ok (.imul, 1) := by decide +kernel
theorem dX6_ends_33 : decode cX6_ends 33 = .ok (.aload_n 0, 1) := by decide +kernel
theorem dX6_ends_34 : decode cX6_ends 34 = .ok (.iload_n 3, 1) := by decide +kernel
theorem dX6_ends_35 : decode cX6_ends 35 = .ok (.bipush 9, 2) := by decide +kernel
theorem dX6_ends_37 : decode cX6_ends 37 = .ok (.invokevirtual 44, 3) := by decide +kernel
theorem dX6_ends_40 : decode cX6_ends 40 = .ok (.iadd, 1) := by decide +kernel
theorem dX6_ends_41 : decode cX6_ends 41 = .ok (.iconst 4, 1) := by decide +kernel
theorem dX6_ends_42 : decode cX6_ends 42 = .ok (.idiv, 1) := by decide +kernel
theorem dX6_ends_43 : decode cX6_ends 43 = .ok (.istore 4, 2) := by decide +kernel
theorem dX6_ends_45 : decode cX6_ends 45 = .ok (.aload_n 0, 1) := by decide +kernel
theorem dX6_ends_46 : decode cX6_ends 46 = .ok (.iload_n 3, 1) := by decide +kernel
theorem dX6_ends_47 : decode cX6_ends 47 = .ok (.iconst 2, 1) := by decide +kernel
theorem dX6_ends_48 : decode cX6_ends 48 = .ok (.iload_n 1, 1) := by decide +kernel
theorem dX6_ends_49 : decode cX6_ends 49 = .ok (.iadd, 1) := by decide +kernel
theorem dX6_ends_50 : decode cX6_ends 50 = .ok (.iload 4, 2) := by decide +kernel
theorem dX6_ends_52 : decode cX6_ends 52 = .ok (.sipush 999, 3) := by decide +kernel
theorem dX6_ends_55 : decode cX6_ends 55 = .ok (.if_icmp .le 9, 3) := by decide +kernel
theorem dX6_ends_58 : decode cX6_ends 58 = .ok (.sipush 999, 3) := by decide +kernel
theorem dX6_ends_61 : decode cX6_ends 61 = .ok (.goto 5, 3) := by decide +kernel
theorem dX6_ends_64 : decode cX6_ends 64 = .ok (.iload 4, 2) := by decide +kernel
theorem dX6_ends_66 : decode cX6_ends 66 = .ok (.invokevirtual 57, 3) := by decide +kernel
theorem dX6_ends_69 : decode cX6_ends 69 = .ok (.aload_n 0, 1) := by decide +kernel
theorem dX6_ends_70 : decode cX6_ends 70 = .ok (.iload_n 3, 1) := by decide +kernel
theorem dX6_ends_71 : decode cX6_ends 71 = .ok (.bipush 9, 2) := by decide +kernel
theorem dX6_ends_73 : decode cX6_ends 73 = .ok (.iconst 0, 1) := by decide +kernel
theorem dX6_ends_74 : decode cX6_ends 74 = .ok (.invokevirtual 57, 3) := by decide +kernel
theorem dX6_ends_77 : decode cX6_ends 77 = .ok (.iinc 3 1, 3) := by decide +kernel
theorem dX6_ends_80 : decode cX6_ends 80 = .ok (.goto (-67), 3) := by decide +kernel
theorem dX6_ends_83 : decode cX6_ends 83 = .ok (.aload_n 0, 1) := by decide +kernel
theorem dX6_ends_84 : decode cX6_ends 84 = .ok (.getfield 7, 3) := by decide +kernel
theorem dX6_ends_87 : decode cX6_ends 87 = .ok (.iconst 1, 1) := by decide +kernel
theorem dX6_ends_88 : decode cX6_ends 88 = .ok (.dup2, 1) := by decide +kernel
theorem dX6_ends_89 : decode cX6_ends 89 = .ok (.iaload, 1) := by decide +kernel
theorem dX6_ends_90 : decode cX6_ends 90 = .ok (.iconst 1, 1) := by decide +kernel
theorem dX6_ends_91 : decode cX6_ends 91 = .ok (.iadd, 1) := by decide +kernel
theorem dX6_ends_92 : decode cX6_ends 92 = .ok (.iastore, 1) := by decide +kernel
theorem dX6_ends_93 : decode cX6_ends 93 = .ok (.aload_n 0, 1) := by decide +kernel
theorem dX6_ends_94 : decode cX6_ends 94 = .ok (.iconst 5, 1) := by decide +kernel
theorem dX6_ends_95 : decode cX6_ends 95 = .ok (.aload_n 0, 1) := by decide +kernel
theorem dX6_ends_96 : decode cX6_ends 96 = .ok (.aload_n 0, 1) := by decide +kernel
theorem dX6_ends_97 : decode cX6_ends 97 = .ok (.invokevirtual 65, 3) := by decide +kernel
theorem dX6_ends_100 : decode cX6_ends 100 = .ok (.invokevirtual 69, 3) := by decide +kernel
theorem dX6_ends_103 : decode cX6_ends 103 = .ok (.iload_n 2, 1) := by decide +kernel
theorem dX6_ends_104 : decode cX6_ends 104 = .ok (.isub, 1) := by decide +kernel
theorem dX6_ends_105 : decode cX6_ends 105 = .ok (.invokevirtual 72, 3) := by decide +kernel
theorem dX6_ends_108 : decode cX6_ends 108 = .ok (.return_, 1) := by decide +kernel
set_option maxRecDepth 20000 in
theorem ggX6_endWeek_X6_records : GoodIn wsX6_endWeek wsX6_records := goodIn_r _ [6, 7, 8, 1, 9, 10, 5, 11, 42, 43, 44, 45, 46, 47, 48, 49, 50, 51, 52, 53, 54, 55, 56, 57, 58] (by decide +kernel) (by decide +kernel)
set_option maxRecDepth 20000 in
theorem gX6_endWeek_X6_records : GoodIn wsX6_endWeek (wsV RX6 54 RX6 yX6_records wsX6_records) := goodIn_app (goodIn_of _ (by decide +kernel)) ggX6_endWeek_X6_records
set_option maxRecDepth 20000 in
theorem ggX6_endWeek_X6_ends : GoodIn wsX6_endWeek wsX6_ends := goodIn_r _ [15, 1, 16, 17, 18, 5, 19, 20, 21, 22, 23, 24, 25, 26, 27, 28, 29, 30, 31, 32, 33, 34, 35, 36, 37, 38, 39, 40, 41, 42, 43, 44, 45, 46, 47, 48, 49, 50, 51, 52, 53, 54, 55, 56, 57, 58] (by decide +kernel) (by decide +kernel)
set_option maxRecDepth 20000 in
theorem gX6_endWeek_X6_ends : GoodIn wsX6_endWeek (wsV RX6 105 RX6 yX6_ends wsX6_ends) := goodIn_app (goodIn_of _ (by decide +kernel)) ggX6_endWeek_X6_ends
theorem dX6_endWeek_0 : decode cX6_endWeek 0 = .ok (.aload_n 0, 1) := by decide +kernel
theorem dX6_endWeek_1 : decode cX6_endWeek 1 = .ok (.getfield 7, 3) := by decide +kernel
theorem dX6_endWeek_4 : decode cX6_endWeek 4 = .ok (.iconst 1, 1) := by decide +kernel
theorem dX6_endWeek_5 : decode cX6_endWeek 5 = .ok (.iaload, 1) := by decide +kernel
theorem dX6_endWeek_6 : decode cX6_endWeek 6 = .ok (.sipush 1000, 3) := by decide +kernel
theorem dX6_endWeek_9 : decode cX6_endWeek 9 = .ok (.if_icmp .ne 6, 3) := by decide +kernel
theorem dX6_endWeek_12 : decode cX6_endWeek 12 = .ok (.bipush (-3), 2) := by decide +kernel
theorem dX6_endWeek_14 : decode cX6_endWeek 14 = .ok (.ireturn, 1) := by decide +kernel
theorem dX6_endWeek_15 : decode cX6_endWeek 15 = .ok (.aload_n 0, 1) := by decide +kernel
theorem dX6_endWeek_16 : decode cX6_endWeek 16 = .ok (.invokevirtual 54, 3) := by decide +kernel
theorem dX6_endWeek_19 : decode cX6_endWeek 19 = .ok (.aload_n 0, 1) := by decide +kernel
theorem dX6_endWeek_20 : decode cX6_endWeek 20 = .ok (.invokevirtual 105, 3) := by decide +kernel
theorem dX6_endWeek_23 : decode cX6_endWeek 23 = .ok (.aload_n 0, 1) := by decide +kernel
theorem dX6_endWeek_24 : decode cX6_endWeek 24 = .ok (.getfield 7, 3) := by decide +kernel
theorem dX6_endWeek_27 : decode cX6_endWeek 27 = .ok (.iconst 1, 1) := by decide +kernel
theorem dX6_endWeek_28 : decode cX6_endWeek 28 = .ok (.iaload, 1) := by decide +kernel
theorem dX6_endWeek_29 : decode cX6_endWeek 29 = .ok (.ireturn, 1) := by decide +kernel
set_option maxRecDepth 20000 in
theorem ggX6_canMove_X6_of : GoodIn wsX6_canMove wsX6_of := goodIn_r _ [5, 6, 18, 19, 20, 21, 22, 23, 24, 25, 26, 27, 28, 29, 30, 31, 32, 33, 34] (by decide +kernel) (by decide +kernel)
set_option maxRecDepth 20000 in
theorem gX6_canMove_X6_of : GoodIn wsX6_canMove (wsV RX6 44 RX6 yX6_of wsX6_of) := goodIn_app (goodIn_of _ (by decide +kernel)) ggX6_canMove_X6_of
set_option maxRecDepth 20000 in
theorem ggX6_canMove_X6_goodAt : GoodIn wsX6_canMove wsX6_goodAt := goodIn_r _ [10, 6, 1, 2, 3, 4, 5, 18, 19, 20, 21, 22, 23, 24, 25, 26, 27, 28, 29, 30, 31, 32, 33, 34] (by decide +kernel) (by decide +kernel)
set_option maxRecDepth 20000 in
theorem gX6_canMove_X6_goodAt : GoodIn wsX6_canMove (wsV RX6 80 RX6 yX6_goodAt wsX6_goodAt) := goodIn_app (goodIn_of _ (by decide +kernel)) ggX6_canMove_X6_goodAt
set_option maxRecDepth 20000 in
theorem ggX6_canMove_X6_mayBe : GoodIn wsX6_canMove wsX6_mayBe := goodIn_r _ [14, 1, 2, 3, 4, 5, 6, 15, 16, 17, 18, 19, 20, 21, 22, 23, 24, 25, 26, 27, 28, 29, 30, 31, 32, 33, 34] (by decide +kernel) (by decide +kernel)
set_option maxRecDepth 20000 in
theorem gX6_canMove_X6_mayBe : GoodIn wsX6_canMove (wsV RX6 83 RX6 yX6_mayBe wsX6_mayBe) := goodIn_app (goodIn_of _ (by decide +kernel)) ggX6_canMove_X6_mayBe
theorem dX6_canMove_0 : decode cX6_canMove 0 = .ok (.aload_n 0, 1) := by decide +kernel
theorem dX6_canMove_1 : decode cX6_canMove 1 = .ok (.iload_n 1, 1) := by decide +kernel
theorem dX6_canMove_2 : decode cX6_canMove 2 = .ok (.bipush 6, 2) := by decide +kernel
theorem dX6_canMove_4 : decode cX6_canMove 4 = .ok (.invokevirtual 44, 3) := by decide +kernel
theorem dX6_canMove_7 : decode cX6_canMove 7 = .ok (.iconst (-1), 1) := by decide +kernel
theorem dX6_canMove_8 : decode cX6_canMove 8 = .ok (.if_icmp .eq 25, 3) := by decide +kernel
theorem dX6_canMove_11 : decode cX6_canMove 11 = .ok (.aload_n 0, 1) := by decide +kernel
theorem dX6_canMove_12 : decode cX6_canMove 12 = .ok (.iload_n 2, 1) := by decide +kernel
theorem dX6_canMove_13 : decode cX6_canMove 13 = .ok (.invokevirtual 80, 3) := by decide +kernel
theorem dX6_canMove_16 : decode cX6_canMove 16 = .ok (.iconst (-1), 1) := by decide +kernel
theorem dX6_canMove_17 : decode cX6_canMove 17 = .ok (.if_icmp .ne 16, 3) := by decide +kernel
theorem dX6_canMove_20 : decode cX6_canMove 20 = .ok (.aload_n 0, 1) := by decide +kernel
theorem dX6_canMove_21 : decode cX6_canMove 21 = .ok (.iload_n 1, 1) := by decide +kernel
theorem dX6_canMove_22 : decode cX6_canMove 22 = .ok (.iload_n 2, 1) := by decide +kernel
theorem dX6_canMove_23 : decode cX6_canMove 23 = .ok (.invokevirtual 83, 3) := by decide +kernel
theorem dX6_canMove_26 : decode cX6_canMove 26 = .ok (.ifCond .eq 7, 3) := by decide +kernel
theorem dX6_canMove_29 : decode cX6_canMove 29 = .ok (.iconst 1, 1) := by decide +kernel
theorem dX6_canMove_30 : decode cX6_canMove 30 = .ok (.goto 4, 3) := by decide +kernel
theorem dX6_canMove_33 : decode cX6_canMove 33 = .ok (.iconst 0, 1) := by decide +kernel
theorem dX6_canMove_34 : decode cX6_canMove 34 = .ok (.ireturn, 1) := by decide +kernel
set_option maxRecDepth 20000 in
theorem ggX6_canExchange_X6_of : GoodIn wsX6_canExchange wsX6_of := goodIn_r _ [5, 6, 14, 15, 16, 17, 18, 19, 20, 21, 22, 23, 24, 25, 26, 27, 28, 29, 30] (by decide +kernel) (by decide +kernel)
set_option maxRecDepth 20000 in
theorem gX6_canExchange_X6_of : GoodIn wsX6_canExchange (wsV RX6 44 RX6 yX6_of wsX6_of) := goodIn_app (goodIn_of _ (by decide +kernel)) ggX6_canExchange_X6_of
set_option maxRecDepth 20000 in
theorem ggX6_canExchange_X6_mayBe : GoodIn wsX6_canExchange wsX6_mayBe := goodIn_r _ [10, 1, 2, 3, 4, 5, 6, 11, 12, 13, 14, 15, 16, 17, 18, 19, 20, 21, 22, 23, 24, 25, 26, 27, 28, 29, 30] (by decide +kernel) (by decide +kernel)
set_option maxRecDepth 20000 in
theorem gX6_canExchange_X6_mayBe : GoodIn wsX6_canExchange (wsV RX6 83 RX6 yX6_mayBe wsX6_mayBe) := goodIn_app (goodIn_of _ (by decide +kernel)) ggX6_canExchange_X6_mayBe
theorem dX6_canExchange_0 : decode cX6_canExchange 0 = .ok (.iload_n 1, 1) := by decide +kernel
theorem dX6_canExchange_1 : decode cX6_canExchange 1 = .ok (.iload_n 2, 1) := by decide +kernel
theorem dX6_canExchange_2 : decode cX6_canExchange 2 = .ok (.if_icmp .eq 59, 3) := by decide +kernel
theorem dX6_canExchange_5 : decode cX6_canExchange 5 = .ok (.aload_n 0, 1) := by decide +kernel
theorem dX6_canExchange_6 : decode cX6_canExchange 6 = .ok (.iload_n 1, 1) := by decide +kernel
theorem dX6_canExchange_7 : decode cX6_canExchange 7 = .ok (.bipush 6, 2) := by decide +kernel
theorem dX6_canExchange_9 : decode cX6_canExchange 9 = .ok (.invokevirtual 44, 3) := by decide +kernel
theorem dX6_canExchange_12 : decode cX6_canExchange 12 = .ok (.iconst (-1), 1) := by decide +kernel
theorem dX6_canExchange_13 : decode cX6_canExchange 13 = .ok (.if_icmp .eq 48, 3) := by decide +kernel
theorem dX6_canExchange_16 : decode cX6_canExchange 16 = .ok (.aload_n 0, 1) := by decide +kernel
theorem dX6_canExchange_17 : decode cX6_canExchange 17 = .ok (.iload_n 2, 1) := by decide +kernel
theorem dX6_canExchange_18 : decode cX6_canExchange 18 = .ok (.bipush 6, 2) := by decide +kernel
theorem dX6_canExchange_20 : decode cX6_canExchange 20 = .ok (.invokevirtual 44, 3) := by decide +kernel
theorem dX6_canExchange_23 : decode cX6_canExchange 23 = .ok (.iconst (-1), 1) := by decide +kernel
theorem dX6_canExchange_24 : decode cX6_canExchange 24 = .ok (.if_icmp .eq 37, 3) := by decide +kernel
theorem dX6_canExchange_27 : decode cX6_canExchange 27 = .ok (.aload_n 0, 1) := by decide +kernel
theorem dX6_canExchange_28 : decode cX6_canExchange 28 = .ok (.iload_n 1, 1) := by decide +kernel
theorem dX6_canExchange_29 : decode cX6_canExchange 29 = .ok (.aload_n 0, 1) := by decide +kernel
theorem dX6_canExchange_30 : decode cX6_canExchange 30 = .ok (.iload_n 2, 1) := by decide +kernel
theorem dX6_canExchange_31 : decode cX6_canExchange 31 = .ok (.bipush 6, 2) := by decide +kernel
theorem dX6_canExchange_33 : decode cX6_canExchange 33 = .ok (.invokevirtual 44, 3) := by decide +kernel
theorem dX6_canExchange_36 : decode cX6_canExchange 36 = .ok (.invokevirtual 83, 3) := by decide +kernel
theorem dX6_canExchange_39 : decode cX6_canExchange 39 = .ok (.ifCond .eq 22, 3) := by decide +kernel
theorem dX6_canExchange_42 : decode cX6_canExchange 42 = .ok (.aload_n 0, 1) := by decide +kernel
theorem dX6_canExchange_43 : decode cX6_canExchange 43 = .ok (.iload_n 2, 1) := by decide +kernel
theorem dX6_canExchange_44 : decode cX6_canExchange 44 = .ok (.aload_n 0, 1) := by decide +kernel
theorem dX6_canExchange_45 : decode cX6_canExchange 45 = .ok (.iload_n 1, 1) := by decide +kernel
theorem dX6_canExchange_46 : decode cX6_canExchange 46 = .ok (.bipush 6, 2) := by decide +kernel
theorem dX6_canExchange_48 : decode cX6_canExchange 48 = .ok (.invokevirtual 44, 3) := by decide +kernel
theorem dX6_canExchange_51 : decode cX6_canExchange 51 = .ok (.invokevirtual 83, 3) := by decide +kernel
theorem dX6_canExchange_54 : decode cX6_canExchange 54 = .ok (.ifCond .eq 7, 3) := by decide +kernel
theorem dX6_canExchange_57 : decode cX6_canExchange 57 = .ok (.iconst 1, 1) := by decide +kernel
theorem dX6_canExchange_58 : decode cX6_canExchange 58 = .ok (.goto 4, 3) := by decide +kernel
theorem dX6_canExchange_61 : decode cX6_canExchange 61 = .ok (.iconst 0, 1) := by decide +kernel
theorem dX6_canExchange_62 : decode cX6_canExchange 62 = .ok (.ireturn, 1) := by decide +kernel
set_option maxRecDepth 20000 in
theorem ggX6_canGo_X6_goodAt : GoodIn wsX6_canGo wsX6_goodAt := goodIn_r _ [5, 6, 7, 8, 9, 4, 10, 26, 27, 28, 29, 30, 31, 32, 33, 34, 35, 36, 37, 38, 39, 40, 41, 42] (by decide +kernel) (by decide +kernel)
set_option maxRecDepth 20000 in
theorem gX6_canGo_X6_goodAt : GoodIn wsX6_canGo (wsV RX6 80 RX6 yX6_goodAt wsX6_goodAt) := goodIn_app (goodIn_of _ (by decide +kernel)) ggX6_canGo_X6_goodAt
set_option maxRecDepth 20000 in
theorem ggX6_canGo_X6_canMove : GoodIn wsX6_canGo wsX6_canMove := goodIn_r _ [14, 7, 8, 9, 4, 10, 6, 1, 2, 3, 5, 15, 16, 17, 18, 19, 20, 21, 26, 27, 28, 29, 30, 31, 32, 33, 34, 35, 36, 37, 38, 39, 40, 41, 42] (by decide +kernel) (by decide +kernel)
set_option maxRecDepth 20000 in
theorem gX6_canGo_X6_canMove : GoodIn wsX6_canGo (wsV RX6 108 RX6 yX6_canMove wsX6_canMove) := goodIn_app (goodIn_of _ (by decide +kernel)) ggX6_canGo_X6_canMove
set_option maxRecDepth 20000 in
theorem ggX6_canGo_X6_canExchange : GoodIn wsX6_canGo wsX6_canExchange := goodIn_r _ [25, 7, 8, 9, 4, 10, 6, 15, 16, 17, 18, 19, 20, 21, 26, 27, 28, 29, 30, 31, 32, 33, 34, 35, 36, 37, 38, 39, 40, 41, 42] (by decide +kernel) (by decide +kernel)
set_option maxRecDepth 20000 in
theorem gX6_canGo_X6_canExchange : GoodIn wsX6_canGo (wsV RX6 111 RX6 yX6_canExchange wsX6_canExchange) := goodIn_app (goodIn_of _ (by decide +kernel)) ggX6_canGo_X6_canExchange
theorem dX6_canGo_0 : decode cX6_canGo 0 = .ok (.aload_n 0, 1) := by decide +kernel
theorem dX6_canGo_1 : decode cX6_canGo 1 = .ok (.iload_n 2, 1) := by decide +kernel
theorem dX6_canGo_2 : decode cX6_canGo 2 = .ok (.invokevirtual 80, 3) := by decide +kernel
theorem dX6_canGo_5 : decode cX6_canGo 5 = .ok (.istore_n 3, 1) := by decide +kernel
theorem dX6_canGo_6 : decode cX6_canGo 6 = .ok (.iload_n 3, 1) := by decide +kernel
theorem dX6_canGo_7 : decode cX6_canGo 7 = .ok (.iconst (-1), 1) := by decide +kernel
theorem dX6_canGo_8 : decode cX6_canGo 8 = .ok (.if_icmp .ne 12, 3) := by decide +kernel
theorem dX6_canGo_11 : decode cX6_canGo 11 = .ok (.aload_n 0, 1) := by decide +kernel
theorem dX6_canGo_12 : decode cX6_canGo 12 = .ok (.iload_n 1, 1) := by decide +kernel
theorem dX6_canGo_13 : decode cX6_canGo 13 = .ok (.iload_n 2, 1) := by decide +kernel
theorem dX6_canGo_14 : decode cX6_canGo 14 = .ok (.invokevirtual 108, 3) := by decide +kernel
theorem dX6_canGo_17 : decode cX6_canGo 17 = .ok (.goto 9, 3) := by decide +kernel
theorem dX6_canGo_20 : decode cX6_canGo 20 = .ok (.aload_n 0, 1) := by decide +kernel
theorem dX6_canGo_21 : decode cX6_canGo 21 = .ok (.iload_n 1, 1) := by decide +kernel
theorem dX6_canGo_22 : decode cX6_canGo 22 = .ok (.iload_n 3, 1) := by decide +kernel
theorem dX6_canGo_23 : decode cX6_canGo 23 = .ok (.invokevirtual 111, 3) := by decide +kernel
theorem dX6_canGo_26 : decode cX6_canGo 26 = .ok (.ireturn, 1) := by decide +kernel
set_option maxRecDepth 20000 in
theorem ggX6_walkOf_X6_reach : GoodIn wsX6_walkOf wsX6_reach := goodIn_r _ [4] (by decide +kernel) (by decide +kernel)
set_option maxRecDepth 20000 in
theorem gX6_walkOf_X6_reach : GoodIn wsX6_walkOf (va_wsS RX6 40 yX6_reach wsX6_reach) := goodIn_app (goodIn_of _ (by decide +kernel)) ggX6_walkOf_X6_reach
set_option maxRecDepth 20000 in
theorem ggX6_walkOf_X6_of : GoodIn wsX6_walkOf wsX6_of := goodIn_r _ [8, 9, 10, 11, 12, 13, 14, 15, 16, 17, 18, 19, 20, 21, 22, 23, 24, 25, 26] (by decide +kernel) (by decide +kernel)
set_option maxRecDepth 20000 in
theorem gX6_walkOf_X6_of : GoodIn wsX6_walkOf (wsV RX6 44 RX6 yX6_of wsX6_of) := goodIn_app (goodIn_of _ (by decide +kernel)) ggX6_walkOf_X6_of
theorem dX6_walkOf_0 : decode cX6_walkOf 0 = .ok (.iload_n 2, 1) := by decide +kernel
theorem dX6_walkOf_1 : decode cX6_walkOf 1 = .ok (.bipush 6, 2) := by decide +kernel
theorem dX6_walkOf_3 : decode cX6_walkOf 3 = .ok (.idiv, 1) := by decide +kernel
theorem dX6_walkOf_4 : decode cX6_walkOf 4 = .ok (.iload_n 3, 1) := by decide +kernel
theorem dX6_walkOf_5 : decode cX6_walkOf 5 = .ok (.bipush 6, 2) := by decide +kernel
theorem dX6_walkOf_7 : decode cX6_walkOf 7 = .ok (.idiv, 1) := by decide +kernel
theorem dX6_walkOf_8 : decode cX6_walkOf 8 = .ok (.if_icmp .le 15, 3) := by decide +kernel
theorem dX6_walkOf_11 : decode cX6_walkOf 11 = .ok (.iload_n 2, 1) := by decide +kernel
theorem dX6_walkOf_12 : decode cX6_walkOf 12 = .ok (.bipush 6, 2) := by decide +kernel
theorem dX6_walkOf_14 : decode cX6_walkOf 14 = .ok (.idiv, 1) := by decide +kernel
theorem dX6_walkOf_15 : decode cX6_walkOf 15 = .ok (.iload_n 3, 1) := by decide +kernel
theorem dX6_walkOf_16 : decode cX6_walkOf 16 = .ok (.bipush 6, 2) := by decide +kernel
theorem dX6_walkOf_18 : decode cX6_walkOf 18 = .ok (.idiv, 1) := by decide +kernel
theorem dX6_walkOf_19 : decode cX6_walkOf 19 = .ok (.isub, 1) := by decide +kernel
theorem dX6_walkOf_20 : decode cX6_walkOf 20 = .ok (.goto 12, 3) := by decide +kernel
theorem dX6_walkOf_23 : decode cX6_walkOf 23 = .ok (.iload_n 3, 1) := by decide +kernel
theorem dX6_walkOf_24 : decode cX6_walkOf 24 = .ok (.bipush 6, 2) := by decide +kernel
theorem dX6_walkOf_26 : decode cX6_walkOf 26 = .ok (.idiv, 1) := by decide +kernel
theorem dX6_walkOf_27 : decode cX6_walkOf 27 = .ok (.iload_n 2, 1) := by decide +kernel
theorem dX6_walkOf_28 : decode cX6_walkOf 28 = .ok (.bipush 6, 2) := by decide +kernel
theorem dX6_walkOf_30 : decode cX6_walkOf 30 = .ok (.idiv, 1) := by decide +kernel
theorem dX6_walkOf_31 : decode cX6_walkOf 31 = .ok (.isub, 1) := by decide +kernel
theorem dX6_walkOf_32 : decode cX6_walkOf 32 = .ok (.istore 4, 2) := by decide +kernel
theorem dX6_walkOf_34 : decode cX6_walkOf 34 = .ok (.iconst 4, 1) := by decide +kernel
theorem dX6_walkOf_35 : decode cX6_walkOf 35 = .ok (.iload 4, 2) := by decide +kernel
theorem dX6_walkOf_37 : decode cX6_walkOf 37 = .ok (.imul, 1) := by decide +kernel
theorem dX6_walkOf_38 : decode cX6_walkOf 38 = .ok (.iload_n 2, 1) := by decide +kernel
theorem dX6_walkOf_39 : decode cX6_walkOf 39 = .ok (.invokestatic 40, 3) := by decide +kernel
theorem dX6_walkOf_42 : decode cX6_walkOf 42 = .ok (.iadd, 1) := by decide +kernel
theorem dX6_walkOf_43 : decode cX6_walkOf 43 = .ok (.iload_n 3, 1) := by decide +kernel
theorem dX6_walkOf_44 : decode cX6_walkOf 44 = .ok (.invokestatic 40, 3) := by decide +kernel
theorem dX6_walkOf_47 : decode cX6_walkOf 47 = .ok (.iadd, 1) := by decide +kernel
theorem dX6_walkOf_48 : decode cX6_walkOf 48 = .ok (.aload_n 0, 1) := by decide +kernel
theorem dX6_walkOf_49 : decode cX6_walkOf 49 = .ok (.iload_n 1, 1) := by decide +kernel
theorem dX6_walkOf_50 : decode cX6_walkOf 50 = .ok (.iconst 0, 1) := by decide +kernel
theorem dX6_walkOf_51 : decode cX6_walkOf 51 = .ok (.invokevirtual 44, 3) := by decide +kernel
theorem dX6_walkOf_54 : decode cX6_walkOf 54 = .ok (.iadd, 1) := by decide +kernel
theorem dX6_walkOf_55 : decode cX6_walkOf 55 = .ok (.ireturn, 1) := by decide +kernel
set_option maxRecDepth 20000 in
theorem ggX6_goWalk_X6_goodAt : GoodIn wsX6_goWalk wsX6_goodAt := goodIn_r _ [5, 6, 7, 8, 9, 4, 10, 18, 19, 20, 21, 22, 23, 24, 25, 26, 27, 28, 29, 30, 31, 32, 33, 34] (by decide +kernel) (by decide +kernel)
set_option maxRecDepth 20000 in
theorem gX6_goWalk_X6_goodAt : GoodIn wsX6_goWalk (wsV RX6 80 RX6 yX6_goodAt wsX6_goodAt) := goodIn_app (goodIn_of _ (by decide +kernel)) ggX6_goWalk_X6_goodAt
set_option maxRecDepth 20000 in
theorem ggX6_goWalk_X6_of : GoodIn wsX6_goWalk wsX6_of := goodIn_r _ [10, 6, 18, 19, 20, 21, 22, 23, 24, 25, 26, 27, 28, 29, 30, 31, 32, 33, 34] (by decide +kernel) (by decide +kernel)
set_option maxRecDepth 20000 in
theorem gX6_goWalk_X6_of : GoodIn wsX6_goWalk (wsV RX6 44 RX6 yX6_of wsX6_of) := goodIn_app (goodIn_of _ (by decide +kernel)) ggX6_goWalk_X6_of
set_option maxRecDepth 20000 in
theorem ggX6_goWalk_X6_walkOf : GoodIn wsX6_goWalk wsX6_walkOf := goodIn_r _ [14, 15, 16, 4, 17, 7, 8, 9, 10, 6, 18, 19, 20, 21, 22, 23, 24, 25, 26, 27, 28, 29, 30, 31, 32, 33, 34] (by decide +kernel) (by decide +kernel)
set_option maxRecDepth 20000 in
theorem gX6_goWalk_X6_walkOf : GoodIn wsX6_goWalk (wsV RX6 114 RX6 yX6_walkOf wsX6_walkOf) := goodIn_app (goodIn_of _ (by decide +kernel)) ggX6_goWalk_X6_walkOf
theorem dX6_goWalk_0 : decode cX6_goWalk 0 = .ok (.aload_n 0, 1) := by decide +kernel
theorem dX6_goWalk_1 : decode cX6_goWalk 1 = .ok (.iload_n 2, 1) := by decide +kernel
theorem dX6_goWalk_2 : decode cX6_goWalk 2 = .ok (.invokevirtual 80, 3) := by decide +kernel
theorem dX6_goWalk_5 : decode cX6_goWalk 5 = .ok (.istore_n 3, 1) := by decide +kernel
theorem dX6_goWalk_6 : decode cX6_goWalk 6 = .ok (.aload_n 0, 1) := by decide +kernel
theorem dX6_goWalk_7 : decode cX6_goWalk 7 = .ok (.iload_n 1, 1) := by decide +kernel
theorem dX6_goWalk_8 : decode cX6_goWalk 8 = .ok (.bipush 6, 2) := by decide +kernel
theorem dX6_goWalk_10 : decode cX6_goWalk 10 = .ok (.invokevirtual 44, 3) := by decide +kernel
theorem dX6_goWalk_13 : decode cX6_goWalk 13 = .ok (.istore 4, 2) := by decide +kernel
theorem dX6_goWalk_15 : decode cX6_goWalk 15 = .ok (.aload_n 0, 1) := by decide +kernel
theorem dX6_goWalk_16 : decode cX6_goWalk 16 = .ok (.iload_n 1, 1) := by decide +kernel
theorem dX6_goWalk_17 : decode cX6_goWalk 17 = .ok (.iload 4, 2) := by decide +kernel
theorem dX6_goWalk_19 : decode cX6_goWalk 19 = .ok (.iload_n 2, 1) := by decide +kernel
theorem dX6_goWalk_20 : decode cX6_goWalk 20 = .ok (.invokevirtual 114, 3) := by decide +kernel
theorem dX6_goWalk_23 : decode cX6_goWalk 23 = .ok (.iload_n 3, 1) := by decide +kernel
theorem dX6_goWalk_24 : decode cX6_goWalk 24 = .ok (.iconst (-1), 1) := by decide +kernel
theorem dX6_goWalk_25 : decode cX6_goWalk 25 = .ok (.if_icmp .ne 7, 3) := by decide +kernel
theorem dX6_goWalk_28 : decode cX6_goWalk 28 = .ok (.iconst 0, 1) := by decide +kernel
theorem dX6_goWalk_29 : decode cX6_goWalk 29 = .ok (.goto 11, 3) := by decide +kernel
theorem dX6_goWalk_32 : decode cX6_goWalk 32 = .ok (.aload_n 0, 1) := by decide +kernel
theorem dX6_goWalk_33 : decode cX6_goWalk 33 = .ok (.iload_n 3, 1) := by decide +kernel
theorem dX6_goWalk_34 : decode cX6_goWalk 34 = .ok (.iload_n 2, 1) := by decide +kernel
theorem dX6_goWalk_35 : decode cX6_goWalk 35 = .ok (.iload 4, 2) := by decide +kernel
theorem dX6_goWalk_37 : decode cX6_goWalk 37 = .ok (.invokevirtual 114, 3) := by decide +kernel
theorem dX6_goWalk_40 : decode cX6_goWalk 40 = .ok (.iadd, 1) := by decide +kernel
theorem dX6_goWalk_41 : decode cX6_goWalk 41 = .ok (.ireturn, 1) := by decide +kernel
set_option maxRecDepth 20000 in
theorem ggX6_goSaves_X6_goodAt : GoodIn wsX6_goSaves wsX6_goodAt := goodIn_r _ [5, 6, 7, 8, 9, 4, 10, 21, 22, 23, 24, 25, 26, 27, 28, 29, 30, 31, 32, 33, 34, 35, 36, 37] (by decide +kernel) (by decide +kernel)
set_option maxRecDepth 20000 in
theorem gX6_goSaves_X6_goodAt : GoodIn wsX6_goSaves (wsV RX6 80 RX6 yX6_goodAt wsX6_goodAt) := goodIn_app (goodIn_of _ (by decide +kernel)) ggX6_goSaves_X6_goodAt
set_option maxRecDepth 20000 in
theorem ggX6_goSaves_X6_of : GoodIn wsX6_goSaves wsX6_of := goodIn_r _ [10, 6, 21, 22, 23, 24, 25, 26, 27, 28, 29, 30, 31, 32, 33, 34, 35, 36, 37] (by decide +kernel) (by decide +kernel)
set_option maxRecDepth 20000 in
theorem gX6_goSaves_X6_of : GoodIn wsX6_goSaves (wsV RX6 44 RX6 yX6_of wsX6_of) := goodIn_app (goodIn_of _ (by decide +kernel)) ggX6_goSaves_X6_of
set_option maxRecDepth 20000 in
theorem ggX6_goSaves_X6_walk : GoodIn wsX6_goSaves wsX6_walk := goodIn_r _ [13, 14, 15, 4, 16] (by decide +kernel) (by decide +kernel)
set_option maxRecDepth 20000 in
theorem gX6_goSaves_X6_walk : GoodIn wsX6_goSaves (va_wsS RX6 51 yX6_walk wsX6_walk) := goodIn_app (goodIn_of _ (by decide +kernel)) ggX6_goSaves_X6_walk
set_option maxRecDepth 20000 in
theorem ggX6_goSaves_X6_season : GoodIn wsX6_goSaves wsX6_season := goodIn_r _ [20, 6, 21, 22, 23, 24, 25, 26, 27, 28, 29, 30, 31, 32, 33, 34, 35, 36, 37] (by decide +kernel) (by decide +kernel)
set_option maxRecDepth 20000 in
theorem gX6_goSaves_X6_season : GoodIn wsX6_goSaves (wsV RX6 65 RX6 yX6_season wsX6_season) := goodIn_app (goodIn_of _ (by decide +kernel)) ggX6_goSaves_X6_season
theorem dX6_goSaves_0 : decode cX6_goSaves 0 = .ok (.aload_n 0, 1) := by decide +kernel
theorem dX6_goSaves_1 : decode cX6_goSaves 1 = .ok (.iload_n 2, 1) := by decide +kernel
theorem dX6_goSaves_2 : decode cX6_goSaves 2 = .ok (.invokevirtual 80, 3) := by decide +kernel
theorem dX6_goSaves_5 : decode cX6_goSaves 5 = .ok (.istore_n 3, 1) := by decide +kernel
theorem dX6_goSaves_6 : decode cX6_goSaves 6 = .ok (.aload_n 0, 1) := by decide +kernel
theorem dX6_goSaves_7 : decode cX6_goSaves 7 = .ok (.iload_n 1, 1) := by decide +kernel
theorem dX6_goSaves_8 : decode cX6_goSaves 8 = .ok (.bipush 6, 2) := by decide +kernel
theorem dX6_goSaves_10 : decode cX6_goSaves 10 = .ok (.invokevirtual 44, 3) := by decide +kernel
theorem dX6_goSaves_13 : decode cX6_goSaves 13 = .ok (.invokestatic 51, 3) := by decide +kernel
theorem dX6_goSaves_16 : decode cX6_goSaves 16 = .ok (.iload_n 2, 1) := by decide +kernel
theorem dX6_goSaves_17 : decode cX6_goSaves 17 = .ok (.invokestatic 51, 3) := by decide +kernel
theorem dX6_goSaves_20 : decode cX6_goSaves 20 = .ok (.isub, 1) := by decide +kernel
theorem dX6_goSaves_21 : decode cX6_goSaves 21 = .ok (.istore 4, 2) := by decide +kernel
theorem dX6_goSaves_23 : decode cX6_goSaves 23 = .ok (.aload_n 0, 1) := by decide +kernel
theorem dX6_goSaves_24 : decode cX6_goSaves 24 = .ok (.iload_n 1, 1) := by decide +kernel
theorem dX6_goSaves_25 : decode cX6_goSaves 25 = .ok (.iconst 2, 1) := by decide +kernel
theorem dX6_goSaves_26 : decode cX6_goSaves 26 = .ok (.aload_n 0, 1) := by decide +kernel
theorem dX6_goSaves_27 : decode cX6_goSaves 27 = .ok (.invokevirtual 65, 3) := by decide +kernel
theorem dX6_goSaves_30 : decode cX6_goSaves 30 = .ok (.iadd, 1) := by decide +kernel
theorem dX6_goSaves_31 : decode cX6_goSaves 31 = .ok (.invokevirtual 44, 3) := by decide +kernel
theorem dX6_goSaves_34 : decode cX6_goSaves 34 = .ok (.istore 5, 2) := by decide +kernel
theorem dX6_goSaves_36 : decode cX6_goSaves 36 = .ok (.iload 4, 2) := by decide +kernel
theorem dX6_goSaves_38 : decode cX6_goSaves 38 = .ok (.iload_n 3, 1) := by decide +kernel
theorem dX6_goSaves_39 : decode cX6_goSaves 39 = .ok (.iconst (-1), 1) := by decide +kernel
theorem dX6_goSaves_40 : decode cX6_goSaves 40 = .ok (.if_icmp .ne 8, 3) := by decide +kernel
theorem dX6_goSaves_43 : decode cX6_goSaves 43 = .ok (.iload 5, 2) := by decide +kernel
theorem dX6_goSaves_45 : decode cX6_goSaves 45 = .ok (.goto 17, 3) := by decide +kernel
theorem dX6_goSaves_48 : decode cX6_goSaves 48 = .ok (.iload 5, 2) := by decide +kernel
theorem dX6_goSaves_50 : decode cX6_goSaves 50 = .ok (.aload_n 0, 1) := by decide +kernel
theorem dX6_goSaves_51 : decode cX6_goSaves 51 = .ok (.iload_n 3, 1) := by decide +kernel
theorem dX6_goSaves_52 : decode cX6_goSaves 52 = .ok (.iconst 2, 1) := by decide +kernel
theorem dX6_goSaves_53 : decode cX6_goSaves 53 = .ok (.aload_n 0, 1) := by decide +kernel
theorem dX6_goSaves_54 : decode cX6_goSaves 54 = .ok (.invokevirtual 65, 3) := by decide +kernel
theorem dX6_goSaves_57 : decode cX6_goSaves 57 = .ok (.iadd, 1) := by decide +kernel
theorem dX6_goSaves_58 : decode cX6_goSaves 58 = .ok (.invokevirtual 44, 3) := by decide +kernel
theorem dX6_goSaves_61 : decode cX6_goSaves 61 = .ok (.isub, 1) := by decide +kernel
theorem dX6_goSaves_62 : decode cX6_goSaves 62 = .ok (.imul, 1) := by decide +kernel
theorem dX6_goSaves_63 : decode cX6_goSaves 63 = .ok (.ireturn, 1) := by decide +kernel
set_option maxRecDepth 20000 in
theorem ggX6_goWorth_X6_goSaves : GoodIn wsX6_goWorth wsX6_goSaves := goodIn_r _ [5, 6, 7, 8, 4, 9, 10, 11, 12, 13, 14, 15, 16, 17, 18, 19, 20, 21, 22, 23, 24, 37, 38, 39, 40, 41, 42, 43, 44, 45, 46, 47, 48, 49, 50, 51, 52, 53] (by decide +kernel) (by decide +kernel)
set_option maxRecDepth 20000 in
theorem gX6_goWorth_X6_goSaves : GoodIn wsX6_goWorth (wsV RX6 118 RX6 yX6_goSaves wsX6_goSaves) := goodIn_app (goodIn_of _ (by decide +kernel)) ggX6_goWorth_X6_goSaves
set_option maxRecDepth 20000 in
theorem ggX6_goWorth_X6_weeksLeft : GoodIn wsX6_goWorth wsX6_weeksLeft := goodIn_r _ [28, 10, 37, 38, 39, 40, 41, 42, 43, 44, 45, 46, 47, 48, 49, 50, 51, 52, 53] (by decide +kernel) (by decide +kernel)
set_option maxRecDepth 20000 in
theorem gX6_goWorth_X6_weeksLeft : GoodIn wsX6_goWorth (wsV RX6 121 RX6 yX6_weeksLeft wsX6_weeksLeft) := goodIn_app (goodIn_of _ (by decide +kernel)) ggX6_goWorth_X6_weeksLeft
set_option maxRecDepth 20000 in
theorem ggX6_goWorth_X6_goWalk : GoodIn wsX6_goWorth wsX6_goWalk := goodIn_r _ [32, 6, 7, 8, 4, 9, 10, 11, 12, 13, 14, 33, 34, 35, 36, 18, 19, 20, 37, 38, 39, 40, 41, 42, 43, 44, 45, 46, 47, 48, 49, 50, 51, 52, 53] (by decide +kernel) (by decide +kernel)
set_option maxRecDepth 20000 in
theorem gX6_goWorth_X6_goWalk : GoodIn wsX6_goWorth (wsV RX6 124 RX6 yX6_goWalk wsX6_goWalk) := goodIn_app (goodIn_of _ (by decide +kernel)) ggX6_goWorth_X6_goWalk
theorem dX6_goWorth_0 : decode cX6_goWorth 0 = .ok (.aload_n 0, 1) := by decide +kernel
theorem dX6_goWorth_1 : decode cX6_goWorth 1 = .ok (.iload_n 1, 1) := by decide +kernel
theorem dX6_goWorth_2 : decode cX6_goWorth 2 = .ok (.iload_n 2, 1) := by decide +kernel
theorem dX6_goWorth_3 : decode cX6_goWorth 3 = .ok (.invokevirtual 118, 3) := by decide +kernel
theorem dX6_goWorth_6 : decode cX6_goWorth 6 = .ok (.aload_n 0, 1) := by decide +kernel
theorem dX6_goWorth_7 : decode cX6_goWorth 7 = .ok (.invokevirtual 121, 3) := by decide +kernel
theorem dX6_goWorth_10 : decode cX6_goWorth 10 = .ok (.imul, 1) := by decide +kernel
theorem dX6_goWorth_11 : decode cX6_goWorth 11 = .ok (.aload_n 0, 1) := by decide +kernel
theorem dX6_goWorth_12 : decode cX6_goWorth 12 = .ok (.iload_n 1, 1) := by decide +kernel
theorem dX6_goWorth_13 : decode cX6_goWorth 13 = .ok (.iload_n 2, 1) := by decide +kernel
theorem dX6_goWorth_14 : decode cX6_goWorth 14 = .ok (.invokevirtual 124, 3) := by decide +kernel
theorem dX6_goWorth_17 : decode cX6_goWorth 17 = .ok (.isub, 1) := by decide +kernel
theorem dX6_goWorth_18 : decode cX6_goWorth 18 = .ok (.ireturn, 1) := by decide +kernel
set_option maxRecDepth 20000 in
theorem ggX6_goes_X6_goodAt : GoodIn wsX6_goes wsX6_goodAt := goodIn_r _ [5, 6, 7, 8, 9, 4, 10, 41, 42, 43, 44, 45, 46, 47, 48, 49, 50, 51, 52, 53, 54, 55, 56, 57] (by decide +kernel) (by decide +kernel)
set_option maxRecDepth 20000 in
theorem gX6_goes_X6_goodAt : GoodIn wsX6_goes (wsV RX6 80 RX6 yX6_goodAt wsX6_goodAt) := goodIn_app (goodIn_of _ (by decide +kernel)) ggX6_goes_X6_goodAt
set_option maxRecDepth 20000 in
theorem ggX6_goes_X6_goSaves : GoodIn wsX6_goes wsX6_goSaves := goodIn_r _ [14, 1, 2, 3, 4, 5, 6, 7, 8, 9, 10, 15, 16, 17, 18, 19, 20, 21, 22, 23, 24, 41, 42, 43, 44, 45, 46, 47, 48, 49, 50, 51, 52, 53, 54, 55, 56, 57] (by decide +kernel) (by decide +kernel)
set_option maxRecDepth 20000 in
theorem gX6_goes_X6_goSaves : GoodIn wsX6_goes (wsV RX6 118 RX6 yX6_goSaves wsX6_goSaves) := goodIn_app (goodIn_of _ (by decide +kernel)) ggX6_goes_X6_goSaves
set_option maxRecDepth 20000 in
theorem ggX6_goes_X6_goWalk : GoodIn wsX6_goes wsX6_goWalk := goodIn_r _ [28, 1, 2, 3, 4, 5, 6, 7, 8, 9, 10, 29, 30, 31, 32, 18, 19, 20, 41, 42, 43, 44, 45, 46, 47, 48, 49, 50, 51, 52, 53, 54, 55, 56, 57] (by decide +kernel) (by decide +kernel)
set_option maxRecDepth 20000 in
theorem gX6_goes_X6_goWalk : GoodIn wsX6_goes (wsV RX6 124 RX6 yX6_goWalk wsX6_goWalk) := goodIn_app (goodIn_of _ (by decide +kernel)) ggX6_goes_X6_goWalk
set_option maxRecDepth 20000 in
theorem ggX6_goes_X6_adds : GoodIn wsX6_goes wsX6_adds := goodIn_r _ [36, 6, 41, 42, 43, 44, 45, 46, 47, 48, 49, 50, 51, 52, 53, 54, 55, 56, 57] (by decide +kernel) (by decide +kernel)
set_option maxRecDepth 20000 in
theorem gX6_goes_X6_adds : GoodIn wsX6_goes (wsV RX6 72 RX6 yX6_adds wsX6_adds) := goodIn_app (goodIn_of _ (by decide +kernel)) ggX6_goes_X6_adds
set_option maxRecDepth 20000 in
theorem ggX6_goes_X6_of : GoodIn wsX6_goes wsX6_of := goodIn_r _ [10, 6, 41, 42, 43, 44, 45, 46, 47, 48, 49, 50, 51, 52, 53, 54, 55, 56, 57] (by decide +kernel) (by decide +kernel)
set_option maxRecDepth 20000 in
theorem gX6_goes_X6_of : GoodIn wsX6_goes (wsV RX6 44 RX6 yX6_of wsX6_of) := goodIn_app (goodIn_of _ (by decide +kernel)) ggX6_goes_X6_of
set_option maxRecDepth 20000 in
theorem ggX6_goes_X6_lays : GoodIn wsX6_goes wsX6_lays := goodIn_r _ [40, 6, 41, 42, 43, 44, 45, 46, 47, 48, 49, 50, 51, 52, 53, 54, 55, 56, 57] (by decide +kernel) (by decide +kernel)
set_option maxRecDepth 20000 in
theorem gX6_goes_X6_lays : GoodIn wsX6_goes (wsV RX6 57 RX6 yX6_lays wsX6_lays) := goodIn_app (goodIn_of _ (by decide +kernel)) ggX6_goes_X6_lays
theorem dX6_goes_0 : decode cX6_goes 0 = .ok (.aload_n 0, 1) := by decide +kernel
theorem dX6_goes_1 : decode cX6_goes 1 = .ok (.iload_n 2, 1) := by decide +kernel
theorem dX6_goes_2 : decode cX6_goes 2 = .ok (.invokevirtual 80, 3) := by decide +kernel
theorem dX6_goes_5 : decode cX6_goes 5 = .ok (.istore_n 3, 1) := by decide +kernel
theorem dX6_goes_6 : decode cX6_goes 6 = .ok (.aload_n 0, 1) := by decide +kernel
theorem dX6_goes_7 : decode cX6_goes 7 = .ok (.iload_n 1, 1) := by decide +kernel
theorem dX6_goes_8 : decode cX6_goes 8 = .ok (.iload_n 2, 1) := by decide +kernel
theorem dX6_goes_9 : decode cX6_goes 9 = .ok (.invokevirtual 118, 3) := by decide +kernel
theorem dX6_goes_12 : decode cX6_goes 12 = .ok (.istore 4, 2) := by decide +kernel
theorem dX6_goes_14 : decode cX6_goes 14 = .ok (.aload_n 0, 1) := by decide +kernel
theorem dX6_goes_15 : decode cX6_goes 15 = .ok (.iconst 2, 1) := by decide +kernel
theorem dX6_goes_16 : decode cX6_goes 16 = .ok (.aload_n 0, 1) := by decide +kernel
theorem dX6_goes_17 : decode cX6_goes 17 = .ok (.iload_n 1, 1) := by decide +kernel
theorem dX6_goes_18 : decode cX6_goes 18 = .ok (.iload_n 2, 1) := by decide +kernel
theorem dX6_goes_19 : decode cX6_goes 19 = .ok (.invokevirtual 124, 3) := by decide +kernel
theorem dX6_goes_22 : decode cX6_goes 22 = .ok (.invokevirtual 72, 3) := by decide +kernel
theorem dX6_goes_25 : decode cX6_goes 25 = .ok (.aload_n 0, 1) := by decide +kernel
theorem dX6_goes_26 : decode cX6_goes 26 = .ok (.iconst 4, 1) := by decide +kernel
theorem dX6_goes_27 : decode cX6_goes 27 = .ok (.iload 4, 2) := by decide +kernel
theorem dX6_goes_29 : decode cX6_goes 29 = .ok (.invokevirtual 72, 3) := by decide +kernel
theorem dX6_goes_32 : decode cX6_goes 32 = .ok (.aload_n 0, 1) := by decide +kernel
theorem dX6_goes_33 : decode cX6_goes 33 = .ok (.bipush 6, 2) := by decide +kernel
theorem dX6_goes_35 : decode cX6_goes 35 = .ok (.iconst 1, 1) := by decide +kernel
theorem dX6_goes_36 : decode cX6_goes 36 = .ok (.invokevirtual 72, 3) := by decide +kernel
theorem dX6_goes_39 : decode cX6_goes 39 = .ok (.iload_n 3, 1) := by decide +kernel
theorem dX6_goes_40 : decode cX6_goes 40 = .ok (.iconst (-1), 1) := by decide +kernel
theorem dX6_goes_41 : decode cX6_goes 41 = .ok (.if_icmp .eq 17, 3) := by decide +kernel
theorem dX6_goes_44 : decode cX6_goes 44 = .ok (.aload_n 0, 1) := by decide +kernel
theorem dX6_goes_45 : decode cX6_goes 45 = .ok (.iload_n 3, 1) := by decide +kernel
theorem dX6_goes_46 : decode cX6_goes 46 = .ok (.bipush 6, 2) := by decide +kernel
theorem dX6_goes_48 : decode cX6_goes 48 = .ok (.aload_n 0, 1) := by decide +kernel
theorem dX6_goes_49 : decode cX6_goes 49 = .ok (.iload_n 1, 1) := by decide +kernel
theorem dX6_goes_50 : decode cX6_goes 50 = .ok (.bipush 6, 2) := by decide +kernel
theorem dX6_goes_52 : decode cX6_goes 52 = .ok (.invokevirtual 44, 3) := by decide +kernel
theorem dX6_goes_55 : decode cX6_goes 55 = .ok (.invokevirtual 57, 3) := by decide +kernel
theorem dX6_goes_58 : decode cX6_goes 58 = .ok (.aload_n 0, 1) := by decide +kernel
theorem dX6_goes_59 : decode cX6_goes 59 = .ok (.iload_n 1, 1) := by decide +kernel
theorem dX6_goes_60 : decode cX6_goes 60 = .ok (.bipush 6, 2) := by decide +kernel
theorem dX6_goes_62 : decode cX6_goes 62 = .ok (.iload_n 2, 1) := by decide +kernel
theorem dX6_goes_63 : decode cX6_goes 63 = .ok (.invokevirtual 57, 3) := by decide +kernel
theorem dX6_goes_66 : decode cX6_goes 66 = .ok (.iload 4, 2) := by decide +kernel
theorem dX6_goes_68 : decode cX6_goes 68 = .ok (.ireturn, 1) := by decide +kernel
set_option maxRecDepth 20000 in
theorem ggX6_move_X6_isGood : GoodIn wsX6_move wsX6_isGood := goodIn_r _ [6, 7, 8, 9, 5, 10, 76, 77, 78, 79, 80, 81, 82, 83, 84, 85, 86, 87, 88, 89, 90, 91, 92] (by decide +kernel) (by decide +kernel)
set_option maxRecDepth 20000 in
theorem gX6_move_X6_isGood : GoodIn wsX6_move (wsV RX6 61 RX6 yX6_isGood wsX6_isGood) := goodIn_app (goodIn_of _ (by decide +kernel)) ggX6_move_X6_isGood
set_option maxRecDepth 20000 in
theorem ggX6_move_X6_isSlot : GoodIn wsX6_move wsX6_isSlot := goodIn_r _ [13, 8, 9, 5, 10] (by decide +kernel) (by decide +kernel)
set_option maxRecDepth 20000 in
theorem gX6_move_X6_isSlot : GoodIn wsX6_move (va_wsS RX6 77 yX6_isSlot wsX6_isSlot) := goodIn_app (goodIn_of _ (by decide +kernel)) ggX6_move_X6_isSlot
set_option maxRecDepth 20000 in
theorem ggX6_move_X6_canMove : GoodIn wsX6_move wsX6_canMove := goodIn_r _ [17, 18, 19, 20, 5, 21, 7, 22, 23, 24, 25, 26, 27, 28, 29, 30, 31, 32, 76, 77, 78, 79, 80, 81, 82, 83, 84, 85, 86, 87, 88, 89, 90, 91, 92] (by decide +kernel) (by decide +kernel)
set_option maxRecDepth 20000 in
theorem gX6_move_X6_canMove : GoodIn wsX6_move (wsV RX6 108 RX6 yX6_canMove wsX6_canMove) := goodIn_app (goodIn_of _ (by decide +kernel)) ggX6_move_X6_canMove
set_option maxRecDepth 20000 in
theorem ggX6_move_X6_records : GoodIn wsX6_move wsX6_records := goodIn_r _ [36, 37, 38, 7, 39, 40, 5, 41, 76, 77, 78, 79, 80, 81, 82, 83, 84, 85, 86, 87, 88, 89, 90, 91, 92] (by decide +kernel) (by decide +kernel)
set_option maxRecDepth 20000 in
theorem gX6_move_X6_records : GoodIn wsX6_move (wsV RX6 54 RX6 yX6_records wsX6_records) := goodIn_app (goodIn_of _ (by decide +kernel)) ggX6_move_X6_records
set_option maxRecDepth 20000 in
theorem ggX6_move_X6_goes : GoodIn wsX6_move wsX6_goes := goodIn_r _ [45, 22, 23, 24, 5, 25, 7, 18, 19, 20, 21, 46, 47, 48, 49, 50, 51, 52, 53, 54, 55, 56, 57, 58, 59, 60, 61, 62, 63, 64, 65, 66, 67, 68, 69, 70, 71, 72, 73, 74, 75, 76, 77, 78, 79, 80, 81, 82, 83, 84, 85, 86, 87, 88, 89, 90, 91, 92] (by decide +kernel) (by decide +kernel)
set_option maxRecDepth 20000 in
theorem gX6_move_X6_goes : GoodIn wsX6_move (wsV RX6 128 RX6 yX6_goes wsX6_goes) := goodIn_app (goodIn_of _ (by decide +kernel)) ggX6_move_X6_goes
theorem dX6_move_0 : decode cX6_move 0 = .ok (.aload_n 0, 1) := by decide +kernel
theorem dX6_move_1 : decode cX6_move 1 = .ok (.iload_n 1, 1) := by decide +kernel
theorem dX6_move_2 : decode cX6_move 2 = .ok (.invokevirtual 61, 3) := by decide +kernel
theorem dX6_move_5 : decode cX6_move 5 = .ok (.ifCond .eq 10, 3) := by decide +kernel
theorem dX6_move_8 : decode cX6_move 8 = .ok (.iload_n 2, 1) := by decide +kernel
theorem dX6_move_9 : decode cX6_move 9 = .ok (.invokestatic 77, 3) := by decide +kernel
theorem dX6_move_12 : decode cX6_move 12 = .ok (.ifCond .ne 5, 3) := by decide +kernel
theorem dX6_move_15 : decode cX6_move 15 = .ok (.iconst (-1), 1) := by decide +kernel
theorem dX6_move_16 : decode cX6_move 16 = .ok (.ireturn, 1) := by decide +kernel
theorem dX6_move_17 : decode cX6_move 17 = .ok (.aload_n 0, 1) := by decide +kernel
theorem dX6_move_18 : decode cX6_move 18 = .ok (.iload_n 1, 1) := by decide +kernel
theorem dX6_move_19 : decode cX6_move 19 = .ok (.iload_n 2, 1) := by decide +kernel
theorem dX6_move_20 : decode cX6_move 20 = .ok (.invokevirtual 108, 3) := by decide +kernel
theorem dX6_move_23 : decode cX6_move 23 = .ok (.ifCond .ne 6, 3) := by decide +kernel
theorem dX6_move_26 : decode cX6_move 26 = .ok (.bipush (-2), 2) := by decide +kernel
theorem dX6_move_28 : decode cX6_move 28 = .ok (.ireturn, 1) := by decide +kernel
theorem dX6_move_29 : decode cX6_move 29 = .ok (.aload_n 0, 1) := by decide +kernel
theorem dX6_move_30 : decode cX6_move 30 = .ok (.invokevirtual 54, 3) := by decide +kernel
theorem dX6_move_33 : decode cX6_move 33 = .ok (.ldc 127, 2) := by decide +kernel
theorem dX6_move_35 : decode cX6_move 35 = .ok (.aload_n 0, 1) := by decide +kernel
theorem dX6_move_36 : decode cX6_move 36 = .ok (.iload_n 1, 1) := by decide +kernel
theorem dX6_move_37 : decode cX6_move 37 = .ok (.iload_n 2, 1) := by decide +kernel
theorem dX6_move_38 : decode cX6_move 38 = .ok (.invokevirtual 128, 3) := by decide +kernel
theorem dX6_move_41 : decode cX6_move 41 = .ok (.iadd, 1) := by decide +kernel
theorem dX6_move_42 : decode cX6_move 42 = .ok (.ireturn, 1) := by decide +kernel
set_option maxRecDepth 20000 in
theorem ggX6_exchange_X6_isGood : GoodIn wsX6_exchange wsX6_isGood := goodIn_r _ [6, 7, 8, 9, 5, 10, 73, 74, 75, 76, 77, 78, 79, 80, 81, 82, 83, 84, 85, 86, 87, 88, 89] (by decide +kernel) (by decide +kernel)
set_option maxRecDepth 20000 in
theorem gX6_exchange_X6_isGood : GoodIn wsX6_exchange (wsV RX6 61 RX6 yX6_isGood wsX6_isGood) := goodIn_app (goodIn_of _ (by decide +kernel)) ggX6_exchange_X6_isGood
set_option maxRecDepth 20000 in
theorem ggX6_exchange_X6_canExchange : GoodIn wsX6_exchange wsX6_canExchange := goodIn_r _ [14, 15, 16, 17, 5, 18, 7, 19, 20, 21, 22, 23, 24, 25, 73, 74, 75, 76, 77, 78, 79, 80, 81, 82, 83, 84, 85, 86, 87, 88, 89] (by decide +kernel) (by decide +kernel)
set_option maxRecDepth 20000 in
theorem gX6_exchange_X6_canExchange : GoodIn wsX6_exchange (wsV RX6 111 RX6 yX6_canExchange wsX6_canExchange) := goodIn_app (goodIn_of _ (by decide +kernel)) ggX6_exchange_X6_canExchange
set_option maxRecDepth 20000 in
theorem ggX6_exchange_X6_records : GoodIn wsX6_exchange wsX6_records := goodIn_r _ [29, 30, 31, 7, 32, 33, 5, 34, 73, 74, 75, 76, 77, 78, 79, 80, 81, 82, 83, 84, 85, 86, 87, 88, 89] (by decide +kernel) (by decide +kernel)
set_option maxRecDepth 20000 in
theorem gX6_exchange_X6_records : GoodIn wsX6_exchange (wsV RX6 54 RX6 yX6_records wsX6_records) := goodIn_app (goodIn_of _ (by decide +kernel)) ggX6_exchange_X6_records
set_option maxRecDepth 20000 in
theorem ggX6_exchange_X6_of : GoodIn wsX6_exchange wsX6_of := goodIn_r _ [18, 7, 73, 74, 75, 76, 77, 78, 79, 80, 81, 82, 83, 84, 85, 86, 87, 88, 89] (by decide +kernel) (by decide +kernel)
set_option maxRecDepth 20000 in
theorem gX6_exchange_X6_of : GoodIn wsX6_exchange (wsV RX6 44 RX6 yX6_of wsX6_of) := goodIn_app (goodIn_of _ (by decide +kernel)) ggX6_exchange_X6_of
set_option maxRecDepth 20000 in
theorem ggX6_exchange_X6_goes : GoodIn wsX6_exchange wsX6_goes := goodIn_r _ [38, 39, 40, 41, 5, 42, 7, 15, 16, 17, 18, 43, 44, 45, 46, 47, 48, 49, 50, 51, 52, 53, 54, 55, 56, 57, 58, 59, 60, 61, 62, 63, 64, 65, 66, 67, 68, 69, 70, 71, 72, 73, 74, 75, 76, 77, 78, 79, 80, 81, 82, 83, 84, 85, 86, 87, 88, 89] (by decide +kernel) (by decide +kernel)
set_option maxRecDepth 20000 in
theorem gX6_exchange_X6_goes : GoodIn wsX6_exchange (wsV RX6 128 RX6 yX6_goes wsX6_goes) := goodIn_app (goodIn_of _ (by decide +kernel)) ggX6_exchange_X6_goes
theorem dX6_exchange_0 : decode cX6_exchange 0 = .ok (.aload_n 0, 1) := by decide +kernel
theorem dX6_exchange_1 : decode cX6_exchange 1 = .ok (.iload_n 1, 1) := by decide +kernel
theorem dX6_exchange_2 : decode cX6_exchange 2 = .ok (.invokevirtual 61, 3) := by decide +kernel
theorem dX6_exchange_5 : decode cX6_exchange 5 = .ok (.ifCond .eq 16, 3) := by decide +kernel
theorem dX6_exchange_8 : decode cX6_exchange 8 = .ok (.aload_n 0, 1) := by decide +kernel
theorem dX6_exchange_9 : decode cX6_exchange 9 = .ok (.iload_n 2, 1) := by decide +kernel
theorem dX6_exchange_10 : decode cX6_exchange 10 = .ok (.invokevirtual 61, 3) := by decide +kernel
theorem dX6_exchange_13 : decode cX6_exchange 13 = .ok (.ifCond .eq 8, 3) := by decide +kernel
theorem dX6_exchange_16 : decode cX6_exchange 16 = .ok (.iload_n 1, 1) := by decide +kernel
theorem dX6_exchange_17 : decode cX6_exchange 17 = .ok (.iload_n 2, 1) := by decide +kernel
theorem dX6_exchange_18 : decode cX6_exchange 18 = .ok (.if_icmp .ne 5, 3) := by decide +kernel
theorem dX6_exchange_21 : decode cX6_exchange 21 = .ok (.iconst (-1), 1) := by decide +kernel
theorem dX6_exchange_22 : decode cX6_exchange 22 = .ok (.ireturn, 1) := by decide +kernel
theorem dX6_exchange_23 : decode cX6_exchange 23 = .ok (.aload_n 0, 1) := by decide +kernel
theorem dX6_exchange_24 : decode cX6_exchange 24 = .ok (.iload_n 1, 1) := by decide +kernel
theorem dX6_exchange_25 : decode cX6_exchange 25 = .ok (.iload_n 2, 1) := by decide +kernel
theorem dX6_exchange_26 : decode cX6_exchange 26 = .ok (.invokevirtual 111, 3) := by decide +kernel
theorem dX6_exchange_29 : decode cX6_exchange 29 = .ok (.ifCond .ne 6, 3) := by decide +kernel
theorem dX6_exchange_32 : decode cX6_exchange 32 = .ok (.bipush (-2), 2) := by decide +kernel
theorem dX6_exchange_34 : decode cX6_exchange 34 = .ok (.ireturn, 1) := by decide +kernel
theorem dX6_exchange_35 : decode cX6_exchange 35 = .ok (.aload_n 0, 1) := by decide +kernel
theorem dX6_exchange_36 : decode cX6_exchange 36 = .ok (.invokevirtual 54, 3) := by decide +kernel
theorem dX6_exchange_39 : decode cX6_exchange 39 = .ok (.ldc 127, 2) := by decide +kernel
theorem dX6_exchange_41 : decode cX6_exchange 41 = .ok (.aload_n 0, 1) := by decide +kernel
theorem dX6_exchange_42 : decode cX6_exchange 42 = .ok (.iload_n 1, 1) := by decide +kernel
theorem dX6_exchange_43 : decode cX6_exchange 43 = .ok (.aload_n 0, 1) := by decide +kernel
theorem dX6_exchange_44 : decode cX6_exchange 44 = .ok (.iload_n 2, 1) := by decide +kernel
theorem dX6_exchange_45 : decode cX6_exchange 45 = .ok (.bipush 6, 2) := by decide +kernel
theorem dX6_exchange_47 : decode cX6_exchange 47 = .ok (.invokevirtual 44, 3) := by decide +kernel
theorem dX6_exchange_50 : decode cX6_exchange 50 = .ok (.invokevirtual 128, 3) := by decide +kernel
theorem dX6_exchange_53 : decode cX6_exchange 53 = .ok (.iadd, 1) := by decide +kernel
theorem dX6_exchange_54 : decode cX6_exchange 54 = .ok (.ireturn, 1) := by decide +kernel
set_option maxRecDepth 20000 in
theorem ggX6_worth_X6_isGood : GoodIn wsX6_worth wsX6_isGood := goodIn_r _ [6, 7, 8, 9, 5, 10, 71, 72, 73, 74, 75, 76, 77, 78, 79, 80, 81, 82, 83, 84, 85, 86, 87] (by decide +kernel) (by decide +kernel)
set_option maxRecDepth 20000 in
theorem gX6_worth_X6_isGood : GoodIn wsX6_worth (wsV RX6 61 RX6 yX6_isGood wsX6_isGood) := goodIn_app (goodIn_of _ (by decide +kernel)) ggX6_worth_X6_isGood
set_option maxRecDepth 20000 in
theorem ggX6_worth_X6_isSlot : GoodIn wsX6_worth wsX6_isSlot := goodIn_r _ [13, 8, 9, 5, 10] (by decide +kernel) (by decide +kernel)
set_option maxRecDepth 20000 in
theorem gX6_worth_X6_isSlot : GoodIn wsX6_worth (va_wsS RX6 77 yX6_isSlot wsX6_isSlot) := goodIn_app (goodIn_of _ (by decide +kernel)) ggX6_worth_X6_isSlot
set_option maxRecDepth 20000 in
theorem ggX6_worth_X6_in : GoodIn wsX6_worth wsX6_in := goodIn_r _ [10] (by decide +kernel) (by decide +kernel)
set_option maxRecDepth 20000 in
theorem gX6_worth_X6_in : GoodIn wsX6_worth (va_wsS RX6 36 yX6_in wsX6_in) := goodIn_app (goodIn_of _ (by decide +kernel)) ggX6_worth_X6_in
set_option maxRecDepth 20000 in
theorem ggX6_worth_X6_of : GoodIn wsX6_worth wsX6_of := goodIn_r _ [17, 7, 71, 72, 73, 74, 75, 76, 77, 78, 79, 80, 81, 82, 83, 84, 85, 86, 87] (by decide +kernel) (by decide +kernel)
set_option maxRecDepth 20000 in
theorem gX6_worth_X6_of : GoodIn wsX6_worth (wsV RX6 44 RX6 yX6_of wsX6_of) := goodIn_app (goodIn_of _ (by decide +kernel)) ggX6_worth_X6_of
set_option maxRecDepth 20000 in
theorem ggX6_worth_X6_canGo : GoodIn wsX6_worth wsX6_canGo := goodIn_r _ [21, 22, 23, 24, 5, 25, 7, 14, 15, 16, 17, 26, 27, 28, 29, 30, 31, 32, 33, 34, 35, 36, 37, 38, 39, 40, 71, 72, 73, 74, 75, 76, 77, 78, 79, 80, 81, 82, 83, 84, 85, 86, 87] (by decide +kernel) (by decide +kernel)
set_option maxRecDepth 20000 in
theorem gX6_worth_X6_canGo : GoodIn wsX6_worth (wsV RX6 131 RX6 yX6_canGo wsX6_canGo) := goodIn_app (goodIn_of _ (by decide +kernel)) ggX6_worth_X6_canGo
set_option maxRecDepth 20000 in
theorem ggX6_worth_X6_goWorth : GoodIn wsX6_worth wsX6_goWorth := goodIn_r _ [44, 45, 46, 47, 5, 48, 22, 23, 24, 25, 7, 14, 15, 16, 17, 49, 50, 51, 52, 53, 54, 55, 56, 57, 58, 59, 60, 61, 62, 63, 64, 65, 66, 67, 68, 69, 70, 71, 72, 73, 74, 75, 76, 77, 78, 79, 80, 81, 82, 83, 84, 85, 86, 87] (by decide +kernel) (by decide +kernel)
set_option maxRecDepth 20000 in
theorem gX6_worth_X6_goWorth : GoodIn wsX6_worth (wsV RX6 134 RX6 yX6_goWorth wsX6_goWorth) := goodIn_app (goodIn_of _ (by decide +kernel)) ggX6_worth_X6_goWorth
set_option maxRecDepth 20000 in
theorem ggX6_worth_X6_goSaves : GoodIn wsX6_worth wsX6_goSaves := goodIn_r _ [48, 22, 23, 24, 5, 25, 7, 14, 15, 16, 17, 49, 50, 51, 52, 53, 54, 55, 56, 57, 58, 71, 72, 73, 74, 75, 76, 77, 78, 79, 80, 81, 82, 83, 84, 85, 86, 87] (by decide +kernel) (by decide +kernel)
set_option maxRecDepth 20000 in
theorem gX6_worth_X6_goSaves : GoodIn wsX6_worth (wsV RX6 118 RX6 yX6_goSaves wsX6_goSaves) := goodIn_app (goodIn_of _ (by decide +kernel)) ggX6_worth_X6_goSaves
set_option maxRecDepth 20000 in
theorem ggX6_worth_X6_goWalk : GoodIn wsX6_worth wsX6_goWalk := goodIn_r _ [66, 22, 23, 24, 5, 25, 7, 14, 15, 16, 17, 67, 68, 69, 70, 52, 53, 54, 71, 72, 73, 74, 75, 76, 77, 78, 79, 80, 81, 82, 83, 84, 85, 86, 87] (by decide +kernel) (by decide +kernel)
set_option maxRecDepth 20000 in
theorem gX6_worth_X6_goWalk : GoodIn wsX6_worth (wsV RX6 124 RX6 yX6_goWalk wsX6_goWalk) := goodIn_app (goodIn_of _ (by decide +kernel)) ggX6_worth_X6_goWalk
theorem dX6_worth_0 : decode cX6_worth 0 = .ok (.aload_n 0, 1) := by decide +kernel
theorem dX6_worth_1 : decode cX6_worth 1 = .ok (.iload_n 1, 1) := by decide +kernel
theorem dX6_worth_2 : decode cX6_worth 2 = .ok (.invokevirtual 61, 3) := by decide +kernel
theorem dX6_worth_5 : decode cX6_worth 5 = .ok (.ifCond .eq 19, 3) := by decide +kernel
theorem dX6_worth_8 : decode cX6_worth 8 = .ok (.iload_n 2, 1) := by decide +kernel
theorem dX6_worth_9 : decode cX6_worth 9 = .ok (.invokestatic 77, 3) := by decide +kernel
theorem dX6_worth_12 : decode cX6_worth 12 = .ok (.ifCond .eq 12, 3) := by decide +kernel
theorem dX6_worth_15 : decode cX6_worth 15 = .ok (.iload_n 3, 1) := by decide +kernel
theorem dX6_worth_16 : decode cX6_worth 16 = .ok (.iconst 0, 1) := by decide +kernel
theorem dX6_worth_17 : decode cX6_worth 17 = .ok (.iconst 2, 1) := by decide +kernel
theorem dX6_worth_18 : decode cX6_worth 18 = .ok (.invokestatic 36, 3) := by decide +kernel
theorem dX6_worth_21 : decode cX6_worth 21 = .ok (.ifCond .ne 5, 3) := by decide +kernel
theorem dX6_worth_24 : decode cX6_worth 24 = .ok (.iconst (-1), 1) := by decide +kernel
theorem dX6_worth_25 : decode cX6_worth 25 = .ok (.ireturn, 1) := by decide +kernel
theorem dX6_worth_26 : decode cX6_worth 26 = .ok (.aload_n 0, 1) := by decide +kernel
theorem dX6_worth_27 : decode cX6_worth 27 = .ok (.iload_n 1, 1) := by decide +kernel
theorem dX6_worth_28 : decode cX6_worth 28 = .ok (.bipush 6, 2) := by decide +kernel
theorem dX6_worth_30 : decode cX6_worth 30 = .ok (.invokevirtual 44, 3) := by decide +kernel
theorem dX6_worth_33 : decode cX6_worth 33 = .ok (.iload_n 2, 1) := by decide +kernel
theorem dX6_worth_34 : decode cX6_worth 34 = .ok (.if_icmp .eq 12, 3) := by decide +kernel
theorem dX6_worth_37 : decode cX6_worth 37 = .ok (.aload_n 0, 1) := by decide +kernel
theorem dX6_worth_38 : decode cX6_worth 38 = .ok (.iload_n 1, 1) := by decide +kernel
theorem dX6_worth_39 : decode cX6_worth 39 = .ok (.iload_n 2, 1) := by decide +kernel
theorem dX6_worth_40 : decode cX6_worth 40 = .ok (.invokevirtual 131, 3) := by decide +kernel
theorem dX6_worth_43 : decode cX6_worth 43 = .ok (.ifCond .ne 6, 3) := by decide +kernel
theorem dX6_worth_46 : decode cX6_worth 46 = .ok (.bipush (-2), 2) := by decide +kernel
theorem dX6_worth_48 : decode cX6_worth 48 = .ok (.ireturn, 1) := by decide +kernel
theorem dX6_worth_49 : decode cX6_worth 49 = .ok (.iload_n 3, 1) := by decide +kernel
theorem dX6_worth_50 : decode cX6_worth 50 = .ok (.ifCond .ne 15, 3) := by decide +kernel
theorem dX6_worth_53 : decode cX6_worth 53 = .ok (.ldc 127, 2) := by decide +kernel
theorem dX6_worth_55 : decode cX6_worth 55 = .ok (.aload_n 0, 1) := by decide +kernel
theorem dX6_worth_56 : decode cX6_worth 56 = .ok (.iload_n 1, 1) := by decide +kernel
theorem dX6_worth_57 : decode cX6_worth 57 = .ok (.iload_n 2, 1) := by decide +kernel
theorem dX6_worth_58 : decode cX6_worth 58 = .ok (.invokevirtual 134, 3) := by decide +kernel
theorem dX6_worth_61 : decode cX6_worth 61 = .ok (.iadd, 1) := by decide +kernel
theorem dX6_worth_62 : decode cX6_worth 62 = .ok (.goto 26, 3) := by decide +kernel
theorem dX6_worth_65 : decode cX6_worth 65 = .ok (.iload_n 3, 1) := by decide +kernel
theorem dX6_worth_66 : decode cX6_worth 66 = .ok (.iconst 1, 1) := by decide +kernel
theorem dX6_worth_67 : decode cX6_worth 67 = .ok (.if_icmp .ne 15, 3) := by decide +kernel
theorem dX6_worth_70 : decode cX6_worth 70 = .ok (.ldc 127, 2) := by decide +kernel
theorem dX6_worth_72 : decode cX6_worth 72 = .ok (.aload_n 0, 1) := by decide +kernel
theorem dX6_worth_73 : decode cX6_worth 73 = .ok (.iload_n 1, 1) := by decide +kernel
theorem dX6_worth_74 : decode cX6_worth 74 = .ok (.iload_n 2, 1) := by decide +kernel
theorem dX6_worth_75 : decode cX6_worth 75 = .ok (.invokevirtual 118, 3) := by decide +kernel
theorem dX6_worth_78 : decode cX6_worth 78 = .ok (.iadd, 1) := by decide +kernel
theorem dX6_worth_79 : decode cX6_worth 79 = .ok (.goto 9, 3) := by decide +kernel
theorem dX6_worth_82 : decode cX6_worth 82 = .ok (.aload_n 0, 1) := by decide +kernel
theorem dX6_worth_83 : decode cX6_worth 83 = .ok (.iload_n 1, 1) := by decide +kernel
theorem dX6_worth_84 : decode cX6_worth 84 = .ok (.iload_n 2, 1) := by decide +kernel
theorem dX6_worth_85 : decode cX6_worth 85 = .ok (.invokevirtual 124, 3) := by decide +kernel
theorem dX6_worth_88 : decode cX6_worth 88 = .ok (.ireturn, 1) := by decide +kernel
set_option maxRecDepth 20000 in
theorem ggX6_finds_X6_of : GoodIn wsX6_finds wsX6_of := goodIn_r _ [9, 2, 63, 64, 65, 66, 67, 68, 69, 70, 71, 72, 73, 74, 75, 76, 77, 78, 79] (by decide +kernel) (by decide +kernel)
set_option maxRecDepth 20000 in
theorem gX6_finds_X6_of : GoodIn wsX6_finds (wsV RX6 44 RX6 yX6_of wsX6_of) := goodIn_app (goodIn_of _ (by decide +kernel)) ggX6_finds_X6_of
set_option maxRecDepth 20000 in
theorem ggX6_finds_X6_canGo : GoodIn wsX6_finds wsX6_canGo := goodIn_r _ [13, 14, 15, 16, 8, 17, 2, 5, 6, 7, 9, 18, 19, 20, 21, 22, 23, 24, 25, 26, 27, 28, 29, 30, 31, 32, 63, 64, 65, 66, 67, 68, 69, 70, 71, 72, 73, 74, 75, 76, 77, 78, 79] (by decide +kernel) (by decide +kernel)
set_option maxRecDepth 20000 in
theorem gX6_finds_X6_canGo : GoodIn wsX6_finds (wsV RX6 131 RX6 yX6_canGo wsX6_canGo) := goodIn_app (goodIn_of _ (by decide +kernel)) ggX6_finds_X6_canGo
set_option maxRecDepth 20000 in
theorem ggX6_finds_X6_goWorth : GoodIn wsX6_finds wsX6_goWorth := goodIn_r _ [36, 37, 38, 39, 8, 40, 14, 15, 16, 17, 2, 5, 6, 7, 9, 41, 42, 43, 44, 45, 46, 47, 48, 49, 50, 51, 52, 53, 54, 55, 56, 57, 58, 59, 60, 61, 62, 63, 64, 65, 66, 67, 68, 69, 70, 71, 72, 73, 74, 75, 76, 77, 78, 79] (by decide +kernel) (by decide +kernel)
set_option maxRecDepth 20000 in
theorem gX6_finds_X6_goWorth : GoodIn wsX6_finds (wsV RX6 134 RX6 yX6_goWorth wsX6_goWorth) := goodIn_app (goodIn_of _ (by decide +kernel)) ggX6_finds_X6_goWorth
theorem dX6_finds_0 : decode cX6_finds 0 = .ok (.aload_n 0, 1) := by decide +kernel
theorem dX6_finds_1 : decode cX6_finds 1 = .ok (.iconst 0, 1) := by decide +kernel
theorem dX6_finds_2 : decode cX6_finds 2 = .ok (.putfield 137, 3) := by decide +kernel
theorem dX6_finds_5 : decode cX6_finds 5 = .ok (.iconst 0, 1) := by decide +kernel
theorem dX6_finds_6 : decode cX6_finds 6 = .ok (.istore_n 1, 1) := by decide +kernel
theorem dX6_finds_7 : decode cX6_finds 7 = .ok (.iload_n 1, 1) := by decide +kernel
theorem dX6_finds_8 : decode cX6_finds 8 = .ok (.aload_n 0, 1) := by decide +kernel
theorem dX6_finds_9 : decode cX6_finds 9 = .ok (.getfield 7, 3) := by decide +kernel
theorem dX6_finds_12 : decode cX6_finds 12 = .ok (.iconst 0, 1) := by decide +kernel
theorem dX6_finds_13 : decode cX6_finds 13 = .ok (.iaload, 1) := by decide +kernel
theorem dX6_finds_14 : decode cX6_finds 14 = .ok (.if_icmp .ge 76, 3) := by decide +kernel
theorem dX6_finds_17 : decode cX6_finds 17 = .ok (.iconst 0, 1) := by decide +kernel
theorem dX6_finds_18 : decode cX6_finds 18 = .ok (.istore_n 2, 1) := by decide +kernel
theorem dX6_finds_19 : decode cX6_finds 19 = .ok (.iload_n 2, 1) := by decide +kernel
theorem dX6_finds_20 : decode cX6_finds 20 = .ok (.bipush 60, 2) := by decide +kernel
theorem dX6_finds_22 : decode cX6_finds 22 = .ok (.if_icmp .ge 62, 3) := by decide +kernel
theorem dX6_finds_25 : decode cX6_finds 25 = .ok (.aload_n 0, 1) := by decide +kernel
theorem dX6_finds_26 : decode cX6_finds 26 = .ok (.iload_n 1, 1) := by decide +kernel
theorem dX6_finds_27 : decode cX6_finds 27 = .ok (.bipush 6, 2) := by decide +kernel
theorem dX6_finds_29 : decode cX6_finds 29 = .ok (.invokevirtual 44, 3) := by decide +kernel
theorem dX6_finds_32 : decode cX6_finds 32 = .ok (.iload_n 2, 1) := by decide +kernel
theorem dX6_finds_33 : decode cX6_finds 33 = .ok (.if_icmp .eq 45, 3) := by decide +kernel
theorem dX6_finds_36 : decode cX6_finds 36 = .ok (.aload_n 0, 1) := by decide +kernel
theorem dX6_finds_37 : decode cX6_finds 37 = .ok (.iload_n 1, 1) := by decide +kernel
theorem dX6_finds_38 : decode cX6_finds 38 = .ok (.iload_n 2, 1) := by decide +kernel
theorem dX6_finds_39 : decode cX6_finds 39 = .ok (.invokevirtual 131, 3) := by decide +kernel
theorem dX6_finds_42 : decode cX6_finds 42 = .ok (.ifCond .eq 36, 3) := by decide +kernel
theorem dX6_finds_45 : decode cX6_finds 45 = .ok (.aload_n 0, 1) := by decide +kernel
theorem dX6_finds_46 : decode cX6_finds 46 = .ok (.iload_n 1, 1) := by decide +kernel
theorem dX6_finds_47 : decode cX6_finds 47 = .ok (.iload_n 2, 1) := by decide +kernel
theorem dX6_finds_48 : decode cX6_finds 48 = .ok (.invokevirtual 134, 3) := by decide +kernel
theorem dX6_finds_51 : decode cX6_finds 51 = .ok (.aload_n 0, 1) := by decide +kernel
theorem dX6_finds_52 : decode cX6_finds 52 = .ok (.getfield 137, 3) := by decide +kernel
theorem dX6_finds_55 : decode cX6_finds 55 = .ok (.if_icmp .le 23, 3) := by decide +kernel
theorem dX6_finds_58 : decode cX6_finds 58 = .ok (.aload_n 0, 1) := by decide +kernel
theorem dX6_finds_59 : decode cX6_finds 59 = .ok (.iload_n 1, 1) := by decide +kernel
theorem dX6_finds_60 : decode cX6_finds 60 = .ok (.putfield 140, 3) := by decide +kernel
theorem dX6_finds_63 : decode cX6_finds 63 = .ok (.aload_n 0, 1) := by decide +kernel
theorem dX6_finds_64 : decode cX6_finds 64 = .ok (.iload_n 2, 1) := by decide +kernel
theorem dX6_finds_65 : decode cX6_finds 65 = .ok (.putfield 143, 3) := by decide +kernel
theorem dX6_finds_68 : decode cX6_finds 68 = .ok (.aload_n 0, 1) := by decide +kernel
theorem dX6_finds_69 : decode cX6_finds 69 = .ok (.aload_n 0, 1) := by decide +kernel
theorem dX6_finds_70 : decode cX6_finds 70 = .ok (.iload_n 1, 1) := by decide +kernel
theorem dX6_finds_71 : decode cX6_finds 71 = .ok (.iload_n 2, 1) := by decide +kernel
theorem dX6_finds_72 : decode cX6_finds 72 = .ok (.invokevirtual 134, 3) := by decide +kernel
theorem dX6_finds_75 : decode cX6_finds 75 = .ok (.putfield 137, 3) := by decide +kernel
theorem dX6_finds_78 : decode cX6_finds 78 = .ok (.iinc 2 1, 3) := by decide +kernel
theorem dX6_finds_81 : decode cX6_finds 81 = .ok (.goto (-62), 3) := by decide +kernel
theorem dX6_finds_84 : decode cX6_finds 84 = .ok (.iinc 1 1, 3) := by decide +kernel
theorem dX6_finds_87 : decode cX6_finds 87 = .ok (.goto (-80), 3) := by decide +kernel
theorem dX6_finds_90 : decode cX6_finds 90 = .ok (.return_, 1) := by decide +kernel
set_option maxRecDepth 20000 in
theorem ggX6_best_X6_in : GoodIn wsX6_best wsX6_in := goodIn_r _ [7] (by decide +kernel) (by decide +kernel)
set_option maxRecDepth 20000 in
theorem gX6_best_X6_in : GoodIn wsX6_best (va_wsS RX6 36 yX6_in wsX6_in) := goodIn_app (goodIn_of _ (by decide +kernel)) ggX6_best_X6_in
set_option maxRecDepth 20000 in
theorem ggX6_best_X6_finds : GoodIn wsX6_best wsX6_finds := goodIn_r _ [11, 1, 12, 2, 3, 13, 14, 15, 6, 16, 17, 18, 19, 20, 21, 22, 23, 24, 25, 26, 27, 28, 29, 30, 31, 32, 33, 34, 35, 36, 37, 38, 39, 40, 41, 42, 43, 44, 45, 46, 47, 48, 49, 50, 51, 52, 53, 54, 55, 56, 57, 58, 59, 60, 61, 62, 63, 64, 65, 66, 67, 68, 69, 70, 71, 72, 73, 74, 75, 76, 77, 78, 79, 80, 81, 82, 83, 84, 85, 86] (by decide +kernel) (by decide +kernel)
set_option maxRecDepth 20000 in
theorem gX6_best_X6_finds : GoodIn wsX6_best (wsV RX6 146 RX6 yX6_finds wsX6_finds) := goodIn_app (goodIn_of _ (by decide +kernel)) ggX6_best_X6_finds
theorem dX6_best_0 : decode cX6_best 0 = .ok (.iload_n 1, 1) := by decide +kernel
theorem dX6_best_1 : decode cX6_best 1 = .ok (.iconst 0, 1) := by decide +kernel
theorem dX6_best_2 : decode cX6_best 2 = .ok (.iconst 2, 1) := by decide +kernel
theorem dX6_best_3 : decode cX6_best 3 = .ok (.invokestatic 36, 3) := by decide +kernel
theorem dX6_best_6 : decode cX6_best 6 = .ok (.ifCond .ne 5, 3) := by decide +kernel
theorem dX6_best_9 : decode cX6_best 9 = .ok (.iconst (-1), 1) := by decide +kernel
theorem dX6_best_10 : decode cX6_best 10 = .ok (.ireturn, 1) := by decide +kernel
theorem dX6_best_11 : decode cX6_best 11 = .ok (.aload_n 0, 1) := by decide +kernel
theorem dX6_best_12 : decode cX6_best 12 = .ok (.invokevirtual 146, 3) := by decide +kernel
theorem dX6_best_15 : decode cX6_best 15 = .ok (.aload_n 0, 1) := by decide +kernel
theorem dX6_best_16 : decode cX6_best 16 = .ok (.getfield 137, 3) := by decide +kernel
theorem dX6_best_19 : decode cX6_best 19 = .ok (.ifCond .ne 8, 3) := by decide +kernel
theorem dX6_best_22 : decode cX6_best 22 = .ok (.bipush (-4), 2) := by decide +kernel
theorem dX6_best_24 : decode cX6_best 24 = .ok (.goto 30, 3) := by decide +kernel
theorem dX6_best_27 : decode cX6_best 27 = .ok (.iload_n 1, 1) := by decide +kernel
theorem dX6_best_28 : decode cX6_best 28 = .ok (.ifCond .ne 10, 3) := by decide +kernel
theorem dX6_best_31 : decode cX6_best 31 = .ok (.aload_n 0, 1) := by decide +kernel
theorem dX6_best_32 : decode cX6_best 32 = .ok (.getfield 140, 3) := by decide +kernel
theorem dX6_best_35 : decode cX6_best 35 = .ok (.goto 19, 3) := by decide +kernel
theorem dX6_best_38 : decode cX6_best 38 = .ok (.iload_n 1, 1) := by decide +kernel
theorem dX6_best_39 : decode cX6_best 39 = .ok (.iconst 1, 1) := by decide +kernel
theorem dX6_best_40 : decode cX6_best 40 = .ok (.if_icmp .ne 10, 3) := by decide +kernel
theorem dX6_best_43 : decode cX6_best 43 = .ok (.aload_n 0, 1) := by decide +kernel
theorem dX6_best_44 : decode cX6_best 44 = .ok (.getfield 143, 3) := by decide +kernel
theorem dX6_best_47 : decode cX6_best 47 = .ok (.goto 7, 3) := by decide +kernel
theorem dX6_best_50 : decode cX6_best 50 = .ok (.aload_n 0, 1) := by decide +kernel
theorem dX6_best_51 : decode cX6_best 51 = .ok (.getfield 137, 3) := by decide +kernel
theorem dX6_best_54 : decode cX6_best 54 = .ok (.ireturn, 1) := by decide +kernel
set_option maxRecDepth 20000 in
theorem ggX6_improve_X6_in : GoodIn wsX6_improve wsX6_in := goodIn_r _ [7] (by decide +kernel) (by decide +kernel)
set_option maxRecDepth 20000 in
theorem gX6_improve_X6_in : GoodIn wsX6_improve (va_wsS RX6 36 yX6_in wsX6_in) := goodIn_app (goodIn_of _ (by decide +kernel)) ggX6_improve_X6_in
set_option maxRecDepth 20000 in
theorem ggX6_improve_X6_finds : GoodIn wsX6_improve wsX6_finds := goodIn_r _ [11, 1, 12, 2, 3, 13, 14, 15, 6, 16, 17, 18, 19, 20, 21, 22, 23, 24, 25, 26, 27, 28, 29, 30, 31, 32, 33, 34, 35, 36, 37, 38, 39, 40, 41, 42, 43, 44, 45, 46, 47, 48, 49, 50, 51, 52, 53, 54, 55, 56, 57, 58, 59, 60, 61, 62, 63, 64, 65, 66, 67, 68, 69, 91, 92, 93, 94, 95, 96, 97, 98, 99, 100, 101, 102, 103, 104, 105, 106, 107] (by decide +kernel) (by decide +kernel)
set_option maxRecDepth 20000 in
theorem gX6_improve_X6_finds : GoodIn wsX6_improve (wsV RX6 146 RX6 yX6_finds wsX6_finds) := goodIn_app (goodIn_of _ (by decide +kernel)) ggX6_improve_X6_finds
set_option maxRecDepth 20000 in
theorem ggX6_improve_X6_records : GoodIn wsX6_improve wsX6_records := goodIn_r _ [73, 74, 75, 12, 76, 77, 6, 78, 91, 92, 93, 94, 95, 96, 97, 98, 99, 100, 101, 102, 103, 104, 105, 106, 107] (by decide +kernel) (by decide +kernel)
set_option maxRecDepth 20000 in
theorem gX6_improve_X6_records : GoodIn wsX6_improve (wsV RX6 54 RX6 yX6_records wsX6_records) := goodIn_app (goodIn_of _ (by decide +kernel)) ggX6_improve_X6_records
set_option maxRecDepth 20000 in
theorem ggX6_improve_X6_goes : GoodIn wsX6_improve wsX6_goes := goodIn_r _ [82, 21, 22, 23, 6, 24, 12, 13, 14, 15, 16, 44, 45, 46, 47, 48, 49, 50, 51, 52, 53, 54, 55, 56, 57, 62, 63, 64, 65, 66, 67, 68, 69, 83, 84, 85, 86, 87, 88, 89, 90, 91, 92, 93, 94, 95, 96, 97, 98, 99, 100, 101, 102, 103, 104, 105, 106, 107] (by decide +kernel) (by decide +kernel)
set_option maxRecDepth 20000 in
theorem gX6_improve_X6_goes : GoodIn wsX6_improve (wsV RX6 128 RX6 yX6_goes wsX6_goes) := goodIn_app (goodIn_of _ (by decide +kernel)) ggX6_improve_X6_goes
theorem dX6_improve_0 : decode cX6_improve 0 = .ok (.iload_n 1, 1) := by decide +kernel
theorem dX6_improve_1 : decode cX6_improve 1 = .ok (.iconst 1, 1) := by decide +kernel
theorem dX6_improve_2 : decode cX6_improve 2 = .ok (.bipush 10, 2) := by decide +kernel
theorem dX6_improve_4 : decode cX6_improve 4 = .ok (.invokestatic 36, 3) := by decide +kernel
theorem dX6_improve_7 : decode cX6_improve 7 = .ok (.ifCond .ne 5, 3) := by decide +kernel
theorem dX6_improve_10 : decode cX6_improve 10 = .ok (.iconst (-1), 1) := by decide +kernel
theorem dX6_improve_11 : decode cX6_improve 11 = .ok (.ireturn, 1) := by decide +kernel
theorem dX6_improve_12 : decode cX6_improve 12 = .ok (.aload_n 0, 1) := by decide +kernel
theorem dX6_improve_13 : decode cX6_improve 13 = .ok (.invokevirtual 146, 3) := by decide +kernel
theorem dX6_improve_16 : decode cX6_improve 16 = .ok (.aload_n 0, 1) := by decide +kernel
theorem dX6_improve_17 : decode cX6_improve 17 = .ok (.getfield 137, 3) := by decide +kernel
theorem dX6_improve_20 : decode cX6_improve 20 = .ok (.ifCond .ne 6, 3) := by decide +kernel
theorem dX6_improve_23 : decode cX6_improve 23 = .ok (.bipush (-4), 2) := by decide +kernel
theorem dX6_improve_25 : decode cX6_improve 25 = .ok (.ireturn, 1) := by decide +kernel
theorem dX6_improve_26 : decode cX6_improve 26 = .ok (.aload_n 0, 1) := by decide +kernel
theorem dX6_improve_27 : decode cX6_improve 27 = .ok (.invokevirtual 54, 3) := by decide +kernel
theorem dX6_improve_30 : decode cX6_improve 30 = .ok (.iconst 0, 1) := by decide +kernel
theorem dX6_improve_31 : decode cX6_improve 31 = .ok (.istore_n 2, 1) := by decide +kernel
theorem dX6_improve_32 : decode cX6_improve 32 = .ok (.iconst 0, 1) := by decide +kernel
theorem dX6_improve_33 : decode cX6_improve 33 = .ok (.istore_n 3, 1) := by decide +kernel
theorem dX6_improve_34 : decode cX6_improve 34 = .ok (.iload_n 2, 1) := by decide +kernel
theorem dX6_improve_35 : decode cX6_improve 35 = .ok (.iload_n 1, 1) := by decide +kernel
theorem dX6_improve_36 : decode cX6_improve 36 = .ok (.if_icmp .ge 35, 3) := by decide +kernel
theorem dX6_improve_39 : decode cX6_improve 39 = .ok (.aload_n 0, 1) := by decide +kernel
theorem dX6_improve_40 : decode cX6_improve 40 = .ok (.getfield 137, 3) := by decide +kernel
theorem dX6_improve_43 : decode cX6_improve 43 = .ok (.ifCond .le 28, 3) := by decide +kernel
theorem dX6_improve_46 : decode cX6_improve 46 = .ok (.iload_n 3, 1) := by decide +kernel
theorem dX6_improve_47 : decode cX6_improve 47 = .ok (.aload_n 0, 1) := by decide +kernel
theorem dX6_improve_48 : decode cX6_improve 48 = .ok (.aload_n 0, 1) := by decide +kernel
theorem dX6_improve_49 : decode cX6_improve 49 = .ok (.getfield 140, 3) := by decide +kernel
theorem dX6_improve_52 : decode cX6_improve 52 = .ok (.aload_n 0, 1) := by decide +kernel
theorem dX6_improve_53 : decode cX6_improve 53 = .ok (.getfield 143, 3) := by decide +kernel
theorem dX6_improve_56 : decode cX6_improve 56 = .ok (.invokevirtual 128, 3) := by decide +kernel
theorem dX6_improve_59 : decode cX6_improve 59 = .ok (.iadd, 1) := by decide +kernel
theorem dX6_improve_60 : decode cX6_improve 60 = .ok (.istore_n 3, 1) := by decide +kernel
theorem dX6_improve_61 : decode cX6_improve 61 = .ok (.iinc 2 1, 3) := by decide +kernel
theorem dX6_improve_64 : decode cX6_improve 64 = .ok (.aload_n 0, 1) := by decide +kernel
theorem dX6_improve_65 : decode cX6_improve 65 = .ok (.invokevirtual 146, 3) := by decide +kernel
theorem dX6_improve_68 : decode cX6_improve 68 = .ok (.goto (-34), 3) := by decide +kernel
theorem dX6_improve_71 : decode cX6_improve 71 = .ok (.iload_n 2, 1) := by decide +kernel
theorem dX6_improve_72 : decode cX6_improve 72 = .ok (.ireturn, 1) := by decide +kernel
set_option maxRecDepth 20000 in
theorem ggX6_weekly_X6_in : GoodIn wsX6_weekly wsX6_in := goodIn_r _ [4] (by decide +kernel) (by decide +kernel)
set_option maxRecDepth 20000 in
theorem gX6_weekly_X6_in : GoodIn wsX6_weekly (va_wsS RX6 36 yX6_in wsX6_in) := goodIn_app (goodIn_of _ (by decide +kernel)) ggX6_weekly_X6_in
set_option maxRecDepth 20000 in
theorem ggX6_weekly_X6_weeklyOf : GoodIn wsX6_weekly wsX6_weeklyOf := goodIn_r _ [8, 9, 10, 11, 12, 3, 13, 14, 15, 16, 17, 18, 19, 20, 21, 22, 23, 24, 25, 26, 27, 28, 29, 30, 31, 32, 33, 34, 35, 36] (by decide +kernel) (by decide +kernel)
set_option maxRecDepth 20000 in
theorem gX6_weekly_X6_weeklyOf : GoodIn wsX6_weekly (wsV RX6 69 RX6 yX6_weeklyOf wsX6_weeklyOf) := goodIn_app (goodIn_of _ (by decide +kernel)) ggX6_weekly_X6_weeklyOf
theorem dX6_weekly_0 : decode cX6_weekly 0 = .ok (.iload_n 1, 1) := by decide +kernel
theorem dX6_weekly_1 : decode cX6_weekly 1 = .ok (.iconst 0, 1) := by decide +kernel
theorem dX6_weekly_2 : decode cX6_weekly 2 = .ok (.iconst 3, 1) := by decide +kernel
theorem dX6_weekly_3 : decode cX6_weekly 3 = .ok (.invokestatic 36, 3) := by decide +kernel
theorem dX6_weekly_6 : decode cX6_weekly 6 = .ok (.ifCond .eq 11, 3) := by decide +kernel
theorem dX6_weekly_9 : decode cX6_weekly 9 = .ok (.aload_n 0, 1) := by decide +kernel
theorem dX6_weekly_10 : decode cX6_weekly 10 = .ok (.iload_n 1, 1) := by decide +kernel
theorem dX6_weekly_11 : decode cX6_weekly 11 = .ok (.invokevirtual 69, 3) := by decide +kernel
theorem dX6_weekly_14 : decode cX6_weekly 14 = .ok (.goto 4, 3) := by decide +kernel
theorem dX6_weekly_17 : decode cX6_weekly 17 = .ok (.iconst (-1), 1) := by decide +kernel
theorem dX6_weekly_18 : decode cX6_weekly 18 = .ok (.ireturn, 1) := by decide +kernel
theorem dX6_sorts_0 : decode cX6_sorts 0 = .ok (.iconst 0, 1) := by decide +kernel
theorem dX6_sorts_1 : decode cX6_sorts 1 = .ok (.istore_n 3, 1) := by decide +kernel
theorem dX6_sorts_2 : decode cX6_sorts 2 = .ok (.iload_n 3, 1) := by decide +kernel
theorem dX6_sorts_3 : decode cX6_sorts 3 = .ok (.iload_n 1, 1) := by decide +kernel
theorem dX6_sorts_4 : decode cX6_sorts 4 = .ok (.if_icmp .ge 71, 3) := by decide +kernel
theorem dX6_sorts_7 : decode cX6_sorts 7 = .ok (.iload_n 3, 1) := by decide +kernel
theorem dX6_sorts_8 : decode cX6_sorts 8 = .ok (.iconst 1, 1) := by decide +kernel
theorem dX6_sorts_9 : decode cX6_sorts 9 = .ok (.iadd, 1) := by decide +kernel
theorem dX6_sorts_10 : decode cX6_sorts 10 = .ok (.istore 4, 2) := by decide +kernel
theorem dX6_sorts_12 : decode cX6_sorts 12 = .ok (.iload 4, 2) := by decide +kernel
theorem dX6_sorts_14 : decode cX6_sorts 14 = .ok (.iload_n 1, 1) := by decide +kernel
theorem dX6_sorts_15 : decode cX6_sorts 15 = .ok (.if_icmp .ge 54, 3) := by decide +kernel
theorem dX6_sorts_18 : decode cX6_sorts 18 = .ok (.iload_n 2, 1) := by decide +kernel
theorem dX6_sorts_19 : decode cX6_sorts 19 = .ok (.ifCond .eq 16, 3) := by decide +kernel
theorem dX6_sorts_22 : decode cX6_sorts 22 = .ok (.aload_n 0, 1) := by decide +kernel
theorem dX6_sorts_23 : decode cX6_sorts 23 = .ok (.iload 4, 2) := by decide +kernel
theorem dX6_sorts_25 : decode cX6_sorts 25 = .ok (.iaload, 1) := by decide +kernel
theorem dX6_sorts_26 : decode cX6_sorts 26 = .ok (.aload_n 0, 1) := by decide +kernel
theorem dX6_sorts_27 : decode cX6_sorts 27 = .ok (.iload_n 3, 1) := by decide +kernel
theorem dX6_sorts_28 : decode cX6_sorts 28 = .ok (.iaload, 1) := by decide +kernel
theorem dX6_sorts_29 : decode cX6_sorts 29 = .ok (.if_icmp .ge 34, 3) := by decide +kernel
theorem dX6_sorts_32 : decode cX6_sorts 32 = .ok (.goto 13, 3) := by decide +kernel
theorem dX6_sorts_35 : decode cX6_sorts 35 = .ok (.aload_n 0, 1) := by decide +kernel
theorem dX6_sorts_36 : decode cX6_sorts 36 = .ok (.iload 4, 2) := by decide +kernel
theorem dX6_sorts_38 : decode cX6_sorts 38 = .ok (.iaload, 1) := by decide +kernel
theorem dX6_sorts_39 : decode cX6_sorts 39 = .ok (.aload_n 0, 1) := by decide +kernel
theorem dX6_sorts_40 : decode cX6_sorts 40 = .ok (.iload_n 3, 1) := by decide +kernel
theorem dX6_sorts_41 : decode cX6_sorts 41 = .ok (.iaload, 1) := by decide +kernel
theorem dX6_sorts_42 : decode cX6_sorts 42 = .ok (.if_icmp .le 21, 3) := by decide +kernel
theorem dX6_sorts_45 : decode cX6_sorts 45 = .ok (.aload_n 0, 1) := by decide +kernel
theorem dX6_sorts_46 : decode cX6_sorts 46 = .ok (.iload_n 3, 1) := by decide +kernel
theorem dX6_sorts_47 : decode cX6_sorts 47 = .ok (.iaload, 1) := by decide +kernel
theorem dX6_sorts_48 : decode cX6_sorts 48 = .ok (.istore 5, 2) := by decide +kernel
theorem dX6_sorts_50 : decode cX6_sorts 50 = .ok (.aload_n 0, 1) := by decide +kernel
theorem dX6_sorts_51 : decode cX6_sorts 51 = .ok (.iload_n 3, 1) := by decide +kernel
theorem dX6_sorts_52 : decode cX6_sorts 52 = .ok (.aload_n 0, 1) := by decide +kernel
theorem dX6_sorts_53 : decode cX6_sorts 53 = .ok (.iload 4, 2) := by decide +kernel
theorem dX6_sorts_55 : decode cX6_sorts 55 = .ok (.iaload, 1) := by decide +kernel
theorem dX6_sorts_56 : decode cX6_sorts 56 = .ok (.iastore, 1) := by decide +kernel
theorem dX6_sorts_57 : decode cX6_sorts 57 = .ok (.aload_n 0, 1) := by decide +kernel
theorem dX6_sorts_58 : decode cX6_sorts 58 = .ok (.iload 4, 2) := by decide +kernel
theorem dX6_sorts_60 : decode cX6_sorts 60 = .ok (.iload 5, 2) := by decide +kernel
theorem dX6_sorts_62 : decode cX6_sorts 62 = .ok (.iastore, 1) := by decide +kernel
theorem dX6_sorts_63 : decode cX6_sorts 63 = .ok (.iinc 4 1, 3) := by decide +kernel
theorem dX6_sorts_66 : decode cX6_sorts 66 = .ok (.goto (-54), 3) := by decide +kernel
theorem dX6_sorts_69 : decode cX6_sorts 69 = .ok (.iinc 3 1, 3) := by decide +kernel
theorem dX6_sorts_72 : decode cX6_sorts 72 = .ok (.goto (-70), 3) := by decide +kernel
theorem dX6_sorts_75 : decode cX6_sorts 75 = .ok (.return_, 1) := by decide +kernel
set_option maxRecDepth 20000 in
theorem ggX6_atBest_X6_in : GoodIn wsX6_atBest wsX6_in := goodIn_r _ [7] (by decide +kernel) (by decide +kernel)
set_option maxRecDepth 20000 in
theorem gX6_atBest_X6_in : GoodIn wsX6_atBest (va_wsS RX6 36 yX6_in wsX6_in) := goodIn_app (goodIn_of _ (by decide +kernel)) ggX6_atBest_X6_in
set_option maxRecDepth 20000 in
theorem ggX6_atBest_X6_of : GoodIn wsX6_atBest wsX6_of := goodIn_r _ [11, 1, 21, 22, 23, 24, 25, 26, 27, 28, 29, 30, 31, 32, 33, 34, 35, 36, 37] (by decide +kernel) (by decide +kernel)
set_option maxRecDepth 20000 in
theorem gX6_atBest_X6_of : GoodIn wsX6_atBest (wsV RX6 44 RX6 yX6_of wsX6_of) := goodIn_app (goodIn_of _ (by decide +kernel)) ggX6_atBest_X6_of
set_option maxRecDepth 20000 in
theorem ggX6_atBest_X6_walk : GoodIn wsX6_atBest wsX6_walk := goodIn_r _ [14, 15, 16, 6, 17] (by decide +kernel) (by decide +kernel)
set_option maxRecDepth 20000 in
theorem gX6_atBest_X6_walk : GoodIn wsX6_atBest (va_wsS RX6 51 yX6_walk wsX6_walk) := goodIn_app (goodIn_of _ (by decide +kernel)) ggX6_atBest_X6_walk
set_option maxRecDepth 20000 in
theorem ggX6_atBest_X6_sorts : GoodIn wsX6_atBest wsX6_sorts := goodIn_r _ [20] (by decide +kernel) (by decide +kernel)
set_option maxRecDepth 20000 in
theorem gX6_atBest_X6_sorts : GoodIn wsX6_atBest (va_wsS RX6 149 yX6_sorts wsX6_sorts) := goodIn_app (goodIn_of _ (by decide +kernel)) ggX6_atBest_X6_sorts
theorem dX6_atBest_0 : decode cX6_atBest 0 = .ok (.iload_n 1, 1) := by decide +kernel
theorem dX6_atBest_1 : decode cX6_atBest 1 = .ok (.iconst 0, 1) := by decide +kernel
theorem dX6_atBest_2 : decode cX6_atBest 2 = .ok (.iconst 3, 1) := by decide +kernel
theorem dX6_atBest_3 : decode cX6_atBest 3 = .ok (.invokestatic 36, 3) := by decide +kernel
theorem dX6_atBest_6 : decode cX6_atBest 6 = .ok (.ifCond .ne 5, 3) := by decide +kernel
theorem dX6_atBest_9 : decode cX6_atBest 9 = .ok (.iconst (-1), 1) := by decide +kernel
theorem dX6_atBest_10 : decode cX6_atBest 10 = .ok (.ireturn, 1) := by decide +kernel
theorem dX6_atBest_11 : decode cX6_atBest 11 = .ok (.iconst 0, 1) := by decide +kernel
theorem dX6_atBest_12 : decode cX6_atBest 12 = .ok (.istore_n 2, 1) := by decide +kernel
theorem dX6_atBest_13 : decode cX6_atBest 13 = .ok (.iconst 0, 1) := by decide +kernel
theorem dX6_atBest_14 : decode cX6_atBest 14 = .ok (.istore_n 3, 1) := by decide +kernel
theorem dX6_atBest_15 : decode cX6_atBest 15 = .ok (.iload_n 3, 1) := by decide +kernel
theorem dX6_atBest_16 : decode cX6_atBest 16 = .ok (.aload_n 0, 1) := by decide +kernel
theorem dX6_atBest_17 : decode cX6_atBest 17 = .ok (.getfield 7, 3) := by decide +kernel
theorem dX6_atBest_20 : decode cX6_atBest 20 = .ok (.iconst 0, 1) := by decide +kernel
theorem dX6_atBest_21 : decode cX6_atBest 21 = .ok (.iaload, 1) := by decide +kernel
theorem dX6_atBest_22 : decode cX6_atBest 22 = .ok (.if_icmp .ge 53, 3) := by decide +kernel
theorem dX6_atBest_25 : decode cX6_atBest 25 = .ok (.aload_n 0, 1) := by decide +kernel
theorem dX6_atBest_26 : decode cX6_atBest 26 = .ok (.iload_n 3, 1) := by decide +kernel
theorem dX6_atBest_27 : decode cX6_atBest 27 = .ok (.bipush 6, 2) := by decide +kernel
theorem dX6_atBest_29 : decode cX6_atBest 29 = .ok (.invokevirtual 44, 3) := by decide +kernel
theorem dX6_atBest_32 : decode cX6_atBest 32 = .ok (.iconst (-1), 1) := by decide +kernel
theorem dX6_atBest_33 : decode cX6_atBest 33 = .ok (.if_icmp .eq 36, 3) := by decide +kernel
theorem dX6_atBest_36 : decode cX6_atBest 36 = .ok (.aload_n 0, 1) := by decide +kernel
theorem dX6_atBest_37 : decode cX6_atBest 37 = .ok (.getfield 22, 3) := by decide +kernel
theorem dX6_atBest_40 : decode cX6_atBest 40 = .ok (.iload_n 2, 1) := by decide +kernel
theorem dX6_atBest_41 : decode cX6_atBest 41 = .ok (.aload_n 0, 1) := by decide +kernel
theorem dX6_atBest_42 : decode cX6_atBest 42 = .ok (.iload_n 3, 1) := by decide +kernel
theorem dX6_atBest_43 : decode cX6_atBest 43 = .ok (.bipush 6, 2) := by decide +kernel
theorem dX6_atBest_45 : decode cX6_atBest 45 = .ok (.invokevirtual 44, 3) := by decide +kernel
theorem dX6_atBest_48 : decode cX6_atBest 48 = .ok (.invokestatic 51, 3) := by decide +kernel
theorem dX6_atBest_51 : decode cX6_atBest 51 = .ok (.iastore, 1) := by decide +kernel
theorem dX6_atBest_52 : decode cX6_atBest 52 = .ok (.aload_n 0, 1) := by decide +kernel
theorem dX6_atBest_53 : decode cX6_atBest 53 = .ok (.getfield 25, 3) := by decide +kernel
theorem dX6_atBest_56 : decode cX6_atBest 56 = .ok (.iload_n 2, 1) := by decide +kernel
theorem dX6_atBest_57 : decode cX6_atBest 57 = .ok (.aload_n 0, 1) := by decide +kernel
theorem dX6_atBest_58 : decode cX6_atBest 58 = .ok (.iload_n 3, 1) := by decide +kernel
theorem dX6_atBest_59 : decode cX6_atBest 59 = .ok (.iconst 2, 1) := by decide +kernel
theorem dX6_atBest_60 : decode cX6_atBest 60 = .ok (.iload_n 1, 1) := by decide +kernel
theorem dX6_atBest_61 : decode cX6_atBest 61 = .ok (.iadd, 1) := by decide +kernel
theorem dX6_atBest_62 : decode cX6_atBest 62 = .ok (.invokevirtual 44, 3) := by decide +kernel
theorem dX6_atBest_65 : decode cX6_atBest 65 = .ok (.iastore, 1) := by decide +kernel
theorem dX6_atBest_66 : decode cX6_atBest 66 = .ok (.iinc 2 1, 3) := by decide +kernel
theorem dX6_atBest_69 : decode cX6_atBest 69 = .ok (.iinc 3 1, 3) := by decide +kernel
theorem dX6_atBest_72 : decode cX6_atBest 72 = .ok (.goto (-57), 3) := by decide +kernel
theorem dX6_atBest_75 : decode cX6_atBest 75 = .ok (.aload_n 0, 1) := by decide +kernel
theorem dX6_atBest_76 : decode cX6_atBest 76 = .ok (.getfield 22, 3) := by decide +kernel
theorem dX6_atBest_79 : decode cX6_atBest 79 = .ok (.iload_n 2, 1) := by decide +kernel
theorem dX6_atBest_80 : decode cX6_atBest 80 = .ok (.iconst 1, 1) := by decide +kernel
theorem dX6_atBest_81 : decode cX6_atBest 81 = .ok (.invokestatic 149, 3) := by decide +kernel
theorem dX6_atBest_84 : decode cX6_atBest 84 = .ok (.aload_n 0, 1) := by decide +kernel
theorem dX6_atBest_85 : decode cX6_atBest 85 = .ok (.getfield 25, 3) := by decide +kernel
theorem dX6_atBest_88 : decode cX6_atBest 88 = .ok (.iload_n 2, 1) := by decide +kernel
theorem dX6_atBest_89 : decode cX6_atBest 89 = .ok (.iconst 0, 1) := by decide +kernel
theorem dX6_atBest_90 : decode cX6_atBest 90 = .ok (.invokestatic 149, 3) := by decide +kernel
theorem dX6_atBest_93 : decode cX6_atBest 93 = .ok (.iconst 0, 1) := by decide +kernel
theorem dX6_atBest_94 : decode cX6_atBest 94 = .ok (.istore_n 3, 1) := by decide +kernel
theorem dX6_atBest_95 : decode cX6_atBest 95 = .ok (.iconst 0, 1) := by decide +kernel
theorem dX6_atBest_96 : decode cX6_atBest 96 = .ok (.istore 4, 2) := by decide +kernel
theorem dX6_atBest_98 : decode cX6_atBest 98 = .ok (.iload 4, 2) := by decide +kernel
theorem dX6_atBest_100 : decode cX6_atBest 100 = .ok (.iload_n 2, 1) := by decide +kernel
theorem dX6_atBest_101 : decode cX6_atBest 101 = .ok (.if_icmp .ge 27, 3) := by decide +kernel
theorem dX6_atBest_104 : decode cX6_atBest 104 = .ok (.iload_n 3, 1) := by decide +kernel
theorem dX6_atBest_105 : decode cX6_atBest 105 = .ok (.aload_n 0, 1) := by decide +kernel
theorem dX6_atBest_106 : decode cX6_atBest 106 = .ok (.getfield 22, 3) := by decide +kernel
theorem dX6_atBest_109 : decode cX6_atBest 109 = .ok (.iload 4, 2) := by decide +kernel
theorem dX6_atBest_111 : decode cX6_atBest 111 = .ok (.iaload, 1) := by decide +kernel
theorem dX6_atBest_112 : decode cX6_atBest 112 = .ok (.aload_n 0, 1) := by decide +kernel
theorem dX6_atBest_113 : decode cX6_atBest 113 = .ok (.getfield 25, 3) := by decide +kernel
theorem dX6_atBest_116 : decode cX6_atBest 116 = .ok (.iload 4, 2) := by decide +kernel
theorem dX6_atBest_118 : decode cX6_atBest 118 = .ok (.iaload, 1) := by decide +kernel
theorem dX6_atBest_119 : decode cX6_atBest 119 = .ok (.imul, 1) := by decide +kernel
theorem dX6_atBest_120 : decode cX6_atBest 120 = .ok (.iadd, 1) := by decide +kernel
theorem dX6_atBest_121 : decode cX6_atBest 121 = .ok (.istore_n 3, 1) := by decide +kernel
theorem dX6_atBest_122 : decode cX6_atBest 122 = .ok (.iinc 4 1, 3) := by decide +kernel
theorem dX6_atBest_125 : decode cX6_atBest 125 = .ok (.goto (-27), 3) := by decide +kernel
theorem dX6_atBest_128 : decode cX6_atBest 128 = .ok (.iload_n 3, 1) := by decide +kernel
theorem dX6_atBest_129 : decode cX6_atBest 129 = .ok (.ireturn, 1) := by decide +kernel
set_option maxRecDepth 20000 in
theorem ggX6_account_X6_in : GoodIn wsX6_account wsX6_in := goodIn_r _ [6] (by decide +kernel) (by decide +kernel)
set_option maxRecDepth 20000 in
theorem gX6_account_X6_in : GoodIn wsX6_account (va_wsS RX6 36 yX6_in wsX6_in) := goodIn_app (goodIn_of _ (by decide +kernel)) ggX6_account_X6_in
theorem dX6_account_0 : decode cX6_account 0 = .ok (.iload_n 1, 1) := by decide +kernel
theorem dX6_account_1 : decode cX6_account 1 = .ok (.iconst 0, 1) := by decide +kernel
theorem dX6_account_2 : decode cX6_account 2 = .ok (.bipush 7, 2) := by decide +kernel
theorem dX6_account_4 : decode cX6_account 4 = .ok (.invokestatic 36, 3) := by decide +kernel
theorem dX6_account_7 : decode cX6_account 7 = .ok (.ifCond .ne 5, 3) := by decide +kernel
theorem dX6_account_10 : decode cX6_account 10 = .ok (.iconst (-1), 1) := by decide +kernel
theorem dX6_account_11 : decode cX6_account 11 = .ok (.ireturn, 1) := by decide +kernel
theorem dX6_account_12 : decode cX6_account 12 = .ok (.iload_n 1, 1) := by decide +kernel
theorem dX6_account_13 : decode cX6_account 13 = .ok (.iconst 4, 1) := by decide +kernel
theorem dX6_account_14 : decode cX6_account 14 = .ok (.if_icmp .eq 8, 3) := by decide +kernel
theorem dX6_account_17 : decode cX6_account 17 = .ok (.iload_n 1, 1) := by decide +kernel
theorem dX6_account_18 : decode cX6_account 18 = .ok (.iconst 5, 1) := by decide +kernel
theorem dX6_account_19 : decode cX6_account 19 = .ok (.if_icmp .ne 8, 3) := by decide +kernel
theorem dX6_account_22 : decode cX6_account 22 = .ok (.ldc 127, 2) := by decide +kernel
theorem dX6_account_24 : decode cX6_account 24 = .ok (.goto 4, 3) := by decide +kernel
theorem dX6_account_27 : decode cX6_account 27 = .ok (.iconst 0, 1) := by decide +kernel
theorem dX6_account_28 : decode cX6_account 28 = .ok (.aload_n 0, 1) := by decide +kernel
theorem dX6_account_29 : decode cX6_account 29 = .ok (.getfield 7, 3) := by decide +kernel
theorem dX6_account_32 : decode cX6_account 32 = .ok (.iconst 5, 1) := by decide +kernel
theorem dX6_account_33 : decode cX6_account 33 = .ok (.iload_n 1, 1) := by decide +kernel
theorem dX6_account_34 : decode cX6_account 34 = .ok (.iadd, 1) := by decide +kernel
theorem dX6_account_35 : decode cX6_account 35 = .ok (.iaload, 1) := by decide +kernel
theorem dX6_account_36 : decode cX6_account 36 = .ok (.iadd, 1) := by decide +kernel
theorem dX6_account_37 : decode cX6_account 37 = .ok (.ireturn, 1) := by decide +kernel
set_option maxRecDepth 20000 in
theorem ggX6_sumOf_X6_of : GoodIn wsX6_sumOf wsX6_of := goodIn_r _ [6, 1, 7, 8, 9, 10, 11, 12, 13, 14, 15, 16, 17, 18, 19, 20, 21, 22, 23] (by decide +kernel) (by decide +kernel)
set_option maxRecDepth 20000 in
theorem gX6_sumOf_X6_of : GoodIn wsX6_sumOf (wsV RX6 44 RX6 yX6_of wsX6_of) := goodIn_app (goodIn_of _ (by decide +kernel)) ggX6_sumOf_X6_of
theorem dX6_sumOf_0 : decode cX6_sumOf 0 = .ok (.iconst 0, 1) := by decide +kernel
theorem dX6_sumOf_1 : decode cX6_sumOf 1 = .ok (.istore_n 2, 1) := by decide +kernel
theorem dX6_sumOf_2 : decode cX6_sumOf 2 = .ok (.iconst 0, 1) := by decide +kernel
theorem dX6_sumOf_3 : decode cX6_sumOf 3 = .ok (.istore_n 3, 1) := by decide +kernel
theorem dX6_sumOf_4 : decode cX6_sumOf 4 = .ok (.iload_n 3, 1) := by decide +kernel
theorem dX6_sumOf_5 : decode cX6_sumOf 5 = .ok (.aload_n 0, 1) := by decide +kernel
theorem dX6_sumOf_6 : decode cX6_sumOf 6 = .ok (.getfield 7, 3) := by decide +kernel
theorem dX6_sumOf_9 : decode cX6_sumOf 9 = .ok (.iconst 0, 1) := by decide +kernel
theorem dX6_sumOf_10 : decode cX6_sumOf 10 = .ok (.iaload, 1) := by decide +kernel
theorem dX6_sumOf_11 : decode cX6_sumOf 11 = .ok (.if_icmp .ge 86, 3) := by decide +kernel
theorem dX6_sumOf_14 : decode cX6_sumOf 14 = .ok (.aload_n 0, 1) := by decide +kernel
theorem dX6_sumOf_15 : decode cX6_sumOf 15 = .ok (.iload_n 3, 1) := by decide +kernel
theorem dX6_sumOf_16 : decode cX6_sumOf 16 = .ok (.bipush 6, 2) := by decide +kernel
theorem dX6_sumOf_18 : decode cX6_sumOf 18 = .ok (.invokevirtual 44, 3) := by decide +kernel
theorem dX6_sumOf_21 : decode cX6_sumOf 21 = .ok (.iconst (-1), 1) := by decide +kernel
theorem dX6_sumOf_22 : decode cX6_sumOf 22 = .ok (.if_icmp .eq 7, 3) := by decide +kernel
theorem dX6_sumOf_25 : decode cX6_sumOf 25 = .ok (.iconst 1, 1) := by decide +kernel
theorem dX6_sumOf_26 : decode cX6_sumOf 26 = .ok (.goto 4, 3) := by decide +kernel
theorem dX6_sumOf_29 : decode cX6_sumOf 29 = .ok (.iconst 0, 1) := by decide +kernel
theorem dX6_sumOf_30 : decode cX6_sumOf 30 = .ok (.istore 4, 2) := by decide +kernel
theorem dX6_sumOf_32 : decode cX6_sumOf 32 = .ok (.iload_n 2, 1) := by decide +kernel
theorem dX6_sumOf_33 : decode cX6_sumOf 33 = .ok (.iload_n 1, 1) := by decide +kernel
theorem dX6_sumOf_34 : decode cX6_sumOf 34 = .ok (.iconst 5, 1) := by decide +kernel
theorem dX6_sumOf_35 : decode cX6_sumOf 35 = .ok (.if_icmp .ne 13, 3) := by decide +kernel
theorem dX6_sumOf_38 : decode cX6_sumOf 38 = .ok (.aload_n 0, 1) := by decide +kernel
theorem dX6_sumOf_39 : decode cX6_sumOf 39 = .ok (.iload_n 3, 1) := by decide +kernel
theorem dX6_sumOf_40 : decode cX6_sumOf 40 = .ok (.bipush 7, 2) := by decide +kernel
theorem dX6_sumOf_42 : decode cX6_sumOf 42 = .ok (.invokevirtual 44, 3) := by decide +kernel
theorem dX6_sumOf_45 : decode cX6_sumOf 45 = .ok (.goto 44, 3) := by decide +kernel
theorem dX6_sumOf_48 : decode cX6_sumOf 48 = .ok (.iload_n 1, 1) := by decide +kernel
theorem dX6_sumOf_49 : decode cX6_sumOf 49 = .ok (.bipush 6, 2) := by decide +kernel
theorem dX6_sumOf_51 : decode cX6_sumOf 51 = .ok (.if_icmp .ne 13, 3) := by decide +kernel
theorem dX6_sumOf_54 : decode cX6_sumOf 54 = .ok (.aload_n 0, 1) := by decide +kernel
theorem dX6_sumOf_55 : decode cX6_sumOf 55 = .ok (.iload_n 3, 1) := by decide +kernel
theorem dX6_sumOf_56 : decode cX6_sumOf 56 = .ok (.bipush 8, 2) := by decide +kernel
theorem dX6_sumOf_58 : decode cX6_sumOf 58 = .ok (.invokevirtual 44, 3) := by decide +kernel
theorem dX6_sumOf_61 : decode cX6_sumOf 61 = .ok (.goto 28, 3) := by decide +kernel
theorem dX6_sumOf_64 : decode cX6_sumOf 64 = .ok (.iload 4, 2) := by decide +kernel
theorem dX6_sumOf_66 : decode cX6_sumOf 66 = .ok (.ifCond .eq 22, 3) := by decide +kernel
theorem dX6_sumOf_69 : decode cX6_sumOf 69 = .ok (.iload_n 1, 1) := by decide +kernel
theorem dX6_sumOf_70 : decode cX6_sumOf 70 = .ok (.iconst 1, 1) := by decide +kernel
theorem dX6_sumOf_71 : decode cX6_sumOf 71 = .ok (.if_icmp .eq 13, 3) := by decide +kernel
theorem dX6_sumOf_74 : decode cX6_sumOf 74 = .ok (.aload_n 0, 1) := by decide +kernel
theorem dX6_sumOf_75 : decode cX6_sumOf 75 = .ok (.iload_n 3, 1) := by decide +kernel
theorem dX6_sumOf_76 : decode cX6_sumOf 76 = .ok (.bipush 7, 2) := by decide +kernel
theorem dX6_sumOf_78 : decode cX6_sumOf 78 = .ok (.invokevirtual 44, 3) := by decide +kernel
theorem dX6_sumOf_81 : decode cX6_sumOf 81 = .ok (.ifCond .ne 7, 3) := by decide +kernel
theorem dX6_sumOf_84 : decode cX6_sumOf 84 = .ok (.iconst 1, 1) := by decide +kernel
theorem dX6_sumOf_85 : decode cX6_sumOf 85 = .ok (.goto 4, 3) := by decide +kernel
theorem dX6_sumOf_88 : decode cX6_sumOf 88 = .ok (.iconst 0, 1) := by decide +kernel
theorem dX6_sumOf_89 : decode cX6_sumOf 89 = .ok (.iadd, 1) := by decide +kernel
theorem dX6_sumOf_90 : decode cX6_sumOf 90 = .ok (.istore_n 2, 1) := by decide +kernel
theorem dX6_sumOf_91 : decode cX6_sumOf 91 = .ok (.iinc 3 1, 3) := by decide +kernel
theorem dX6_sumOf_94 : decode cX6_sumOf 94 = .ok (.goto (-90), 3) := by decide +kernel
theorem dX6_sumOf_97 : decode cX6_sumOf 97 = .ok (.iload_n 2, 1) := by decide +kernel
theorem dX6_sumOf_98 : decode cX6_sumOf 98 = .ok (.ireturn, 1) := by decide +kernel
set_option maxRecDepth 20000 in
theorem ggX6_count_X6_sumOf : GoodIn wsX6_count wsX6_sumOf := goodIn_r _ [8, 1, 9, 10, 11, 7, 12, 24, 25, 26, 27, 28, 29, 30, 31, 32, 33, 34, 35, 36, 37, 38, 39, 40] (by decide +kernel) (by decide +kernel)
set_option maxRecDepth 20000 in
theorem gX6_count_X6_sumOf : GoodIn wsX6_count (wsV RX6 153 RX6 yX6_sumOf wsX6_sumOf) := goodIn_app (goodIn_of _ (by decide +kernel)) ggX6_count_X6_sumOf
set_option maxRecDepth 20000 in
theorem ggX6_count_X6_season : GoodIn wsX6_count wsX6_season := goodIn_r _ [16, 1, 24, 25, 26, 27, 28, 29, 30, 31, 32, 33, 34, 35, 36, 37, 38, 39, 40] (by decide +kernel) (by decide +kernel)
set_option maxRecDepth 20000 in
theorem gX6_count_X6_season : GoodIn wsX6_count (wsV RX6 65 RX6 yX6_season wsX6_season) := goodIn_app (goodIn_of _ (by decide +kernel)) ggX6_count_X6_season
set_option maxRecDepth 20000 in
theorem ggX6_count_X6_weeksLeft : GoodIn wsX6_count wsX6_weeksLeft := goodIn_r _ [20, 1, 24, 25, 26, 27, 28, 29, 30, 31, 32, 33, 34, 35, 36, 37, 38, 39, 40] (by decide +kernel) (by decide +kernel)
set_option maxRecDepth 20000 in
theorem gX6_count_X6_weeksLeft : GoodIn wsX6_count (wsV RX6 121 RX6 yX6_weeksLeft wsX6_weeksLeft) := goodIn_app (goodIn_of _ (by decide +kernel)) ggX6_count_X6_weeksLeft
set_option maxRecDepth 20000 in
theorem ggX6_count_X6_in : GoodIn wsX6_count wsX6_in := goodIn_r _ [23] (by decide +kernel) (by decide +kernel)
set_option maxRecDepth 20000 in
theorem gX6_count_X6_in : GoodIn wsX6_count (va_wsS RX6 36 yX6_in wsX6_in) := goodIn_app (goodIn_of _ (by decide +kernel)) ggX6_count_X6_in
theorem dX6_count_0 : decode cX6_count 0 = .ok (.iload_n 1, 1) := by decide +kernel
theorem dX6_count_1 : decode cX6_count 1 = .ok (.tableswitch 95 0 9 #[55, 62, 68, 75, 80, 62, 62, 62, 85, 90], 55) := by decide +kernel
theorem dX6_count_56 : decode cX6_count 56 = .ok (.aload_n 0, 1) := by decide +kernel
theorem dX6_count_57 : decode cX6_count 57 = .ok (.getfield 7, 3) := by decide +kernel
theorem dX6_count_60 : decode cX6_count 60 = .ok (.iconst 0, 1) := by decide +kernel
theorem dX6_count_61 : decode cX6_count 61 = .ok (.iaload, 1) := by decide +kernel
theorem dX6_count_62 : decode cX6_count 62 = .ok (.ireturn, 1) := by decide +kernel
theorem dX6_count_63 : decode cX6_count 63 = .ok (.aload_n 0, 1) := by decide +kernel
theorem dX6_count_64 : decode cX6_count 64 = .ok (.iload_n 1, 1) := by decide +kernel
theorem dX6_count_65 : decode cX6_count 65 = .ok (.invokevirtual 153, 3) := by decide +kernel
theorem dX6_count_68 : decode cX6_count 68 = .ok (.ireturn, 1) := by decide +kernel
theorem dX6_count_69 : decode cX6_count 69 = .ok (.aload_n 0, 1) := by decide +kernel
theorem dX6_count_70 : decode cX6_count 70 = .ok (.getfield 7, 3) := by decide +kernel
theorem dX6_count_73 : decode cX6_count 73 = .ok (.iconst 1, 1) := by decide +kernel
theorem dX6_count_74 : decode cX6_count 74 = .ok (.iaload, 1) := by decide +kernel
theorem dX6_count_75 : decode cX6_count 75 = .ok (.ireturn, 1) := by decide +kernel
theorem dX6_count_76 : decode cX6_count 76 = .ok (.aload_n 0, 1) := by decide +kernel
theorem dX6_count_77 : decode cX6_count 77 = .ok (.invokevirtual 65, 3) := by decide +kernel
theorem dX6_count_80 : decode cX6_count 80 = .ok (.ireturn, 1) := by decide +kernel
theorem dX6_count_81 : decode cX6_count 81 = .ok (.aload_n 0, 1) := by decide +kernel
theorem dX6_count_82 : decode cX6_count 82 = .ok (.invokevirtual 121, 3) := by decide +kernel
theorem dX6_count_85 : decode cX6_count 85 = .ok (.ireturn, 1) := by decide +kernel
theorem dX6_count_86 : decode cX6_count 86 = .ok (.aload_n 0, 1) := by decide +kernel
theorem dX6_count_87 : decode cX6_count 87 = .ok (.getfield 28, 3) := by decide +kernel
theorem dX6_count_90 : decode cX6_count 90 = .ok (.ireturn, 1) := by decide +kernel
theorem dX6_count_91 : decode cX6_count 91 = .ok (.aload_n 0, 1) := by decide +kernel
theorem dX6_count_92 : decode cX6_count 92 = .ok (.getfield 156, 3) := by decide +kernel
theorem dX6_count_95 : decode cX6_count 95 = .ok (.ireturn, 1) := by decide +kernel
theorem dX6_count_96 : decode cX6_count 96 = .ok (.iload_n 1, 1) := by decide +kernel
theorem dX6_count_97 : decode cX6_count 97 = .ok (.bipush 20, 2) := by decide +kernel
theorem dX6_count_99 : decode cX6_count 99 = .ok (.bipush 22, 2) := by decide +kernel
theorem dX6_count_101 : decode cX6_count 101 = .ok (.invokestatic 36, 3) := by decide +kernel
theorem dX6_count_104 : decode cX6_count 104 = .ok (.ifCond .eq 17, 3) := by decide +kernel
theorem dX6_count_107 : decode cX6_count 107 = .ok (.aload_n 0, 1) := by decide +kernel
theorem dX6_count_108 : decode cX6_count 108 = .ok (.getfield 7, 3) := by decide +kernel
theorem dX6_count_111 : decode cX6_count 111 = .ok (.iconst 2, 1) := by decide +kernel
theorem dX6_count_112 : decode cX6_count 112 = .ok (.iload_n 1, 1) := by decide +kernel
theorem dX6_count_113 : decode cX6_count 113 = .ok (.iadd, 1) := by decide +kernel
theorem dX6_count_114 : decode cX6_count 114 = .ok (.bipush 20, 2) := by decide +kernel
theorem dX6_count_116 : decode cX6_count 116 = .ok (.isub, 1) := by decide +kernel
theorem dX6_count_117 : decode cX6_count 117 = .ok (.iaload, 1) := by decide +kernel
theorem dX6_count_118 : decode cX6_count 118 = .ok (.goto 4, 3) := by decide +kernel
theorem dX6_count_121 : decode cX6_count 121 = .ok (.iconst (-1), 1) := by decide +kernel
theorem dX6_count_122 : decode cX6_count 122 = .ok (.ireturn, 1) := by decide +kernel
set_option maxRecDepth 20000 in
theorem ggX6_set_X6_in : GoodIn wsX6_set wsX6_in := goodIn_r _ [5] (by decide +kernel) (by decide +kernel)
set_option maxRecDepth 20000 in
theorem gX6_set_X6_in : GoodIn wsX6_set (va_wsS RX6 36 yX6_in wsX6_in) := goodIn_app (goodIn_of _ (by decide +kernel)) ggX6_set_X6_in
set_option maxRecDepth 20000 in
theorem ggX6_set_X6_records : GoodIn wsX6_set wsX6_records := goodIn_r _ [9, 10, 11, 1, 12, 13, 4, 14, 15, 16, 17, 18, 19, 20, 21, 22, 23, 24, 25, 26, 27, 28, 29, 30, 31] (by decide +kernel) (by decide +kernel)
set_option maxRecDepth 20000 in
theorem gX6_set_X6_records : GoodIn wsX6_set (wsV RX6 54 RX6 yX6_records wsX6_records) := goodIn_app (goodIn_of _ (by decide +kernel)) ggX6_set_X6_records
theorem dX6_set_0 : decode cX6_set 0 = .ok (.iload_n 1, 1) := by decide +kernel
theorem dX6_set_1 : decode cX6_set 1 = .ok (.iconst 0, 1) := by decide +kernel
theorem dX6_set_2 : decode cX6_set 2 = .ok (.iconst 2, 1) := by decide +kernel
theorem dX6_set_3 : decode cX6_set 3 = .ok (.invokestatic 36, 3) := by decide +kernel
theorem dX6_set_6 : decode cX6_set 6 = .ok (.ifCond .eq 42, 3) := by decide +kernel
theorem dX6_set_9 : decode cX6_set 9 = .ok (.iload_n 2, 1) := by decide +kernel
theorem dX6_set_10 : decode cX6_set 10 = .ok (.iload_n 1, 1) := by decide +kernel
theorem dX6_set_11 : decode cX6_set 11 = .ok (.iconst 1, 1) := by decide +kernel
theorem dX6_set_12 : decode cX6_set 12 = .ok (.if_icmp .ne 7, 3) := by decide +kernel
theorem dX6_set_15 : decode cX6_set 15 = .ok (.iconst 1, 1) := by decide +kernel
theorem dX6_set_16 : decode cX6_set 16 = .ok (.goto 4, 3) := by decide +kernel
theorem dX6_set_19 : decode cX6_set 19 = .ok (.iconst 0, 1) := by decide +kernel
theorem dX6_set_20 : decode cX6_set 20 = .ok (.iload_n 1, 1) := by decide +kernel
theorem dX6_set_21 : decode cX6_set 21 = .ok (.ifCond .ne 9, 3) := by decide +kernel
theorem dX6_set_24 : decode cX6_set 24 = .ok (.sipush 200, 3) := by decide +kernel
theorem dX6_set_27 : decode cX6_set 27 = .ok (.goto 15, 3) := by decide +kernel
theorem dX6_set_30 : decode cX6_set 30 = .ok (.iload_n 1, 1) := by decide +kernel
theorem dX6_set_31 : decode cX6_set 31 = .ok (.iconst 1, 1) := by decide +kernel
theorem dX6_set_32 : decode cX6_set 32 = .ok (.if_icmp .ne 9, 3) := by decide +kernel
theorem dX6_set_35 : decode cX6_set 35 = .ok (.sipush 500, 3) := by decide +kernel
theorem dX6_set_38 : decode cX6_set 38 = .ok (.goto 4, 3) := by decide +kernel
theorem dX6_set_41 : decode cX6_set 41 = .ok (.iconst 1, 1) := by decide +kernel
theorem dX6_set_42 : decode cX6_set 42 = .ok (.invokestatic 36, 3) := by decide +kernel
theorem dX6_set_45 : decode cX6_set 45 = .ok (.ifCond .ne 5, 3) := by decide +kernel
theorem dX6_set_48 : decode cX6_set 48 = .ok (.iconst (-1), 1) := by decide +kernel
theorem dX6_set_49 : decode cX6_set 49 = .ok (.ireturn, 1) := by decide +kernel
theorem dX6_set_50 : decode cX6_set 50 = .ok (.aload_n 0, 1) := by decide +kernel
theorem dX6_set_51 : decode cX6_set 51 = .ok (.invokevirtual 54, 3) := by decide +kernel
theorem dX6_set_54 : decode cX6_set 54 = .ok (.aload_n 0, 1) := by decide +kernel
theorem dX6_set_55 : decode cX6_set 55 = .ok (.getfield 7, 3) := by decide +kernel
theorem dX6_set_58 : decode cX6_set 58 = .ok (.iconst 2, 1) := by decide +kernel
theorem dX6_set_59 : decode cX6_set 59 = .ok (.iload_n 1, 1) := by decide +kernel
theorem dX6_set_60 : decode cX6_set 60 = .ok (.iadd, 1) := by decide +kernel
theorem dX6_set_61 : decode cX6_set 61 = .ok (.iaload, 1) := by decide +kernel
theorem dX6_set_62 : decode cX6_set 62 = .ok (.istore_n 3, 1) := by decide +kernel
theorem dX6_set_63 : decode cX6_set 63 = .ok (.aload_n 0, 1) := by decide +kernel
theorem dX6_set_64 : decode cX6_set 64 = .ok (.getfield 7, 3) := by decide +kernel
theorem dX6_set_67 : decode cX6_set 67 = .ok (.iconst 2, 1) := by decide +kernel
theorem dX6_set_68 : decode cX6_set 68 = .ok (.iload_n 1, 1) := by decide +kernel
theorem dX6_set_69 : decode cX6_set 69 = .ok (.iadd, 1) := by decide +kernel
theorem dX6_set_70 : decode cX6_set 70 = .ok (.iload_n 2, 1) := by decide +kernel
theorem dX6_set_71 : decode cX6_set 71 = .ok (.iastore, 1) := by decide +kernel
theorem dX6_set_72 : decode cX6_set 72 = .ok (.iload_n 3, 1) := by decide +kernel
theorem dX6_set_73 : decode cX6_set 73 = .ok (.ireturn, 1) := by decide +kernel
set_option maxRecDepth 20000 in
theorem ggX6_undo_X6_copies : GoodIn wsX6_undo wsX6_copies := goodIn_r _ [7] (by decide +kernel) (by decide +kernel)
set_option maxRecDepth 20000 in
theorem gX6_undo_X6_copies : GoodIn wsX6_undo (va_wsS RX6 32 yX6_copies wsX6_copies) := goodIn_app (goodIn_of _ (by decide +kernel)) ggX6_undo_X6_copies
theorem dX6_undo_0 : decode cX6_undo 0 = .ok (.aload_n 0, 1) := by decide +kernel
theorem dX6_undo_1 : decode cX6_undo 1 = .ok (.getfield 28, 3) := by decide +kernel
theorem dX6_undo_4 : decode cX6_undo 4 = .ok (.ifCond .ne 6, 3) := by decide +kernel
theorem dX6_undo_7 : decode cX6_undo 7 = .ok (.bipush (-2), 2) := by decide +kernel
theorem dX6_undo_9 : decode cX6_undo 9 = .ok (.ireturn, 1) := by decide +kernel
theorem dX6_undo_10 : decode cX6_undo 10 = .ok (.aload_n 0, 1) := by decide +kernel
theorem dX6_undo_11 : decode cX6_undo 11 = .ok (.dup, 1) := by decide +kernel
theorem dX6_undo_12 : decode cX6_undo 12 = .ok (.getfield 28, 3) := by decide +kernel
theorem dX6_undo_15 : decode cX6_undo 15 = .ok (.iconst 1, 1) := by decide +kernel
theorem dX6_undo_16 : decode cX6_undo 16 = .ok (.isub, 1) := by decide +kernel
theorem dX6_undo_17 : decode cX6_undo 17 = .ok (.putfield 28, 3) := by decide +kernel
theorem dX6_undo_20 : decode cX6_undo 20 = .ok (.aload_n 0, 1) := by decide +kernel
theorem dX6_undo_21 : decode cX6_undo 21 = .ok (.getfield 13, 3) := by decide +kernel
theorem dX6_undo_24 : decode cX6_undo 24 = .ok (.aload_n 0, 1) := by decide +kernel
theorem dX6_undo_25 : decode cX6_undo 25 = .ok (.getfield 28, 3) := by decide +kernel
theorem dX6_undo_28 : decode cX6_undo 28 = .ok (.sipush 236, 3) := by decide +kernel
theorem dX6_undo_31 : decode cX6_undo 31 = .ok (.imul, 1) := by decide +kernel
theorem dX6_undo_32 : decode cX6_undo 32 = .ok (.aload_n 0, 1) := by decide +kernel
theorem dX6_undo_33 : decode cX6_undo 33 = .ok (.getfield 7, 3) := by decide +kernel
theorem dX6_undo_36 : decode cX6_undo 36 = .ok (.iconst 0, 1) := by decide +kernel
theorem dX6_undo_37 : decode cX6_undo 37 = .ok (.invokestatic 32, 3) := by decide +kernel
theorem dX6_undo_40 : decode cX6_undo 40 = .ok (.aload_n 0, 1) := by decide +kernel
theorem dX6_undo_41 : decode cX6_undo 41 = .ok (.getfield 28, 3) := by decide +kernel
theorem dX6_undo_44 : decode cX6_undo 44 = .ok (.ireturn, 1) := by decide +kernel
set_option maxRecDepth 20000 in
theorem ggX6_type_X6_in : GoodIn wsX6_type wsX6_in := goodIn_r _ [6] (by decide +kernel) (by decide +kernel)
set_option maxRecDepth 20000 in
theorem gX6_type_X6_in : GoodIn wsX6_type (va_wsS RX6 36 yX6_in wsX6_in) := goodIn_app (goodIn_of _ (by decide +kernel)) ggX6_type_X6_in
theorem dX6_type_0 : decode cX6_type 0 = .ok (.iload_n 1, 1) := by decide +kernel
theorem dX6_type_1 : decode cX6_type 1 = .ok (.bipush 32, 2) := by decide +kernel
theorem dX6_type_3 : decode cX6_type 3 = .ok (.bipush 126, 2) := by decide +kernel
theorem dX6_type_5 : decode cX6_type 5 = .ok (.invokestatic 36, 3) := by decide +kernel
theorem dX6_type_8 : decode cX6_type 8 = .ok (.ifCond .ne 5, 3) := by decide +kernel
theorem dX6_type_11 : decode cX6_type 11 = .ok (.iconst (-1), 1) := by decide +kernel
theorem dX6_type_12 : decode cX6_type 12 = .ok (.ireturn, 1) := by decide +kernel
theorem dX6_type_13 : decode cX6_type 13 = .ok (.aload_n 0, 1) := by decide +kernel
theorem dX6_type_14 : decode cX6_type 14 = .ok (.getfield 156, 3) := by decide +kernel
theorem dX6_type_17 : decode cX6_type 17 = .ok (.bipush 60, 2) := by decide +kernel
theorem dX6_type_19 : decode cX6_type 19 = .ok (.if_icmp .ne 6, 3) := by decide +kernel
theorem dX6_type_22 : decode cX6_type 22 = .ok (.bipush (-3), 2) := by decide +kernel
theorem dX6_type_24 : decode cX6_type 24 = .ok (.ireturn, 1) := by decide +kernel
theorem dX6_type_25 : decode cX6_type 25 = .ok (.aload_n 0, 1) := by decide +kernel
theorem dX6_type_26 : decode cX6_type 26 = .ok (.getfield 19, 3) := by decide +kernel
theorem dX6_type_29 : decode cX6_type 29 = .ok (.aload_n 0, 1) := by decide +kernel
theorem dX6_type_30 : decode cX6_type 30 = .ok (.getfield 156, 3) := by decide +kernel
theorem dX6_type_33 : decode cX6_type 33 = .ok (.iload_n 1, 1) := by decide +kernel
theorem dX6_type_34 : decode cX6_type 34 = .ok (.iastore, 1) := by decide +kernel
theorem dX6_type_35 : decode cX6_type 35 = .ok (.aload_n 0, 1) := by decide +kernel
theorem dX6_type_36 : decode cX6_type 36 = .ok (.dup, 1) := by decide +kernel
theorem dX6_type_37 : decode cX6_type 37 = .ok (.getfield 156, 3) := by decide +kernel
theorem dX6_type_40 : decode cX6_type 40 = .ok (.iconst 1, 1) := by decide +kernel
theorem dX6_type_41 : decode cX6_type 41 = .ok (.iadd, 1) := by decide +kernel
theorem dX6_type_42 : decode cX6_type 42 = .ok (.putfield 156, 3) := by decide +kernel
theorem dX6_type_45 : decode cX6_type 45 = .ok (.aload_n 0, 1) := by decide +kernel
theorem dX6_type_46 : decode cX6_type 46 = .ok (.getfield 156, 3) := by decide +kernel
theorem dX6_type_49 : decode cX6_type 49 = .ok (.ireturn, 1) := by decide +kernel
theorem dX6_clearText_0 : decode cX6_clearText 0 = .ok (.aload_n 0, 1) := by decide +kernel
theorem dX6_clearText_1 : decode cX6_clearText 1 = .ok (.getfield 156, 3) := by decide +kernel
theorem dX6_clearText_4 : decode cX6_clearText 4 = .ok (.istore_n 1, 1) := by decide +kernel
theorem dX6_clearText_5 : decode cX6_clearText 5 = .ok (.aload_n 0, 1) := by decide +kernel
theorem dX6_clearText_6 : decode cX6_clearText 6 = .ok (.iconst 0, 1) := by decide +kernel
theorem dX6_clearText_7 : decode cX6_clearText 7 = .ok (.putfield 156, 3) := by decide +kernel
theorem dX6_clearText_10 : decode cX6_clearText 10 = .ok (.iload_n 1, 1) := by decide +kernel
theorem dX6_clearText_11 : decode cX6_clearText 11 = .ok (.ireturn, 1) := by decide +kernel
theorem dX6_signAt_0 : decode cX6_signAt 0 = .ok (.iload_n 1, 1) := by decide +kernel
theorem dX6_signAt_1 : decode cX6_signAt 1 = .ok (.aload_n 0, 1) := by decide +kernel
theorem dX6_signAt_2 : decode cX6_signAt 2 = .ok (.getfield 156, 3) := by decide +kernel
theorem dX6_signAt_5 : decode cX6_signAt 5 = .ok (.if_icmp .ge 12, 3) := by decide +kernel
theorem dX6_signAt_8 : decode cX6_signAt 8 = .ok (.aload_n 0, 1) := by decide +kernel
theorem dX6_signAt_9 : decode cX6_signAt 9 = .ok (.getfield 19, 3) := by decide +kernel
theorem dX6_signAt_12 : decode cX6_signAt 12 = .ok (.iload_n 1, 1) := by decide +kernel
theorem dX6_signAt_13 : decode cX6_signAt 13 = .ok (.iaload, 1) := by decide +kernel
theorem dX6_signAt_14 : decode cX6_signAt 14 = .ok (.goto 4, 3) := by decide +kernel
theorem dX6_signAt_17 : decode cX6_signAt 17 = .ok (.iconst 0, 1) := by decide +kernel
theorem dX6_signAt_18 : decode cX6_signAt 18 = .ok (.ireturn, 1) := by decide +kernel
set_option maxRecDepth 20000 in
theorem ggX6_number_X6_signAt : GoodIn wsX6_number wsX6_signAt := goodIn_r _ [6, 7, 8, 12, 13, 14, 15, 16, 17, 18, 19, 20, 21, 22, 23, 24, 25, 26, 27, 28] (by decide +kernel) (by decide +kernel)
set_option maxRecDepth 20000 in
theorem gX6_number_X6_signAt : GoodIn wsX6_number (wsV RX6 162 RX6 yX6_signAt wsX6_signAt) := goodIn_app (goodIn_of _ (by decide +kernel)) ggX6_number_X6_signAt
set_option maxRecDepth 20000 in
theorem ggX6_number_X6_in : GoodIn wsX6_number wsX6_in := goodIn_r _ [11] (by decide +kernel) (by decide +kernel)
set_option maxRecDepth 20000 in
theorem gX6_number_X6_in : GoodIn wsX6_number (va_wsS RX6 36 yX6_in wsX6_in) := goodIn_app (goodIn_of _ (by decide +kernel)) ggX6_number_X6_in
theorem dX6_number_0 : decode cX6_number 0 = .ok (.iconst 0, 1) := by decide +kernel
theorem dX6_number_1 : decode cX6_number 1 = .ok (.istore_n 1, 1) := by decide +kernel
theorem dX6_number_2 : decode cX6_number 2 = .ok (.iconst 0, 1) := by decide +kernel
theorem dX6_number_3 : decode cX6_number 3 = .ok (.istore_n 2, 1) := by decide +kernel
theorem dX6_number_4 : decode cX6_number 4 = .ok (.iload_n 2, 1) := by decide +kernel
theorem dX6_number_5 : decode cX6_number 5 = .ok (.iconst 3, 1) := by decide +kernel
theorem dX6_number_6 : decode cX6_number 6 = .ok (.if_icmp .ge 54, 3) := by decide +kernel
theorem dX6_number_9 : decode cX6_number 9 = .ok (.aload_n 0, 1) := by decide +kernel
theorem dX6_number_10 : decode cX6_number 10 = .ok (.aload_n 0, 1) := by decide +kernel
theorem dX6_number_11 : decode cX6_number 11 = .ok (.getfield 159, 3) := by decide +kernel
theorem dX6_number_14 : decode cX6_number 14 = .ok (.invokevirtual 162, 3) := by decide +kernel
theorem dX6_number_17 : decode cX6_number 17 = .ok (.bipush 48, 2) := by decide +kernel
theorem dX6_number_19 : decode cX6_number 19 = .ok (.bipush 57, 2) := by decide +kernel
theorem dX6_number_21 : decode cX6_number 21 = .ok (.invokestatic 36, 3) := by decide +kernel
theorem dX6_number_24 : decode cX6_number 24 = .ok (.ifCond .eq 36, 3) := by decide +kernel
theorem dX6_number_27 : decode cX6_number 27 = .ok (.bipush 10, 2) := by decide +kernel
theorem dX6_number_29 : decode cX6_number 29 = .ok (.iload_n 1, 1) := by decide +kernel
theorem dX6_number_30 : decode cX6_number 30 = .ok (.imul, 1) := by decide +kernel
theorem dX6_number_31 : decode cX6_number 31 = .ok (.aload_n 0, 1) := by decide +kernel
theorem dX6_number_32 : decode cX6_number 32 = .ok (.aload_n 0, 1) := by decide +kernel
theorem dX6_number_33 : decode cX6_number 33 = .ok (.getfield 159, 3) := by decide +kernel
theorem dX6_number_36 : decode cX6_number 36 = .ok (.invokevirtual 162, 3) := by decide +kernel
theorem dX6_number_39 : decode cX6_number 39 = .ok (.iadd, 1) := by decide +kernel
theorem dX6_number_40 : decode cX6_number 40 = .ok (.bipush 48, 2) := by decide +kernel
theorem dX6_number_42 : decode cX6_number 42 = .ok (.isub, 1) := by decide +kernel
theorem dX6_number_43 : decode cX6_number 43 = .ok (.istore_n 1, 1) := by decide +kernel
theorem dX6_number_44 : decode cX6_number 44 = .ok (.aload_n 0, 1) := by decide +kernel
theorem dX6_number_45 : decode cX6_number 45 = .ok (.dup, 1) := by decide +kernel
theorem dX6_number_46 : decode cX6_number 46 = .ok (.getfield 159, 3) := by decide +kernel
theorem dX6_number_49 : decode cX6_number 49 = .ok (.iconst 1, 1) := by decide +kernel
theorem dX6_number_50 : decode cX6_number 50 = .ok (.iadd, 1) := by decide +kernel
theorem dX6_number_51 : decode cX6_number 51 = .ok (.putfield 159, 3) := by decide +kernel
theorem dX6_number_54 : decode cX6_number 54 = .ok (.iinc 2 1, 3) := by decide +kernel
theorem dX6_number_57 : decode cX6_number 57 = .ok (.goto (-53), 3) := by decide +kernel
theorem dX6_number_60 : decode cX6_number 60 = .ok (.iload_n 2, 1) := by decide +kernel
theorem dX6_number_61 : decode cX6_number 61 = .ok (.ifCond .ne 7, 3) := by decide +kernel
theorem dX6_number_64 : decode cX6_number 64 = .ok (.iconst (-1), 1) := by decide +kernel
theorem dX6_number_65 : decode cX6_number 65 = .ok (.goto 4, 3) := by decide +kernel
theorem dX6_number_68 : decode cX6_number 68 = .ok (.iload_n 1, 1) := by decide +kernel
theorem dX6_number_69 : decode cX6_number 69 = .ok (.ireturn, 1) := by decide +kernel
set_option maxRecDepth 20000 in
theorem ggX6_reads_X6_signAt : GoodIn wsX6_reads wsX6_signAt := goodIn_r _ [9, 10, 11, 19, 20, 21, 22, 23, 24, 25, 26, 27, 28, 29, 30, 31, 32, 33, 34, 35] (by decide +kernel) (by decide +kernel)
set_option maxRecDepth 20000 in
theorem gX6_reads_X6_signAt : GoodIn wsX6_reads (wsV RX6 162 RX6 yX6_signAt wsX6_signAt) := goodIn_app (goodIn_of _ (by decide +kernel)) ggX6_reads_X6_signAt
set_option maxRecDepth 20000 in
theorem ggX6_reads_X6_number : GoodIn wsX6_reads wsX6_number := goodIn_r _ [15, 2, 5, 6, 7, 8, 9, 10, 11, 16, 17, 18, 19, 20, 21, 22, 23, 24, 25, 26, 27, 28, 29, 30, 31, 32, 33, 34, 35] (by decide +kernel) (by decide +kernel)
set_option maxRecDepth 20000 in
theorem gX6_reads_X6_number : GoodIn wsX6_reads (wsV RX6 174 RX6 yX6_number wsX6_number) := goodIn_app (goodIn_of _ (by decide +kernel)) ggX6_reads_X6_number
theorem dX6_reads_0 : decode cX6_reads 0 = .ok (.aload_n 0, 1) := by decide +kernel
theorem dX6_reads_1 : decode cX6_reads 1 = .ok (.aload_n 0, 1) := by decide +kernel
theorem dX6_reads_2 : decode cX6_reads 2 = .ok (.iload_n 1, 1) := by decide +kernel
theorem dX6_reads_3 : decode cX6_reads 3 = .ok (.invokevirtual 162, 3) := by decide +kernel
theorem dX6_reads_6 : decode cX6_reads 6 = .ok (.putfield 165, 3) := by decide +kernel
theorem dX6_reads_9 : decode cX6_reads 9 = .ok (.aload_n 0, 1) := by decide +kernel
theorem dX6_reads_10 : decode cX6_reads 10 = .ok (.iload_n 1, 1) := by decide +kernel
theorem dX6_reads_11 : decode cX6_reads 11 = .ok (.iconst 1, 1) := by decide +kernel
theorem dX6_reads_12 : decode cX6_reads 12 = .ok (.iadd, 1) := by decide +kernel
theorem dX6_reads_13 : decode cX6_reads 13 = .ok (.putfield 159, 3) := by decide +kernel
theorem dX6_reads_16 : decode cX6_reads 16 = .ok (.aload_n 0, 1) := by decide +kernel
theorem dX6_reads_17 : decode cX6_reads 17 = .ok (.iconst (-1), 1) := by decide +kernel
theorem dX6_reads_18 : decode cX6_reads 18 = .ok (.putfield 168, 3) := by decide +kernel
theorem dX6_reads_21 : decode cX6_reads 21 = .ok (.aload_n 0, 1) := by decide +kernel
theorem dX6_reads_22 : decode cX6_reads 22 = .ok (.iconst (-1), 1) := by decide +kernel
theorem dX6_reads_23 : decode cX6_reads 23 = .ok (.putfield 171, 3) := by decide +kernel
theorem dX6_reads_26 : decode cX6_reads 26 = .ok (.aload_n 0, 1) := by decide +kernel
theorem dX6_reads_27 : decode cX6_reads 27 = .ok (.getfield 165, 3) := by decide +kernel
theorem dX6_reads_30 : decode cX6_reads 30 = .ok (.bipush 112, 2) := by decide +kernel
theorem dX6_reads_32 : decode cX6_reads 32 = .ok (.if_icmp .eq 21, 3) := by decide +kernel
theorem dX6_reads_35 : decode cX6_reads 35 = .ok (.aload_n 0, 1) := by decide +kernel
theorem dX6_reads_36 : decode cX6_reads 36 = .ok (.getfield 165, 3) := by decide +kernel
theorem dX6_reads_39 : decode cX6_reads 39 = .ok (.bipush 109, 2) := by decide +kernel
theorem dX6_reads_41 : decode cX6_reads 41 = .ok (.if_icmp .eq 12, 3) := by decide +kernel
theorem dX6_reads_44 : decode cX6_reads 44 = .ok (.aload_n 0, 1) := by decide +kernel
theorem dX6_reads_45 : decode cX6_reads 45 = .ok (.getfield 165, 3) := by decide +kernel
theorem dX6_reads_48 : decode cX6_reads 48 = .ok (.bipush 120, 2) := by decide +kernel
theorem dX6_reads_50 : decode cX6_reads 50 = .ok (.if_icmp .ne 7, 3) := by decide +kernel
theorem dX6_reads_53 : decode cX6_reads 53 = .ok (.iconst 1, 1) := by decide +kernel
theorem dX6_reads_54 : decode cX6_reads 54 = .ok (.goto 4, 3) := by decide +kernel
theorem dX6_reads_57 : decode cX6_reads 57 = .ok (.iconst 0, 1) := by decide +kernel
theorem dX6_reads_58 : decode cX6_reads 58 = .ok (.istore_n 2, 1) := by decide +kernel
theorem dX6_reads_59 : decode cX6_reads 59 = .ok (.iload_n 2, 1) := by decide +kernel
theorem dX6_reads_60 : decode cX6_reads 60 = .ok (.ifCond .ne 23, 3) := by decide +kernel
theorem dX6_reads_63 : decode cX6_reads 63 = .ok (.aload_n 0, 1) := by decide +kernel
theorem dX6_reads_64 : decode cX6_reads 64 = .ok (.getfield 165, 3) := by decide +kernel
theorem dX6_reads_67 : decode cX6_reads 67 = .ok (.bipush 114, 2) := by decide +kernel
theorem dX6_reads_69 : decode cX6_reads 69 = .ok (.if_icmp .eq 14, 3) := by decide +kernel
theorem dX6_reads_72 : decode cX6_reads 72 = .ok (.aload_n 0, 1) := by decide +kernel
theorem dX6_reads_73 : decode cX6_reads 73 = .ok (.getfield 165, 3) := by decide +kernel
theorem dX6_reads_76 : decode cX6_reads 76 = .ok (.bipush 119, 2) := by decide +kernel
theorem dX6_reads_78 : decode cX6_reads 78 = .ok (.if_icmp .eq 5, 3) := by decide +kernel
theorem dX6_reads_81 : decode cX6_reads 81 = .ok (.iconst 0, 1) := by decide +kernel
theorem dX6_reads_82 : decode cX6_reads 82 = .ok (.ireturn, 1) := by decide +kernel
theorem dX6_reads_83 : decode cX6_reads 83 = .ok (.aload_n 0, 1) := by decide +kernel
theorem dX6_reads_84 : decode cX6_reads 84 = .ok (.getfield 165, 3) := by decide +kernel
theorem dX6_reads_87 : decode cX6_reads 87 = .ok (.bipush 119, 2) := by decide +kernel
theorem dX6_reads_89 : decode cX6_reads 89 = .ok (.if_icmp .eq 11, 3) := by decide +kernel
theorem dX6_reads_92 : decode cX6_reads 92 = .ok (.aload_n 0, 1) := by decide +kernel
theorem dX6_reads_93 : decode cX6_reads 93 = .ok (.aload_n 0, 1) := by decide +kernel
theorem dX6_reads_94 : decode cX6_reads 94 = .ok (.invokevirtual 174, 3) := by decide +kernel
theorem dX6_reads_97 : decode cX6_reads 97 = .ok (.putfield 168, 3) := by decide +kernel
theorem dX6_reads_100 : decode cX6_reads 100 = .ok (.aload_n 0, 1) := by decide +kernel
theorem dX6_reads_101 : decode cX6_reads 101 = .ok (.getfield 165, 3) := by decide +kernel
theorem dX6_reads_104 : decode cX6_reads 104 = .ok (.bipush 119, 2) := by decide +kernel
theorem dX6_reads_106 : decode cX6_reads 106 = .ok (.if_icmp .eq 13, 3) := by decide +kernel
theorem dX6_reads_109 : decode cX6_reads 109 = .ok (.aload_n 0, 1) := by decide +kernel
theorem dX6_reads_110 : decode cX6_reads 110 = .ok (.getfield 168, 3) := by decide +kernel
theorem dX6_reads_113 : decode cX6_reads 113 = .ok (.iconst (-1), 1) := by decide +kernel
theorem dX6_reads_114 : decode cX6_reads 114 = .ok (.if_icmp .ne 5, 3) := by decide +kernel
theorem dX6_reads_117 : decode cX6_reads 117 = .ok (.iconst 0, 1) := by decide +kernel
theorem dX6_reads_118 : decode cX6_reads 118 = .ok (.ireturn, 1) := by decide +kernel
theorem dX6_reads_119 : decode cX6_reads 119 = .ok (.iload_n 2, 1) := by decide +kernel
theorem dX6_reads_120 : decode cX6_reads 120 = .ok (.ifCond .eq 48, 3) := by decide +kernel
theorem dX6_reads_123 : decode cX6_reads 123 = .ok (.aload_n 0, 1) := by decide +kernel
theorem dX6_reads_124 : decode cX6_reads 124 = .ok (.aload_n 0, 1) := by decide +kernel
theorem dX6_reads_125 : decode cX6_reads 125 = .ok (.getfield 159, 3) := by decide +kernel
theorem dX6_reads_128 : decode cX6_reads 128 = .ok (.invokevirtual 162, 3) := by decide +kernel
theorem dX6_reads_131 : decode cX6_reads 131 = .ok (.bipush 44, 2) := by decide +kernel
theorem dX6_reads_133 : decode cX6_reads 133 = .ok (.if_icmp .ne 7, 3) := by decide +kernel
theorem dX6_reads_136 : decode cX6_reads 136 = .ok (.iconst 1, 1) := by decide +kernel
theorem dX6_reads_137 : decode cX6_reads 137 = .ok (.goto 4, 3) := by decide +kernel
theorem dX6_reads_140 : decode cX6_reads 140 = .ok (.iconst 0, 1) := by decide +kernel
theorem dX6_reads_141 : decode cX6_reads 141 = .ok (.istore_n 3, 1) := by decide +kernel
theorem dX6_reads_142 : decode cX6_reads 142 = .ok (.aload_n 0, 1) := by decide +kernel
theorem dX6_reads_143 : decode cX6_reads 143 = .ok (.dup, 1) := by decide +kernel
theorem dX6_reads_144 : decode cX6_reads 144 = .ok (.getfield 159, 3) := by decide +kernel
theorem dX6_reads_147 : decode cX6_reads 147 = .ok (.iconst 1, 1) := by decide +kernel
theorem dX6_reads_148 : decode cX6_reads 148 = .ok (.iadd, 1) := by decide +kernel
theorem dX6_reads_149 : decode cX6_reads 149 = .ok (.putfield 159, 3) := by decide +kernel
theorem dX6_reads_152 : decode cX6_reads 152 = .ok (.aload_n 0, 1) := by decide +kernel
theorem dX6_reads_153 : decode cX6_reads 153 = .ok (.iload_n 3, 1) := by decide +kernel
theorem dX6_reads_154 : decode cX6_reads 154 = .ok (.ifCond .eq 10, 3) := by decide +kernel
theorem dX6_reads_157 : decode cX6_reads 157 = .ok (.aload_n 0, 1) := by decide +kernel
theorem dX6_reads_158 : decode cX6_reads 158 = .ok (.invokevirtual 174, 3) := by decide +kernel
theorem dX6_reads_161 : decode cX6_reads 161 = .ok (.goto 4, 3) := by decide +kernel
theorem dX6_reads_164 : decode cX6_reads 164 = .ok (.iconst (-1), 1) := by decide +kernel
theorem dX6_reads_165 : decode cX6_reads 165 = .ok (.putfield 171, 3) := by decide +kernel
theorem dX6_reads_168 : decode cX6_reads 168 = .ok (.iload_n 2, 1) := by decide +kernel
theorem dX6_reads_169 : decode cX6_reads 169 = .ok (.ifCond .eq 11, 3) := by decide +kernel
theorem dX6_reads_172 : decode cX6_reads 172 = .ok (.aload_n 0, 1) := by decide +kernel
theorem dX6_reads_173 : decode cX6_reads 173 = .ok (.getfield 171, 3) := by decide +kernel
theorem dX6_reads_176 : decode cX6_reads 176 = .ok (.iconst (-1), 1) := by decide +kernel
theorem dX6_reads_177 : decode cX6_reads 177 = .ok (.if_icmp .eq 16, 3) := by decide +kernel
theorem dX6_reads_180 : decode cX6_reads 180 = .ok (.aload_n 0, 1) := by decide +kernel
theorem dX6_reads_181 : decode cX6_reads 181 = .ok (.aload_n 0, 1) := by decide +kernel
theorem dX6_reads_182 : decode cX6_reads 182 = .ok (.getfield 159, 3) := by decide +kernel
theorem dX6_reads_185 : decode cX6_reads 185 = .ok (.invokevirtual 162, 3) := by decide +kernel
theorem dX6_reads_188 : decode cX6_reads 188 = .ok (.bipush 59, 2) := by decide +kernel
theorem dX6_reads_190 : decode cX6_reads 190 = .ok (.if_icmp .eq 5, 3) := by decide +kernel
theorem dX6_reads_193 : decode cX6_reads 193 = .ok (.iconst 0, 1) := by decide +kernel
theorem dX6_reads_194 : decode cX6_reads 194 = .ok (.ireturn, 1) := by decide +kernel
theorem dX6_reads_195 : decode cX6_reads 195 = .ok (.aload_n 0, 1) := by decide +kernel
theorem dX6_reads_196 : decode cX6_reads 196 = .ok (.dup, 1) := by decide +kernel
theorem dX6_reads_197 : decode cX6_reads 197 = .ok (.getfield 159, 3) := by decide +kernel
theorem dX6_reads_200 : decode cX6_reads 200 = .ok (.iconst 1, 1) := by decide +kernel
theorem dX6_reads_201 : decode cX6_reads 201 = .ok (.iadd, 1) := by decide +kernel
theorem dX6_reads_202 : decode cX6_reads 202 = .ok (.putfield 159, 3) := by decide +kernel
theorem dX6_reads_205 : decode cX6_reads 205 = .ok (.iconst 1, 1) := by decide +kernel
theorem dX6_reads_206 : decode cX6_reads 206 = .ok (.ireturn, 1) := by decide +kernel
set_option maxRecDepth 20000 in
theorem ggX6_isThere_X6_isGood : GoodIn wsX6_isThere wsX6_isGood := goodIn_r _ [8, 9, 10, 11, 7, 12, 16, 17, 18, 19, 20, 21, 22, 23, 24, 25, 26, 27, 28, 29, 30, 31, 32] (by decide +kernel) (by decide +kernel)
set_option maxRecDepth 20000 in
theorem gX6_isThere_X6_isGood : GoodIn wsX6_isThere (wsV RX6 61 RX6 yX6_isGood wsX6_isGood) := goodIn_app (goodIn_of _ (by decide +kernel)) ggX6_isThere_X6_isGood
set_option maxRecDepth 20000 in
theorem ggX6_isThere_X6_isSlot : GoodIn wsX6_isThere wsX6_isSlot := goodIn_r _ [15, 10, 11, 7, 12] (by decide +kernel) (by decide +kernel)
set_option maxRecDepth 20000 in
theorem gX6_isThere_X6_isSlot : GoodIn wsX6_isThere (va_wsS RX6 77 yX6_isSlot wsX6_isSlot) := goodIn_app (goodIn_of _ (by decide +kernel)) ggX6_isThere_X6_isSlot
theorem dX6_isThere_0 : decode cX6_isThere 0 = .ok (.aload_n 0, 1) := by decide +kernel
theorem dX6_isThere_1 : decode cX6_isThere 1 = .ok (.getfield 165, 3) := by decide +kernel
theorem dX6_isThere_4 : decode cX6_isThere 4 = .ok (.bipush 119, 2) := by decide +kernel
theorem dX6_isThere_6 : decode cX6_isThere 6 = .ok (.if_icmp .eq 53, 3) := by decide +kernel
theorem dX6_isThere_9 : decode cX6_isThere 9 = .ok (.aload_n 0, 1) := by decide +kernel
theorem dX6_isThere_10 : decode cX6_isThere 10 = .ok (.aload_n 0, 1) := by decide +kernel
theorem dX6_isThere_11 : decode cX6_isThere 11 = .ok (.getfield 168, 3) := by decide +kernel
theorem dX6_isThere_14 : decode cX6_isThere 14 = .ok (.invokevirtual 61, 3) := by decide +kernel
theorem dX6_isThere_17 : decode cX6_isThere 17 = .ok (.ifCond .eq 46, 3) := by decide +kernel
theorem dX6_isThere_20 : decode cX6_isThere 20 = .ok (.aload_n 0, 1) := by decide +kernel
theorem dX6_isThere_21 : decode cX6_isThere 21 = .ok (.getfield 165, 3) := by decide +kernel
theorem dX6_isThere_24 : decode cX6_isThere 24 = .ok (.bipush 109, 2) := by decide +kernel
theorem dX6_isThere_26 : decode cX6_isThere 26 = .ok (.if_icmp .ne 13, 3) := by decide +kernel
theorem dX6_isThere_29 : decode cX6_isThere 29 = .ok (.aload_n 0, 1) := by decide +kernel
theorem dX6_isThere_30 : decode cX6_isThere 30 = .ok (.getfield 171, 3) := by decide +kernel
theorem dX6_isThere_33 : decode cX6_isThere 33 = .ok (.invokestatic 77, 3) := by decide +kernel
theorem dX6_isThere_36 : decode cX6_isThere 36 = .ok (.ifCond .eq 27, 3) := by decide +kernel
theorem dX6_isThere_39 : decode cX6_isThere 39 = .ok (.aload_n 0, 1) := by decide +kernel
theorem dX6_isThere_40 : decode cX6_isThere 40 = .ok (.getfield 165, 3) := by decide +kernel
theorem dX6_isThere_43 : decode cX6_isThere 43 = .ok (.bipush 120, 2) := by decide +kernel
theorem dX6_isThere_45 : decode cX6_isThere 45 = .ok (.if_icmp .ne 14, 3) := by decide +kernel
theorem dX6_isThere_48 : decode cX6_isThere 48 = .ok (.aload_n 0, 1) := by decide +kernel
theorem dX6_isThere_49 : decode cX6_isThere 49 = .ok (.aload_n 0, 1) := by decide +kernel
theorem dX6_isThere_50 : decode cX6_isThere 50 = .ok (.getfield 171, 3) := by decide +kernel
theorem dX6_isThere_53 : decode cX6_isThere 53 = .ok (.invokevirtual 61, 3) := by decide +kernel
theorem dX6_isThere_56 : decode cX6_isThere 56 = .ok (.ifCond .eq 7, 3) := by decide +kernel
theorem dX6_isThere_59 : decode cX6_isThere 59 = .ok (.iconst 1, 1) := by decide +kernel
theorem dX6_isThere_60 : decode cX6_isThere 60 = .ok (.goto 4, 3) := by decide +kernel
theorem dX6_isThere_63 : decode cX6_isThere 63 = .ok (.iconst 0, 1) := by decide +kernel
theorem dX6_isThere_64 : decode cX6_isThere 64 = .ok (.ireturn, 1) := by decide +kernel
set_option maxRecDepth 20000 in
theorem ggX6_can_X6_in : GoodIn wsX6_can wsX6_in := goodIn_r _ [8] (by decide +kernel) (by decide +kernel)
set_option maxRecDepth 20000 in
theorem gX6_can_X6_in : GoodIn wsX6_can (va_wsS RX6 36 yX6_in wsX6_in) := goodIn_app (goodIn_of _ (by decide +kernel)) ggX6_can_X6_in
set_option maxRecDepth 20000 in
theorem ggX6_can_X6_canPick : GoodIn wsX6_can wsX6_canPick := goodIn_r _ [12, 4, 13, 14, 15, 7, 16, 17, 18, 19, 20, 44, 45, 46, 47, 48, 49, 50, 51, 52, 53, 54, 55, 56, 57, 58, 59, 60] (by decide +kernel) (by decide +kernel)
set_option maxRecDepth 20000 in
theorem gX6_can_X6_canPick : GoodIn wsX6_can (wsV RX6 96 RX6 yX6_canPick wsX6_canPick) := goodIn_app (goodIn_of _ (by decide +kernel)) ggX6_can_X6_canPick
set_option maxRecDepth 20000 in
theorem ggX6_can_X6_canRefill : GoodIn wsX6_can wsX6_canRefill := goodIn_r _ [24, 13, 14, 15, 7, 16, 4, 17, 18, 19, 20, 44, 45, 46, 47, 48, 49, 50, 51, 52, 53, 54, 55, 56, 57, 58, 59, 60] (by decide +kernel) (by decide +kernel)
set_option maxRecDepth 20000 in
theorem gX6_can_X6_canRefill : GoodIn wsX6_can (wsV RX6 102 RX6 yX6_canRefill wsX6_canRefill) := goodIn_app (goodIn_of _ (by decide +kernel)) ggX6_can_X6_canRefill
set_option maxRecDepth 20000 in
theorem ggX6_can_X6_canMove : GoodIn wsX6_can wsX6_canMove := goodIn_r _ [28, 13, 14, 15, 7, 16, 4, 29, 30, 31, 32, 33, 34, 35, 36, 37, 38, 39, 44, 45, 46, 47, 48, 49, 50, 51, 52, 53, 54, 55, 56, 57, 58, 59, 60] (by decide +kernel) (by decide +kernel)
set_option maxRecDepth 20000 in
theorem gX6_can_X6_canMove : GoodIn wsX6_can (wsV RX6 108 RX6 yX6_canMove wsX6_canMove) := goodIn_app (goodIn_of _ (by decide +kernel)) ggX6_can_X6_canMove
set_option maxRecDepth 20000 in
theorem ggX6_can_X6_canExchange : GoodIn wsX6_can wsX6_canExchange := goodIn_r _ [43, 13, 14, 15, 7, 16, 4, 33, 34, 35, 36, 37, 38, 39, 44, 45, 46, 47, 48, 49, 50, 51, 52, 53, 54, 55, 56, 57, 58, 59, 60] (by decide +kernel) (by decide +kernel)
set_option maxRecDepth 20000 in
theorem gX6_can_X6_canExchange : GoodIn wsX6_can (wsV RX6 111 RX6 yX6_canExchange wsX6_canExchange) := goodIn_app (goodIn_of _ (by decide +kernel)) ggX6_can_X6_canExchange
theorem dX6_can_0 : decode cX6_can 0 = .ok (.aload_n 0, 1) := by decide +kernel
theorem dX6_can_1 : decode cX6_can 1 = .ok (.getfield 165, 3) := by decide +kernel
theorem dX6_can_4 : decode cX6_can 4 = .ok (.lookupswitch 114 #[(109, 88), (112, 44), (114, 79), (120, 101)], 44) := by decide +kernel
theorem dX6_can_48 : decode cX6_can 48 = .ok (.aload_n 0, 1) := by decide +kernel
theorem dX6_can_49 : decode cX6_can 49 = .ok (.getfield 171, 3) := by decide +kernel
theorem dX6_can_52 : decode cX6_can 52 = .ok (.iconst 1, 1) := by decide +kernel
theorem dX6_can_53 : decode cX6_can 53 = .ok (.sipush 200, 3) := by decide +kernel
theorem dX6_can_56 : decode cX6_can 56 = .ok (.invokestatic 36, 3) := by decide +kernel
theorem dX6_can_59 : decode cX6_can 59 = .ok (.ifCond .eq 22, 3) := by decide +kernel
theorem dX6_can_62 : decode cX6_can 62 = .ok (.aload_n 0, 1) := by decide +kernel
theorem dX6_can_63 : decode cX6_can 63 = .ok (.aload_n 0, 1) := by decide +kernel
theorem dX6_can_64 : decode cX6_can 64 = .ok (.getfield 168, 3) := by decide +kernel
theorem dX6_can_67 : decode cX6_can 67 = .ok (.aload_n 0, 1) := by decide +kernel
theorem dX6_can_68 : decode cX6_can 68 = .ok (.getfield 171, 3) := by decide +kernel
theorem dX6_can_71 : decode cX6_can 71 = .ok (.invokevirtual 96, 3) := by decide +kernel
theorem dX6_can_74 : decode cX6_can 74 = .ok (.ifCond .eq 7, 3) := by decide +kernel
theorem dX6_can_77 : decode cX6_can 77 = .ok (.iconst 1, 1) := by decide +kernel
theorem dX6_can_78 : decode cX6_can 78 = .ok (.goto 4, 3) := by decide +kernel
theorem dX6_can_81 : decode cX6_can 81 = .ok (.iconst 0, 1) := by decide +kernel
theorem dX6_can_82 : decode cX6_can 82 = .ok (.ireturn, 1) := by decide +kernel
theorem dX6_can_83 : decode cX6_can 83 = .ok (.aload_n 0, 1) := by decide +kernel
theorem dX6_can_84 : decode cX6_can 84 = .ok (.aload_n 0, 1) := by decide +kernel
theorem dX6_can_85 : decode cX6_can 85 = .ok (.getfield 168, 3) := by decide +kernel
theorem dX6_can_88 : decode cX6_can 88 = .ok (.invokevirtual 102, 3) := by decide +kernel
theorem dX6_can_91 : decode cX6_can 91 = .ok (.ireturn, 1) := by decide +kernel
theorem dX6_can_92 : decode cX6_can 92 = .ok (.aload_n 0, 1) := by decide +kernel
theorem dX6_can_93 : decode cX6_can 93 = .ok (.aload_n 0, 1) := by decide +kernel
theorem dX6_can_94 : decode cX6_can 94 = .ok (.getfield 168, 3) := by decide +kernel
theorem dX6_can_97 : decode cX6_can 97 = .ok (.aload_n 0, 1) := by decide +kernel
theorem dX6_can_98 : decode cX6_can 98 = .ok (.getfield 171, 3) := by decide +kernel
theorem dX6_can_101 : decode cX6_can 101 = .ok (.invokevirtual 108, 3) := by decide +kernel
theorem dX6_can_104 : decode cX6_can 104 = .ok (.ireturn, 1) := by decide +kernel
theorem dX6_can_105 : decode cX6_can 105 = .ok (.aload_n 0, 1) := by decide +kernel
theorem dX6_can_106 : decode cX6_can 106 = .ok (.aload_n 0, 1) := by decide +kernel
theorem dX6_can_107 : decode cX6_can 107 = .ok (.getfield 168, 3) := by decide +kernel
theorem dX6_can_110 : decode cX6_can 110 = .ok (.aload_n 0, 1) := by decide +kernel
theorem dX6_can_111 : decode cX6_can 111 = .ok (.getfield 171, 3) := by decide +kernel
theorem dX6_can_114 : decode cX6_can 114 = .ok (.invokevirtual 111, 3) := by decide +kernel
theorem dX6_can_117 : decode cX6_can 117 = .ok (.ireturn, 1) := by decide +kernel
theorem dX6_can_118 : decode cX6_can 118 = .ok (.aload_n 0, 1) := by decide +kernel
theorem dX6_can_119 : decode cX6_can 119 = .ok (.getfield 7, 3) := by decide +kernel
theorem dX6_can_122 : decode cX6_can 122 = .ok (.iconst 1, 1) := by decide +kernel
theorem dX6_can_123 : decode cX6_can 123 = .ok (.iaload, 1) := by decide +kernel
theorem dX6_can_124 : decode cX6_can 124 = .ok (.sipush 1000, 3) := by decide +kernel
theorem dX6_can_127 : decode cX6_can 127 = .ok (.if_icmp .ge 7, 3) := by decide +kernel
theorem dX6_can_130 : decode cX6_can 130 = .ok (.iconst 1, 1) := by decide +kernel
theorem dX6_can_131 : decode cX6_can 131 = .ok (.goto 4, 3) := by decide +kernel
theorem dX6_can_134 : decode cX6_can 134 = .ok (.iconst 0, 1) := by decide +kernel
theorem dX6_can_135 : decode cX6_can 135 = .ok (.ireturn, 1) := by decide +kernel
set_option maxRecDepth 20000 in
theorem ggX6_does_X6_picks : GoodIn wsX6_does wsX6_picks := goodIn_r _ [8, 9, 10, 11, 7, 12, 13, 14, 15, 16, 17, 18, 19, 20, 21, 22, 23, 24, 25, 26, 27, 28, 29, 30, 31, 32, 33, 34, 35, 68, 69, 70, 71, 72, 73, 74, 75, 76, 77, 78, 79, 80, 81, 82, 83, 84] (by decide +kernel) (by decide +kernel)
set_option maxRecDepth 20000 in
theorem gX6_does_X6_picks : GoodIn wsX6_does (wsV RX6 99 RX6 yX6_picks wsX6_picks) := goodIn_app (goodIn_of _ (by decide +kernel)) ggX6_does_X6_picks
set_option maxRecDepth 20000 in
theorem ggX6_does_X6_room : GoodIn wsX6_does wsX6_room := goodIn_r _ [17, 9, 10, 11, 7, 12, 13, 68, 69, 70, 71, 72, 73, 74, 75, 76, 77, 78, 79, 80, 81, 82, 83, 84] (by decide +kernel) (by decide +kernel)
set_option maxRecDepth 20000 in
theorem gX6_does_X6_room : GoodIn wsX6_does (wsV RX6 90 RX6 yX6_room wsX6_room) := goodIn_app (goodIn_of _ (by decide +kernel)) ggX6_does_X6_room
set_option maxRecDepth 20000 in
theorem ggX6_does_X6_brings : GoodIn wsX6_does wsX6_brings := goodIn_r _ [21, 13, 9, 10, 11, 7, 12, 22, 23, 24, 25, 26, 27, 28, 29, 30, 31, 32, 33, 34, 35, 68, 69, 70, 71, 72, 73, 74, 75, 76, 77, 78, 79, 80, 81, 82, 83, 84] (by decide +kernel) (by decide +kernel)
set_option maxRecDepth 20000 in
theorem gX6_does_X6_brings : GoodIn wsX6_does (wsV RX6 93 RX6 yX6_brings wsX6_brings) := goodIn_app (goodIn_of _ (by decide +kernel)) ggX6_does_X6_brings
set_option maxRecDepth 20000 in
theorem ggX6_does_X6_goes : GoodIn wsX6_does wsX6_goes := goodIn_r _ [39, 40, 41, 42, 7, 43, 13, 9, 10, 11, 12, 44, 45, 46, 47, 22, 23, 24, 25, 26, 27, 48, 49, 50, 51, 52, 53, 54, 55, 56, 57, 58, 59, 32, 33, 34, 35, 28, 29, 30, 31, 68, 69, 70, 71, 72, 73, 74, 75, 76, 77, 78, 79, 80, 81, 82, 83, 84] (by decide +kernel) (by decide +kernel)
set_option maxRecDepth 20000 in
theorem gX6_does_X6_goes : GoodIn wsX6_does (wsV RX6 128 RX6 yX6_goes wsX6_goes) := goodIn_app (goodIn_of _ (by decide +kernel)) ggX6_does_X6_goes
set_option maxRecDepth 20000 in
theorem ggX6_does_X6_of : GoodIn wsX6_does wsX6_of := goodIn_r _ [12, 13, 68, 69, 70, 71, 72, 73, 74, 75, 76, 77, 78, 79, 80, 81, 82, 83, 84] (by decide +kernel) (by decide +kernel)
set_option maxRecDepth 20000 in
theorem gX6_does_X6_of : GoodIn wsX6_does (wsV RX6 44 RX6 yX6_of wsX6_of) := goodIn_app (goodIn_of _ (by decide +kernel)) ggX6_does_X6_of
set_option maxRecDepth 20000 in
theorem ggX6_does_X6_ends : GoodIn wsX6_does wsX6_ends := goodIn_r _ [63, 13, 48, 49, 50, 7, 51, 64, 65, 66, 67, 9, 10, 11, 12, 22, 23, 24, 25, 26, 27, 28, 29, 30, 31, 32, 33, 34, 35, 68, 69, 70, 71, 72, 73, 74, 75, 76, 77, 78, 79, 80, 81, 82, 83, 84] (by decide +kernel) (by decide +kernel)
set_option maxRecDepth 20000 in
theorem gX6_does_X6_ends : GoodIn wsX6_does (wsV RX6 105 RX6 yX6_ends wsX6_ends) := goodIn_app (goodIn_of _ (by decide +kernel)) ggX6_does_X6_ends
theorem dX6_does_0 : decode cX6_does 0 = .ok (.iconst 0, 1) := by decide +kernel
theorem dX6_does_1 : decode cX6_does 1 = .ok (.istore_n 1, 1) := by decide +kernel
theorem dX6_does_2 : decode cX6_does 2 = .ok (.aload_n 0, 1) := by decide +kernel
theorem dX6_does_3 : decode cX6_does 3 = .ok (.getfield 165, 3) := by decide +kernel
theorem dX6_does_6 : decode cX6_does 6 = .ok (.lookupswitch 116 #[(109, 78), (112, 42), (114, 58), (120, 94)], 42) := by decide +kernel
theorem dX6_does_48 : decode cX6_does 48 = .ok (.aload_n 0, 1) := by decide +kernel
theorem dX6_does_49 : decode cX6_does 49 = .ok (.aload_n 0, 1) := by decide +kernel
theorem dX6_does_50 : decode cX6_does 50 = .ok (.getfield 168, 3) := by decide +kernel
theorem dX6_does_53 : decode cX6_does 53 = .ok (.aload_n 0, 1) := by decide +kernel
theorem dX6_does_54 : decode cX6_does 54 = .ok (.getfield 171, 3) := by decide +kernel
theorem dX6_does_57 : decode cX6_does 57 = .ok (.invokevirtual 99, 3) := by decide +kernel
theorem dX6_does_60 : decode cX6_does 60 = .ok (.istore_n 1, 1) := by decide +kernel
theorem dX6_does_61 : decode cX6_does 61 = .ok (.goto 65, 3) := by decide +kernel
theorem dX6_does_64 : decode cX6_does 64 = .ok (.aload_n 0, 1) := by decide +kernel
theorem dX6_does_65 : decode cX6_does 65 = .ok (.aload_n 0, 1) := by decide +kernel
theorem dX6_does_66 : decode cX6_does 66 = .ok (.getfield 168, 3) := by decide +kernel
theorem dX6_does_69 : decode cX6_does 69 = .ok (.aload_n 0, 1) := by decide +kernel
theorem dX6_does_70 : decode cX6_does 70 = .ok (.aload_n 0, 1) := by decide +kernel
theorem dX6_does_71 : decode cX6_does 71 = .ok (.getfield 168, 3) := by decide +kernel
theorem dX6_does_74 : decode cX6_does 74 = .ok (.invokevirtual 90, 3) := by decide +kernel
theorem dX6_does_77 : decode cX6_does 77 = .ok (.invokevirtual 93, 3) := by decide +kernel
theorem dX6_does_80 : decode cX6_does 80 = .ok (.istore_n 1, 1) := by decide +kernel
theorem dX6_does_81 : decode cX6_does 81 = .ok (.goto 45, 3) := by decide +kernel
theorem dX6_does_84 : decode cX6_does 84 = .ok (.aload_n 0, 1) := by decide +kernel
theorem dX6_does_85 : decode cX6_does 85 = .ok (.aload_n 0, 1) := by decide +kernel
theorem dX6_does_86 : decode cX6_does 86 = .ok (.getfield 168, 3) := by decide +kernel
theorem dX6_does_89 : decode cX6_does 89 = .ok (.aload_n 0, 1) := by decide +kernel
theorem dX6_does_90 : decode cX6_does 90 = .ok (.getfield 171, 3) := by decide +kernel
theorem dX6_does_93 : decode cX6_does 93 = .ok (.invokevirtual 128, 3) := by decide +kernel
theorem dX6_does_96 : decode cX6_does 96 = .ok (.istore_n 1, 1) := by decide +kernel
theorem dX6_does_97 : decode cX6_does 97 = .ok (.goto 29, 3) := by decide +kernel
theorem dX6_does_100 : decode cX6_does 100 = .ok (.aload_n 0, 1) := by decide +kernel
theorem dX6_does_101 : decode cX6_does 101 = .ok (.aload_n 0, 1) := by decide +kernel
theorem dX6_does_102 : decode cX6_does 102 = .ok (.getfield 168, 3) := by decide +kernel
theorem dX6_does_105 : decode cX6_does 105 = .ok (.aload_n 0, 1) := by decide +kernel
theorem dX6_does_106 : decode cX6_does 106 = .ok (.aload_n 0, 1) := by decide +kernel
theorem dX6_does_107 : decode cX6_does 107 = .ok (.getfield 171, 3) := by decide +kernel
theorem dX6_does_110 : decode cX6_does 110 = .ok (.bipush 6, 2) := by decide +kernel
theorem dX6_does_112 : decode cX6_does 112 = .ok (.invokevirtual 44, 3) := by decide +kernel
theorem dX6_does_115 : decode cX6_does 115 = .ok (.invokevirtual 128, 3) := by decide +kernel
theorem dX6_does_118 : decode cX6_does 118 = .ok (.istore_n 1, 1) := by decide +kernel
theorem dX6_does_119 : decode cX6_does 119 = .ok (.goto 7, 3) := by decide +kernel
theorem dX6_does_122 : decode cX6_does 122 = .ok (.aload_n 0, 1) := by decide +kernel
theorem dX6_does_123 : decode cX6_does 123 = .ok (.invokevirtual 105, 3) := by decide +kernel
theorem dX6_does_126 : decode cX6_does 126 = .ok (.return_, 1) := by decide +kernel
set_option maxRecDepth 20000 in
theorem ggX6_doesAll_X6_reads : GoodIn wsX6_doesAll wsX6_reads := goodIn_r _ [9, 10, 4, 11, 12, 13, 14, 15, 8, 16, 2, 17, 18, 19, 20, 21, 22, 23, 24, 130, 131, 132, 133, 134, 135, 136, 137, 138, 139, 140, 141, 142, 143, 144, 145, 146] (by decide +kernel) (by decide +kernel)
set_option maxRecDepth 20000 in
theorem gX6_doesAll_X6_reads : GoodIn wsX6_doesAll (wsV RX6 183 RX6 yX6_reads wsX6_reads) := goodIn_app (goodIn_of _ (by decide +kernel)) ggX6_doesAll_X6_reads
set_option maxRecDepth 20000 in
theorem ggX6_doesAll_X6_isThere : GoodIn wsX6_doesAll wsX6_isThere := goodIn_r _ [28, 10, 11, 12, 29, 30, 31, 8, 32, 33, 22, 23, 24, 34, 35, 36, 130, 131, 132, 133, 134, 135, 136, 137, 138, 139, 140, 141, 142, 143, 144, 145, 146] (by decide +kernel) (by decide +kernel)
set_option maxRecDepth 20000 in
theorem gX6_doesAll_X6_isThere : GoodIn wsX6_doesAll (wsV RX6 186 RX6 yX6_isThere wsX6_isThere) := goodIn_app (goodIn_of _ (by decide +kernel)) ggX6_doesAll_X6_isThere
set_option maxRecDepth 20000 in
theorem ggX6_doesAll_X6_can : GoodIn wsX6_doesAll wsX6_can := goodIn_r _ [40, 10, 12, 11, 33, 22, 23, 8, 24, 41, 42, 43, 44, 45, 46, 47, 48, 49, 50, 51, 52, 53, 54, 55, 56, 57, 58, 59, 60, 61, 62, 63, 64, 65, 66, 67, 68, 69, 70, 71, 72, 73, 74, 75, 130, 131, 132, 133, 134, 135, 136, 137, 138, 139, 140, 141, 142, 143, 144, 145, 146] (by decide +kernel) (by decide +kernel)
set_option maxRecDepth 20000 in
theorem gX6_doesAll_X6_can : GoodIn wsX6_doesAll (wsV RX6 190 RX6 yX6_can wsX6_can) := goodIn_app (goodIn_of _ (by decide +kernel)) ggX6_doesAll_X6_can
set_option maxRecDepth 20000 in
theorem ggX6_doesAll_X6_does : GoodIn wsX6_doesAll wsX6_does := goodIn_r _ [79, 10, 11, 12, 80, 81, 82, 8, 83, 45, 46, 47, 48, 33, 49, 50, 51, 52, 84, 85, 86, 87, 88, 89, 90, 91, 92, 93, 94, 95, 96, 97, 98, 99, 100, 101, 102, 103, 104, 105, 61, 62, 63, 64, 106, 107, 108, 109, 110, 111, 112, 113, 114, 115, 116, 117, 118, 119, 120, 121, 122, 123, 124, 125, 126, 127, 128, 129, 130, 131, 132, 133, 134, 135, 136, 137, 138, 139, 140, 141, 142, 143, 144, 145, 146] (by decide +kernel) (by decide +kernel)
set_option maxRecDepth 20000 in
theorem gX6_doesAll_X6_does : GoodIn wsX6_doesAll (wsV RX6 193 RX6 yX6_does wsX6_does) := goodIn_app (goodIn_of _ (by decide +kernel)) ggX6_doesAll_X6_does
theorem dX6_doesAll_0 : decode cX6_doesAll 0 = .ok (.iconst 0, 1) := by decide +kernel
theorem dX6_doesAll_1 : decode cX6_doesAll 1 = .ok (.istore_n 1, 1) := by decide +kernel
theorem dX6_doesAll_2 : decode cX6_doesAll 2 = .ok (.aload_n 0, 1) := by decide +kernel
theorem dX6_doesAll_3 : decode cX6_doesAll 3 = .ok (.iconst 0, 1) := by decide +kernel
theorem dX6_doesAll_4 : decode cX6_doesAll 4 = .ok (.putfield 177, 3) := by decide +kernel
theorem dX6_doesAll_7 : decode cX6_doesAll 7 = .ok (.iload_n 1, 1) := by decide +kernel
theorem dX6_doesAll_8 : decode cX6_doesAll 8 = .ok (.aload_n 0, 1) := by decide +kernel
theorem dX6_doesAll_9 : decode cX6_doesAll 9 = .ok (.getfield 156, 3) := by decide +kernel
theorem dX6_doesAll_12 : decode cX6_doesAll 12 = .ok (.if_icmp .ge 58, 3) := by decide +kernel
theorem dX6_doesAll_15 : decode cX6_doesAll 15 = .ok (.aload_n 0, 1) := by decide +kernel
theorem dX6_doesAll_16 : decode cX6_doesAll 16 = .ok (.iload_n 1, 1) := by decide +kernel
theorem dX6_doesAll_17 : decode cX6_doesAll 17 = .ok (.putfield 180, 3) := by decide +kernel
theorem dX6_doesAll_20 : decode cX6_doesAll 20 = .ok (.aload_n 0, 1) := by decide +kernel
theorem dX6_doesAll_21 : decode cX6_doesAll 21 = .ok (.iload_n 1, 1) := by decide +kernel
theorem dX6_doesAll_22 : decode cX6_doesAll 22 = .ok (.invokevirtual 183, 3) := by decide +kernel
theorem dX6_doesAll_25 : decode cX6_doesAll 25 = .ok (.ifCond .ne 5, 3) := by decide +kernel
theorem dX6_doesAll_28 : decode cX6_doesAll 28 = .ok (.iconst 1, 1) := by decide +kernel
theorem dX6_doesAll_29 : decode cX6_doesAll 29 = .ok (.ireturn, 1) := by decide +kernel
theorem dX6_doesAll_30 : decode cX6_doesAll 30 = .ok (.aload_n 0, 1) := by decide +kernel
theorem dX6_doesAll_31 : decode cX6_doesAll 31 = .ok (.invokevirtual 186, 3) := by decide +kernel
theorem dX6_doesAll_34 : decode cX6_doesAll 34 = .ok (.ifCond .ne 5, 3) := by decide +kernel
theorem dX6_doesAll_37 : decode cX6_doesAll 37 = .ok (.iconst 2, 1) := by decide +kernel
theorem dX6_doesAll_38 : decode cX6_doesAll 38 = .ok (.ireturn, 1) := by decide +kernel
theorem dX6_doesAll_39 : decode cX6_doesAll 39 = .ok (.aload_n 0, 1) := by decide +kernel
theorem dX6_doesAll_40 : decode cX6_doesAll 40 = .ok (.invokevirtual 190, 3) := by decide +kernel
theorem dX6_doesAll_43 : decode cX6_doesAll 43 = .ok (.ifCond .ne 5, 3) := by decide +kernel
theorem dX6_doesAll_46 : decode cX6_doesAll 46 = .ok (.iconst 3, 1) := by decide +kernel
theorem dX6_doesAll_47 : decode cX6_doesAll 47 = .ok (.ireturn, 1) := by decide +kernel
theorem dX6_doesAll_48 : decode cX6_doesAll 48 = .ok (.aload_n 0, 1) := by decide +kernel
theorem dX6_doesAll_49 : decode cX6_doesAll 49 = .ok (.invokevirtual 193, 3) := by decide +kernel
theorem dX6_doesAll_52 : decode cX6_doesAll 52 = .ok (.aload_n 0, 1) := by decide +kernel
theorem dX6_doesAll_53 : decode cX6_doesAll 53 = .ok (.dup, 1) := by decide +kernel
theorem dX6_doesAll_54 : decode cX6_doesAll 54 = .ok (.getfield 177, 3) := by decide +kernel
theorem dX6_doesAll_57 : decode cX6_doesAll 57 = .ok (.iconst 1, 1) := by decide +kernel
theorem dX6_doesAll_58 : decode cX6_doesAll 58 = .ok (.iadd, 1) := by decide +kernel
theorem dX6_doesAll_59 : decode cX6_doesAll 59 = .ok (.putfield 177, 3) := by decide +kernel
theorem dX6_doesAll_62 : decode cX6_doesAll 62 = .ok (.aload_n 0, 1) := by decide +kernel
theorem dX6_doesAll_63 : decode cX6_doesAll 63 = .ok (.getfield 159, 3) := by decide +kernel
theorem dX6_doesAll_66 : decode cX6_doesAll 66 = .ok (.istore_n 1, 1) := by decide +kernel
theorem dX6_doesAll_67 : decode cX6_doesAll 67 = .ok (.goto (-60), 3) := by decide +kernel
theorem dX6_doesAll_70 : decode cX6_doesAll 70 = .ok (.iconst 0, 1) := by decide +kernel
theorem dX6_doesAll_71 : decode cX6_doesAll 71 = .ok (.ireturn, 1) := by decide +kernel
set_option maxRecDepth 20000 in
theorem ggX6_looks_X6_copies : GoodIn wsX6_looks wsX6_copies := goodIn_r _ [6] (by decide +kernel) (by decide +kernel)
set_option maxRecDepth 20000 in
theorem gX6_looks_X6_copies : GoodIn wsX6_looks (va_wsS RX6 32 yX6_copies wsX6_copies) := goodIn_app (goodIn_of _ (by decide +kernel)) ggX6_looks_X6_copies
set_option maxRecDepth 20000 in
theorem ggX6_looks_X6_doesAll : GoodIn wsX6_looks wsX6_doesAll := goodIn_r _ [10, 11, 12, 13, 14, 15, 16, 17, 5, 18, 19, 20, 21, 22, 23, 24, 25, 26, 27, 28, 29, 30, 31, 32, 33, 34, 35, 36, 37, 38, 39, 40, 41, 1, 42, 43, 44, 45, 46, 47, 48, 49, 50, 51, 52, 53, 54, 55, 56, 57, 58, 59, 60, 61, 62, 63, 64, 65, 66, 67, 68, 69, 70, 71, 72, 73, 74, 75, 76, 77, 78, 79, 80, 81, 82, 83, 84, 85, 86, 87, 88, 89, 90, 91, 92, 93, 94, 95, 96, 97, 98, 99, 100, 101, 102, 103, 104, 105, 106, 107, 108, 109, 110, 111, 112, 113, 114, 115, 116, 117, 118, 119, 120, 121, 122, 123, 124, 125, 126, 127, 128, 129, 130, 131, 132, 133, 134, 135, 136, 137, 138, 139, 140, 141, 142, 143, 144, 145, 146, 147, 148, 149, 150, 151, 152, 153, 154] (by decide +kernel) (by decide +kernel)
set_option maxRecDepth 20000 in
theorem gX6_looks_X6_doesAll : GoodIn wsX6_looks (wsV RX6 196 RX6 yX6_doesAll wsX6_doesAll) := goodIn_app (goodIn_of _ (by decide +kernel)) ggX6_looks_X6_doesAll
theorem dX6_looks_0 : decode cX6_looks 0 = .ok (.aload_n 0, 1) := by decide +kernel
theorem dX6_looks_1 : decode cX6_looks 1 = .ok (.getfield 7, 3) := by decide +kernel
theorem dX6_looks_4 : decode cX6_looks 4 = .ok (.iconst 0, 1) := by decide +kernel
theorem dX6_looks_5 : decode cX6_looks 5 = .ok (.aload_n 0, 1) := by decide +kernel
theorem dX6_looks_6 : decode cX6_looks 6 = .ok (.getfield 16, 3) := by decide +kernel
theorem dX6_looks_9 : decode cX6_looks 9 = .ok (.iconst 0, 1) := by decide +kernel
theorem dX6_looks_10 : decode cX6_looks 10 = .ok (.invokestatic 32, 3) := by decide +kernel
theorem dX6_looks_13 : decode cX6_looks 13 = .ok (.aload_n 0, 1) := by decide +kernel
theorem dX6_looks_14 : decode cX6_looks 14 = .ok (.invokevirtual 196, 3) := by decide +kernel
theorem dX6_looks_17 : decode cX6_looks 17 = .ok (.istore_n 1, 1) := by decide +kernel
theorem dX6_looks_18 : decode cX6_looks 18 = .ok (.aload_n 0, 1) := by decide +kernel
theorem dX6_looks_19 : decode cX6_looks 19 = .ok (.getfield 16, 3) := by decide +kernel
theorem dX6_looks_22 : decode cX6_looks 22 = .ok (.iconst 0, 1) := by decide +kernel
theorem dX6_looks_23 : decode cX6_looks 23 = .ok (.aload_n 0, 1) := by decide +kernel
theorem dX6_looks_24 : decode cX6_looks 24 = .ok (.getfield 7, 3) := by decide +kernel
theorem dX6_looks_27 : decode cX6_looks 27 = .ok (.iconst 0, 1) := by decide +kernel
theorem dX6_looks_28 : decode cX6_looks 28 = .ok (.invokestatic 32, 3) := by decide +kernel
theorem dX6_looks_31 : decode cX6_looks 31 = .ok (.iload_n 1, 1) := by decide +kernel
theorem dX6_looks_32 : decode cX6_looks 32 = .ok (.ireturn, 1) := by decide +kernel
set_option maxRecDepth 20000 in
theorem ggX6_fault_X6_in : GoodIn wsX6_fault wsX6_in := goodIn_r _ [5] (by decide +kernel) (by decide +kernel)
set_option maxRecDepth 20000 in
theorem gX6_fault_X6_in : GoodIn wsX6_fault (va_wsS RX6 36 yX6_in wsX6_in) := goodIn_app (goodIn_of _ (by decide +kernel)) ggX6_fault_X6_in
set_option maxRecDepth 20000 in
theorem ggX6_fault_X6_looks : GoodIn wsX6_fault wsX6_looks := goodIn_r _ [9, 10, 11, 12, 13, 4, 14, 15, 16, 17, 18, 19, 20, 1, 21, 22, 23, 24, 25, 26, 27, 28, 29, 30, 31, 32, 33, 34, 35, 36, 37, 2, 3, 5, 38, 39, 40, 41, 42, 43, 44, 45, 46, 47, 48, 49, 50, 51, 52, 53, 54, 55, 56, 57, 58, 59, 60, 61, 62, 63, 64, 65, 66, 67, 68, 69, 70, 71, 72, 73, 74, 75, 76, 77, 78, 79, 80, 81, 82, 83, 84, 85, 86, 87, 88, 89, 90, 91, 92, 93, 94, 95, 96, 97, 98, 99, 100, 101, 102, 103, 104, 105, 106, 107, 108, 109, 110, 111, 112, 113, 114, 115, 116, 117, 118, 119, 120, 121, 122, 123, 124, 125, 126, 127, 128, 129, 130, 131, 132, 133, 134, 135, 136, 137, 138, 139, 140, 141, 142, 143, 144, 145, 146, 147, 148, 149, 150, 151, 152, 153, 154, 155, 156, 157, 158] (by decide +kernel) (by decide +kernel)
set_option maxRecDepth 20000 in
theorem gX6_fault_X6_looks : GoodIn wsX6_fault (wsV RX6 199 RX6 yX6_looks wsX6_looks) := goodIn_app (goodIn_of _ (by decide +kernel)) ggX6_fault_X6_looks
theorem dX6_fault_0 : decode cX6_fault 0 = .ok (.iload_n 1, 1) := by decide +kernel
theorem dX6_fault_1 : decode cX6_fault 1 = .ok (.iconst 0, 1) := by decide +kernel
theorem dX6_fault_2 : decode cX6_fault 2 = .ok (.iconst 1, 1) := by decide +kernel
theorem dX6_fault_3 : decode cX6_fault 3 = .ok (.invokestatic 36, 3) := by decide +kernel
theorem dX6_fault_6 : decode cX6_fault 6 = .ok (.ifCond .ne 5, 3) := by decide +kernel
theorem dX6_fault_9 : decode cX6_fault 9 = .ok (.iconst (-1), 1) := by decide +kernel
theorem dX6_fault_10 : decode cX6_fault 10 = .ok (.ireturn, 1) := by decide +kernel
theorem dX6_fault_11 : decode cX6_fault 11 = .ok (.aload_n 0, 1) := by decide +kernel
theorem dX6_fault_12 : decode cX6_fault 12 = .ok (.invokevirtual 199, 3) := by decide +kernel
theorem dX6_fault_15 : decode cX6_fault 15 = .ok (.istore_n 2, 1) := by decide +kernel
theorem dX6_fault_16 : decode cX6_fault 16 = .ok (.iload_n 2, 1) := by decide +kernel
theorem dX6_fault_17 : decode cX6_fault 17 = .ok (.ifCond .ne 8, 3) := by decide +kernel
theorem dX6_fault_20 : decode cX6_fault 20 = .ok (.bipush (-4), 2) := by decide +kernel
theorem dX6_fault_22 : decode cX6_fault 22 = .ok (.goto 15, 3) := by decide +kernel
theorem dX6_fault_25 : decode cX6_fault 25 = .ok (.iload_n 1, 1) := by decide +kernel
theorem dX6_fault_26 : decode cX6_fault 26 = .ok (.ifCond .ne 10, 3) := by decide +kernel
theorem dX6_fault_29 : decode cX6_fault 29 = .ok (.aload_n 0, 1) := by decide +kernel
theorem dX6_fault_30 : decode cX6_fault 30 = .ok (.getfield 180, 3) := by decide +kernel
theorem dX6_fault_33 : decode cX6_fault 33 = .ok (.goto 4, 3) := by decide +kernel
theorem dX6_fault_36 : decode cX6_fault 36 = .ok (.iload_n 2, 1) := by decide +kernel
theorem dX6_fault_37 : decode cX6_fault 37 = .ok (.ireturn, 1) := by decide +kernel
set_option maxRecDepth 20000 in
theorem ggX6_play_X6_looks : GoodIn wsX6_play wsX6_looks := goodIn_r _ [6, 7, 8, 9, 10, 5, 11, 12, 13, 14, 15, 1, 16, 17, 18, 19, 20, 21, 22, 23, 24, 25, 26, 27, 28, 29, 30, 31, 32, 33, 34, 35, 36, 37, 38, 39, 40, 41, 42, 43, 44, 45, 46, 47, 48, 49, 50, 51, 52, 53, 54, 55, 56, 57, 58, 59, 60, 61, 62, 63, 64, 65, 66, 67, 68, 69, 70, 71, 72, 73, 74, 75, 76, 77, 78, 79, 80, 81, 82, 83, 84, 85, 86, 87, 88, 89, 90, 91, 92, 93, 94, 95, 96, 97, 98, 99, 100, 101, 102, 103, 104, 105, 106, 107, 108, 109, 110, 111, 112, 113, 114, 115, 116, 117, 118, 119, 120, 121, 122, 123, 124, 125, 126, 127, 128, 129, 130, 131, 132, 133, 134, 135, 136, 137, 138, 139, 140, 141, 148, 149, 150, 151, 152, 153, 154, 155, 156, 157, 158, 159, 160, 161, 162, 163, 164] (by decide +kernel) (by decide +kernel)
set_option maxRecDepth 20000 in
theorem gX6_play_X6_looks : GoodIn wsX6_play (wsV RX6 199 RX6 yX6_looks wsX6_looks) := goodIn_app (goodIn_of _ (by decide +kernel)) ggX6_play_X6_looks
set_option maxRecDepth 20000 in
theorem ggX6_play_X6_records : GoodIn wsX6_play wsX6_records := goodIn_r _ [145, 146, 147, 7, 9, 10, 5, 11, 148, 149, 150, 151, 152, 153, 154, 155, 156, 157, 158, 159, 160, 161, 162, 163, 164] (by decide +kernel) (by decide +kernel)
set_option maxRecDepth 20000 in
theorem gX6_play_X6_records : GoodIn wsX6_play (wsV RX6 54 RX6 yX6_records wsX6_records) := goodIn_app (goodIn_of _ (by decide +kernel)) ggX6_play_X6_records
set_option maxRecDepth 20000 in
theorem ggX6_play_X6_doesAll : GoodIn wsX6_play wsX6_doesAll := goodIn_r _ [15, 1, 16, 17, 18, 19, 20, 21, 5, 22, 23, 24, 25, 26, 27, 28, 29, 30, 31, 32, 33, 34, 35, 36, 37, 38, 39, 40, 41, 42, 43, 44, 45, 7, 46, 47, 48, 49, 50, 51, 52, 53, 54, 55, 56, 57, 58, 59, 60, 61, 62, 63, 64, 65, 66, 67, 68, 69, 70, 71, 72, 73, 74, 75, 76, 77, 78, 79, 80, 81, 82, 83, 84, 85, 86, 87, 88, 89, 90, 91, 92, 93, 94, 95, 96, 97, 98, 99, 100, 101, 102, 103, 104, 105, 106, 107, 108, 109, 110, 111, 112, 113, 114, 115, 116, 117, 118, 119, 120, 121, 122, 123, 124, 125, 126, 127, 128, 129, 130, 131, 132, 133, 134, 135, 136, 137, 138, 139, 140, 141, 148, 149, 150, 151, 152, 153, 154, 155, 156, 157, 158, 159, 160, 161, 162, 163, 164] (by decide +kernel) (by decide +kernel)
set_option maxRecDepth 20000 in
theorem gX6_play_X6_doesAll : GoodIn wsX6_play (wsV RX6 196 RX6 yX6_doesAll wsX6_doesAll) := goodIn_app (goodIn_of _ (by decide +kernel)) ggX6_play_X6_doesAll
theorem dX6_play_0 : decode cX6_play 0 = .ok (.aload_n 0, 1) := by decide +kernel
theorem dX6_play_1 : decode cX6_play 1 = .ok (.invokevirtual 199, 3) := by decide +kernel
theorem dX6_play_4 : decode cX6_play 4 = .ok (.ifCond .eq 6, 3) := by decide +kernel
theorem dX6_play_7 : decode cX6_play 7 = .ok (.bipush (-2), 2) := by decide +kernel
theorem dX6_play_9 : decode cX6_play 9 = .ok (.ireturn, 1) := by decide +kernel
theorem dX6_play_10 : decode cX6_play 10 = .ok (.aload_n 0, 1) := by decide +kernel
theorem dX6_play_11 : decode cX6_play 11 = .ok (.invokevirtual 54, 3) := by decide +kernel
theorem dX6_play_14 : decode cX6_play 14 = .ok (.aload_n 0, 1) := by decide +kernel
theorem dX6_play_15 : decode cX6_play 15 = .ok (.invokevirtual 196, 3) := by decide +kernel
theorem dX6_play_18 : decode cX6_play 18 = .ok (.istore_n 1, 1) := by decide +kernel
theorem dX6_play_19 : decode cX6_play 19 = .ok (.iload_n 1, 1) := by decide +kernel
theorem dX6_play_20 : decode cX6_play 20 = .ok (.ifCond .ne 10, 3) := by decide +kernel
theorem dX6_play_23 : decode cX6_play 23 = .ok (.aload_n 0, 1) := by decide +kernel
theorem dX6_play_24 : decode cX6_play 24 = .ok (.getfield 177, 3) := by decide +kernel
theorem dX6_play_27 : decode cX6_play 27 = .ok (.goto 5, 3) := by decide +kernel
theorem dX6_play_30 : decode cX6_play 30 = .ok (.bipush (-2), 2) := by decide +kernel
theorem dX6_play_32 : decode cX6_play 32 = .ok (.ireturn, 1) := by decide +kernel
