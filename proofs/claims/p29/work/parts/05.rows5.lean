set_option maxRecDepth 20000 in
theorem ggX5_init_X1_init : GoodIn wsX5_init wsX1_init := goodIn_r _ [20, 21, 2, 3, 22, 23, 59, 60, 61, 62, 63, 64] (by decide +kernel) (by decide +kernel)
set_option maxRecDepth 20000 in
theorem gX5_init_X1_init_n17 : GoodIn wsX5_init (wsX1_init) := ggX5_init_X1_init
set_option maxRecDepth 20000 in
theorem ggX5_init_X3_init : GoodIn wsX5_init wsX3_init := goodIn_r _ [25, 26, 2, 3, 27, 28, 65, 66] (by decide +kernel) (by decide +kernel)
set_option maxRecDepth 20000 in
theorem gX5_init_X3_init_n24 : GoodIn wsX5_init (wsX3_init) := ggX5_init_X3_init
set_option maxRecDepth 20000 in
theorem ggX5_init_X4_init : GoodIn wsX5_init wsX4_init := goodIn_r _ [31, 32, 2, 3, 27, 33, 34, 35, 36, 37, 38, 39, 40, 41, 42, 43, 44, 45, 46, 47, 48, 49, 67, 68, 69, 70, 71, 72, 73, 74, 75, 76, 77, 78, 79, 80, 81, 82, 83, 84, 85, 86] (by decide +kernel) (by decide +kernel)
set_option maxRecDepth 20000 in
theorem gX5_init_X4_init : GoodIn wsX5_init (wsX4_init) := ggX5_init_X4_init
theorem dX5_init_0 : decode cX5_init 0 = .ok (.aload_n 0, 1) := by decide +kernel
theorem dX5_init_1 : decode cX5_init 1 = .ok (.invokespecial 1, 3) := by decide +kernel
theorem dX5_init_4 : decode cX5_init 4 = .ok (.aload_n 0, 1) := by decide +kernel
theorem dX5_init_5 : decode cX5_init 5 = .ok (.iconst 4, 1) := by decide +kernel
theorem dX5_init_6 : decode cX5_init 6 = .ok (.anewarray 9, 3) := by decide +kernel
theorem dX5_init_9 : decode cX5_init 9 = .ok (.putfield 11, 3) := by decide +kernel
theorem dX5_init_12 : decode cX5_init 12 = .ok (.aload_n 0, 1) := by decide +kernel
theorem dX5_init_13 : decode cX5_init 13 = .ok (.new 15, 3) := by decide +kernel
theorem dX5_init_16 : decode cX5_init 16 = .ok (.dup, 1) := by decide +kernel
theorem dX5_init_17 : decode cX5_init 17 = .ok (.invokespecial 17, 3) := by decide +kernel
theorem dX5_init_20 : decode cX5_init 20 = .ok (.putfield 18, 3) := by decide +kernel
theorem dX5_init_23 : decode cX5_init 23 = .ok (.aload_n 0, 1) := by decide +kernel
theorem dX5_init_24 : decode cX5_init 24 = .ok (.new 22, 3) := by decide +kernel
theorem dX5_init_27 : decode cX5_init 27 = .ok (.dup, 1) := by decide +kernel
theorem dX5_init_28 : decode cX5_init 28 = .ok (.invokespecial 24, 3) := by decide +kernel
theorem dX5_init_31 : decode cX5_init 31 = .ok (.putfield 25, 3) := by decide +kernel
theorem dX5_init_34 : decode cX5_init 34 = .ok (.aload_n 0, 1) := by decide +kernel
theorem dX5_init_35 : decode cX5_init 35 = .ok (.new 22, 3) := by decide +kernel
theorem dX5_init_38 : decode cX5_init 38 = .ok (.dup, 1) := by decide +kernel
theorem dX5_init_39 : decode cX5_init 39 = .ok (.invokespecial 24, 3) := by decide +kernel
theorem dX5_init_42 : decode cX5_init 42 = .ok (.putfield 29, 3) := by decide +kernel
theorem dX5_init_45 : decode cX5_init 45 = .ok (.aload_n 0, 1) := by decide +kernel
theorem dX5_init_46 : decode cX5_init 46 = .ok (.new 9, 3) := by decide +kernel
theorem dX5_init_49 : decode cX5_init 49 = .ok (.dup, 1) := by decide +kernel
theorem dX5_init_50 : decode cX5_init 50 = .ok (.invokespecial 32, 3) := by decide +kernel
theorem dX5_init_53 : decode cX5_init 53 = .ok (.putfield 33, 3) := by decide +kernel
theorem dX5_init_56 : decode cX5_init 56 = .ok (.aload_n 0, 1) := by decide +kernel
theorem dX5_init_57 : decode cX5_init 57 = .ok (.new 9, 3) := by decide +kernel
theorem dX5_init_60 : decode cX5_init 60 = .ok (.dup, 1) := by decide +kernel
theorem dX5_init_61 : decode cX5_init 61 = .ok (.invokespecial 32, 3) := by decide +kernel
theorem dX5_init_64 : decode cX5_init 64 = .ok (.putfield 37, 3) := by decide +kernel
theorem dX5_init_67 : decode cX5_init 67 = .ok (.iconst 0, 1) := by decide +kernel
theorem dX5_init_68 : decode cX5_init 68 = .ok (.istore_n 1, 1) := by decide +kernel
theorem dX5_init_69 : decode cX5_init 69 = .ok (.iload_n 1, 1) := by decide +kernel
theorem dX5_init_70 : decode cX5_init 70 = .ok (.iconst 4, 1) := by decide +kernel
theorem dX5_init_71 : decode cX5_init 71 = .ok (.if_icmp .ge 22, 3) := by decide +kernel
theorem dX5_init_74 : decode cX5_init 74 = .ok (.aload_n 0, 1) := by decide +kernel
theorem dX5_init_75 : decode cX5_init 75 = .ok (.getfield 11, 3) := by decide +kernel
theorem dX5_init_78 : decode cX5_init 78 = .ok (.iload_n 1, 1) := by decide +kernel
theorem dX5_init_79 : decode cX5_init 79 = .ok (.new 9, 3) := by decide +kernel
theorem dX5_init_82 : decode cX5_init 82 = .ok (.dup, 1) := by decide +kernel
theorem dX5_init_83 : decode cX5_init 83 = .ok (.invokespecial 32, 3) := by decide +kernel
theorem dX5_init_86 : decode cX5_init 86 = .ok (.aastore, 1) := by decide +kernel
theorem dX5_init_87 : decode cX5_init 87 = .ok (.iinc 1 1, 3) := by decide +kernel
theorem dX5_init_90 : decode cX5_init 90 = .ok (.goto (-21), 3) := by decide +kernel
theorem dX5_init_93 : decode cX5_init 93 = .ok (.return_, 1) := by decide +kernel
set_option maxRecDepth 20000 in
theorem ggX5_good_X5_startTrial : GoodIn wsX5_good wsX5_startTrial := goodIn_r _ [6, 1, 7, 8, 9, 10, 11, 12, 13, 14, 15, 16, 17, 18, 19, 20, 21, 22, 23, 24, 25, 26, 27, 28, 29, 30, 31, 32, 33, 34, 35, 36, 37, 38, 39, 40, 41, 42, 43, 44, 45, 46, 47, 48, 69, 70, 71, 72, 73, 74, 75, 76, 77, 78, 79, 80, 81, 82, 83, 84, 85, 86, 87, 88, 89, 90, 91, 92, 93, 94, 95, 96, 97] (by decide +kernel) (by decide +kernel)
set_option maxRecDepth 20000 in
theorem gX5_good_X5_startTrial : GoodIn wsX5_good (wsV RX5 40 RX5 yX5_startTrial wsX5_startTrial) := goodIn_app (goodIn_of _ (by decide +kernel)) ggX5_good_X5_startTrial
set_option maxRecDepth 20000 in
theorem ggX5_good_X4_addGood : GoodIn wsX5_good wsX4_addGood := goodIn_r _ [52, 24, 13, 14, 16, 53, 5, 54, 78, 79, 80, 81, 82, 83, 84, 85, 86, 87, 88, 89, 90] (by decide +kernel) (by decide +kernel)
set_option maxRecDepth 20000 in
theorem gX5_good_X4_addGood : GoodIn wsX5_good (wsV RX5 43 RX4 yX4_addGood wsX4_addGood) := goodIn_app (goodIn_of _ (by decide +kernel)) ggX5_good_X4_addGood
set_option maxRecDepth 20000 in
theorem ggX5_good_X5_endTrial : GoodIn wsX5_good wsX5_endTrial := goodIn_r _ [58, 59, 60, 61, 5, 62, 63, 64, 7, 1, 65, 66, 67, 68, 69, 70, 71, 72, 73, 74, 75, 76, 77] (by decide +kernel) (by decide +kernel)
set_option maxRecDepth 20000 in
theorem gX5_good_X5_endTrial : GoodIn wsX5_good (wsV RX5 47 RX5 yX5_endTrial wsX5_endTrial) := goodIn_app (goodIn_of _ (by decide +kernel)) ggX5_good_X5_endTrial
theorem dX5_good_0 : decode cX5_good 0 = .ok (.aload_n 0, 1) := by decide +kernel
theorem dX5_good_1 : decode cX5_good 1 = .ok (.invokevirtual 40, 3) := by decide +kernel
theorem dX5_good_4 : decode cX5_good 4 = .ok (.aload_n 0, 1) := by decide +kernel
theorem dX5_good_5 : decode cX5_good 5 = .ok (.aload_n 0, 1) := by decide +kernel
theorem dX5_good_6 : decode cX5_good 6 = .ok (.getfield 37, 3) := by decide +kernel
theorem dX5_good_9 : decode cX5_good 9 = .ok (.iload_n 1, 1) := by decide +kernel
theorem dX5_good_10 : decode cX5_good 10 = .ok (.iload_n 2, 1) := by decide +kernel
theorem dX5_good_11 : decode cX5_good 11 = .ok (.invokevirtual 43, 3) := by decide +kernel
theorem dX5_good_14 : decode cX5_good 14 = .ok (.invokevirtual 47, 3) := by decide +kernel
theorem dX5_good_17 : decode cX5_good 17 = .ok (.ireturn, 1) := by decide +kernel
set_option maxRecDepth 20000 in
theorem ggX5_demand_X5_startTrial : GoodIn wsX5_demand wsX5_startTrial := goodIn_r _ [6, 1, 7, 8, 9, 10, 11, 12, 13, 14, 15, 16, 17, 18, 19, 20, 21, 22, 23, 24, 25, 26, 27, 28, 29, 30, 31, 32, 33, 34, 35, 36, 37, 38, 39, 40, 41, 42, 43, 44, 45, 46, 47, 48, 79, 80, 81, 82, 83, 84, 85, 86, 87, 88, 89, 90, 91, 92, 93, 94, 95, 96, 97, 98, 99, 100, 101, 102, 103, 104, 105, 106, 107] (by decide +kernel) (by decide +kernel)
set_option maxRecDepth 20000 in
theorem gX5_demand_X5_startTrial : GoodIn wsX5_demand (wsV RX5 40 RX5 yX5_startTrial wsX5_startTrial) := goodIn_app (goodIn_of _ (by decide +kernel)) ggX5_demand_X5_startTrial
set_option maxRecDepth 20000 in
theorem ggX5_demand_X4_changeDemand : GoodIn wsX5_demand wsX4_changeDemand := goodIn_r _ [52, 15, 53, 54, 55, 11, 56, 24, 57, 5, 58, 59, 60, 61, 62, 63, 64, 88, 89, 90, 91, 92, 93, 94, 95, 96, 97, 98, 99, 100] (by decide +kernel) (by decide +kernel)
set_option maxRecDepth 20000 in
theorem gX5_demand_X4_changeDemand : GoodIn wsX5_demand (wsV RX5 51 RX4 yX4_changeDemand wsX4_changeDemand) := goodIn_app (goodIn_of _ (by decide +kernel)) ggX5_demand_X4_changeDemand
set_option maxRecDepth 20000 in
theorem ggX5_demand_X5_endTrial : GoodIn wsX5_demand wsX5_endTrial := goodIn_r _ [68, 69, 70, 71, 5, 72, 73, 74, 7, 1, 75, 76, 77, 78, 79, 80, 81, 82, 83, 84, 85, 86, 87] (by decide +kernel) (by decide +kernel)
set_option maxRecDepth 20000 in
theorem gX5_demand_X5_endTrial : GoodIn wsX5_demand (wsV RX5 47 RX5 yX5_endTrial wsX5_endTrial) := goodIn_app (goodIn_of _ (by decide +kernel)) ggX5_demand_X5_endTrial
theorem dX5_demand_0 : decode cX5_demand 0 = .ok (.aload_n 0, 1) := by decide +kernel
theorem dX5_demand_1 : decode cX5_demand 1 = .ok (.invokevirtual 40, 3) := by decide +kernel
theorem dX5_demand_4 : decode cX5_demand 4 = .ok (.aload_n 0, 1) := by decide +kernel
theorem dX5_demand_5 : decode cX5_demand 5 = .ok (.aload_n 0, 1) := by decide +kernel
theorem dX5_demand_6 : decode cX5_demand 6 = .ok (.getfield 37, 3) := by decide +kernel
theorem dX5_demand_9 : decode cX5_demand 9 = .ok (.iload_n 1, 1) := by decide +kernel
theorem dX5_demand_10 : decode cX5_demand 10 = .ok (.iload_n 2, 1) := by decide +kernel
theorem dX5_demand_11 : decode cX5_demand 11 = .ok (.iload_n 3, 1) := by decide +kernel
theorem dX5_demand_12 : decode cX5_demand 12 = .ok (.invokevirtual 51, 3) := by decide +kernel
theorem dX5_demand_15 : decode cX5_demand 15 = .ok (.invokevirtual 47, 3) := by decide +kernel
theorem dX5_demand_18 : decode cX5_demand 18 = .ok (.ireturn, 1) := by decide +kernel
set_option maxRecDepth 20000 in
theorem ggX5_deliver_X5_startTrial : GoodIn wsX5_deliver wsX5_startTrial := goodIn_r _ [6, 1, 7, 8, 9, 10, 11, 12, 13, 14, 15, 16, 17, 18, 19, 20, 21, 22, 23, 24, 25, 26, 27, 28, 29, 30, 31, 32, 33, 34, 35, 36, 37, 38, 39, 40, 41, 42, 43, 44, 45, 46, 47, 48, 74, 75, 76, 77, 78, 79, 80, 81, 82, 83, 84, 85, 86, 87, 88, 89, 90, 91, 92, 93, 94, 95, 96, 97, 98, 99, 100, 101, 102] (by decide +kernel) (by decide +kernel)
set_option maxRecDepth 20000 in
theorem gX5_deliver_X5_startTrial : GoodIn wsX5_deliver (wsV RX5 40 RX5 yX5_startTrial wsX5_startTrial) := goodIn_app (goodIn_of _ (by decide +kernel)) ggX5_deliver_X5_startTrial
set_option maxRecDepth 20000 in
theorem ggX5_deliver_X4_addToStore : GoodIn wsX5_deliver wsX4_addToStore := goodIn_r _ [52, 18, 53, 54, 55, 56, 11, 57, 24, 58, 5, 59, 83, 84, 85, 86, 87, 88, 89, 90, 91, 92, 93, 94, 95] (by decide +kernel) (by decide +kernel)
set_option maxRecDepth 20000 in
theorem gX5_deliver_X4_addToStore : GoodIn wsX5_deliver (wsV RX5 55 RX4 yX4_addToStore wsX4_addToStore) := goodIn_app (goodIn_of _ (by decide +kernel)) ggX5_deliver_X4_addToStore
set_option maxRecDepth 20000 in
theorem ggX5_deliver_X5_endTrial : GoodIn wsX5_deliver wsX5_endTrial := goodIn_r _ [63, 64, 65, 66, 5, 67, 68, 69, 7, 1, 70, 71, 72, 73, 74, 75, 76, 77, 78, 79, 80, 81, 82] (by decide +kernel) (by decide +kernel)
set_option maxRecDepth 20000 in
theorem gX5_deliver_X5_endTrial : GoodIn wsX5_deliver (wsV RX5 47 RX5 yX5_endTrial wsX5_endTrial) := goodIn_app (goodIn_of _ (by decide +kernel)) ggX5_deliver_X5_endTrial
theorem dX5_deliver_0 : decode cX5_deliver 0 = .ok (.aload_n 0, 1) := by decide +kernel
theorem dX5_deliver_1 : decode cX5_deliver 1 = .ok (.invokevirtual 40, 3) := by decide +kernel
theorem dX5_deliver_4 : decode cX5_deliver 4 = .ok (.aload_n 0, 1) := by decide +kernel
theorem dX5_deliver_5 : decode cX5_deliver 5 = .ok (.aload_n 0, 1) := by decide +kernel
theorem dX5_deliver_6 : decode cX5_deliver 6 = .ok (.getfield 37, 3) := by decide +kernel
theorem dX5_deliver_9 : decode cX5_deliver 9 = .ok (.iload_n 1, 1) := by decide +kernel
theorem dX5_deliver_10 : decode cX5_deliver 10 = .ok (.iload_n 2, 1) := by decide +kernel
theorem dX5_deliver_11 : decode cX5_deliver 11 = .ok (.invokevirtual 55, 3) := by decide +kernel
theorem dX5_deliver_14 : decode cX5_deliver 14 = .ok (.invokevirtual 47, 3) := by decide +kernel
theorem dX5_deliver_17 : decode cX5_deliver 17 = .ok (.ireturn, 1) := by decide +kernel
set_option maxRecDepth 20000 in
theorem ggX5_place_X5_startTrial : GoodIn wsX5_place wsX5_startTrial := goodIn_r _ [6, 1, 7, 8, 9, 10, 11, 12, 13, 14, 15, 16, 17, 18, 19, 20, 21, 22, 23, 24, 25, 26, 27, 28, 29, 30, 31, 32, 33, 34, 35, 36, 37, 38, 39, 40, 41, 42, 43, 44, 45, 46, 47, 48, 95, 96, 97, 98, 99, 100, 101, 102, 103, 104, 105, 106, 107, 108, 109, 110, 111, 112, 113, 114, 115, 116, 117, 118, 119, 120, 121, 122, 123] (by decide +kernel) (by decide +kernel)
set_option maxRecDepth 20000 in
theorem gX5_place_X5_startTrial : GoodIn wsX5_place (wsV RX5 40 RX5 yX5_startTrial wsX5_startTrial) := goodIn_app (goodIn_of _ (by decide +kernel)) ggX5_place_X5_startTrial
set_option maxRecDepth 20000 in
theorem ggX5_place_X4_putIntoSlot : GoodIn wsX5_place wsX4_putIntoSlot := goodIn_r _ [52, 21, 53, 54, 55, 11, 56, 24, 57, 58, 59, 60, 61, 62, 63, 64, 16, 65, 66, 67, 68, 13, 69, 70, 71, 72, 73, 74, 75, 76, 77, 78, 79, 80, 104, 105, 106, 107, 108, 109, 110, 111, 112, 113, 114, 115, 116] (by decide +kernel) (by decide +kernel)
set_option maxRecDepth 20000 in
theorem gX5_place_X4_putIntoSlot : GoodIn wsX5_place (wsV RX5 58 RX4 yX4_putIntoSlot wsX4_putIntoSlot) := goodIn_app (goodIn_of _ (by decide +kernel)) ggX5_place_X4_putIntoSlot
set_option maxRecDepth 20000 in
theorem ggX5_place_X5_endTrial : GoodIn wsX5_place wsX5_endTrial := goodIn_r _ [84, 85, 86, 87, 5, 88, 89, 90, 7, 1, 91, 92, 93, 94, 95, 96, 97, 98, 99, 100, 101, 102, 103] (by decide +kernel) (by decide +kernel)
set_option maxRecDepth 20000 in
theorem gX5_place_X5_endTrial : GoodIn wsX5_place (wsV RX5 47 RX5 yX5_endTrial wsX5_endTrial) := goodIn_app (goodIn_of _ (by decide +kernel)) ggX5_place_X5_endTrial
theorem dX5_place_0 : decode cX5_place 0 = .ok (.aload_n 0, 1) := by decide +kernel
theorem dX5_place_1 : decode cX5_place 1 = .ok (.invokevirtual 40, 3) := by decide +kernel
theorem dX5_place_4 : decode cX5_place 4 = .ok (.aload_n 0, 1) := by decide +kernel
theorem dX5_place_5 : decode cX5_place 5 = .ok (.aload_n 0, 1) := by decide +kernel
theorem dX5_place_6 : decode cX5_place 6 = .ok (.getfield 37, 3) := by decide +kernel
theorem dX5_place_9 : decode cX5_place 9 = .ok (.iload_n 1, 1) := by decide +kernel
theorem dX5_place_10 : decode cX5_place 10 = .ok (.iload_n 2, 1) := by decide +kernel
theorem dX5_place_11 : decode cX5_place 11 = .ok (.invokevirtual 58, 3) := by decide +kernel
theorem dX5_place_14 : decode cX5_place 14 = .ok (.invokevirtual 47, 3) := by decide +kernel
theorem dX5_place_17 : decode cX5_place 17 = .ok (.ireturn, 1) := by decide +kernel
set_option maxRecDepth 20000 in
theorem ggX5_take_X5_startTrial : GoodIn wsX5_take wsX5_startTrial := goodIn_r _ [6, 1, 7, 8, 9, 10, 11, 12, 13, 14, 15, 16, 17, 18, 19, 20, 21, 22, 23, 24, 25, 26, 27, 28, 29, 30, 31, 32, 33, 34, 35, 36, 37, 38, 39, 40, 41, 42, 43, 44, 45, 46, 47, 48, 79, 80, 81, 82, 83, 84, 85, 86, 87, 88, 89, 90, 91, 92, 93, 94, 95, 96, 97, 98, 99, 100, 101, 102, 103, 104, 105, 106, 107] (by decide +kernel) (by decide +kernel)
set_option maxRecDepth 20000 in
theorem gX5_take_X5_startTrial : GoodIn wsX5_take (wsV RX5 40 RX5 yX5_startTrial wsX5_startTrial) := goodIn_app (goodIn_of _ (by decide +kernel)) ggX5_take_X5_startTrial
set_option maxRecDepth 20000 in
theorem ggX5_take_X4_takeOutOfSlot : GoodIn wsX5_take wsX4_takeOutOfSlot := goodIn_r _ [52, 17, 18, 21, 16, 53, 54, 55, 11, 56, 24, 57, 58, 59, 60, 61, 62, 63, 64, 88, 89, 90, 91, 92, 93, 94, 95, 96, 97, 98, 99, 100] (by decide +kernel) (by decide +kernel)
set_option maxRecDepth 20000 in
theorem gX5_take_X4_takeOutOfSlot : GoodIn wsX5_take (wsV RX5 61 RX4 yX4_takeOutOfSlot wsX4_takeOutOfSlot) := goodIn_app (goodIn_of _ (by decide +kernel)) ggX5_take_X4_takeOutOfSlot
set_option maxRecDepth 20000 in
theorem ggX5_take_X5_endTrial : GoodIn wsX5_take wsX5_endTrial := goodIn_r _ [68, 69, 70, 71, 5, 72, 73, 74, 7, 1, 75, 76, 77, 78, 79, 80, 81, 82, 83, 84, 85, 86, 87] (by decide +kernel) (by decide +kernel)
set_option maxRecDepth 20000 in
theorem gX5_take_X5_endTrial : GoodIn wsX5_take (wsV RX5 47 RX5 yX5_endTrial wsX5_endTrial) := goodIn_app (goodIn_of _ (by decide +kernel)) ggX5_take_X5_endTrial
theorem dX5_take_0 : decode cX5_take 0 = .ok (.aload_n 0, 1) := by decide +kernel
theorem dX5_take_1 : decode cX5_take 1 = .ok (.invokevirtual 40, 3) := by decide +kernel
theorem dX5_take_4 : decode cX5_take 4 = .ok (.aload_n 0, 1) := by decide +kernel
theorem dX5_take_5 : decode cX5_take 5 = .ok (.aload_n 0, 1) := by decide +kernel
theorem dX5_take_6 : decode cX5_take 6 = .ok (.getfield 37, 3) := by decide +kernel
theorem dX5_take_9 : decode cX5_take 9 = .ok (.iload_n 1, 1) := by decide +kernel
theorem dX5_take_10 : decode cX5_take 10 = .ok (.invokevirtual 61, 3) := by decide +kernel
theorem dX5_take_13 : decode cX5_take 13 = .ok (.invokevirtual 47, 3) := by decide +kernel
theorem dX5_take_16 : decode cX5_take 16 = .ok (.ireturn, 1) := by decide +kernel
set_option maxRecDepth 20000 in
theorem ggX5_goodOf_X4_numberOfGood : GoodIn wsX5_goodOf wsX4_numberOfGood := goodIn_r _ [6, 7, 8, 9, 10, 11, 12, 13, 14, 15, 16, 5, 17, 18, 19, 20, 21, 22, 23, 24, 25, 26, 27, 28, 29, 30, 31, 32, 33, 34, 35, 36, 37, 38, 48, 49, 50, 51, 52, 53, 54, 55, 56, 57, 58, 59, 60] (by decide +kernel) (by decide +kernel)
set_option maxRecDepth 20000 in
theorem gX5_goodOf_X4_numberOfGood : GoodIn wsX5_goodOf (wsV RX5 64 RX4 yX4_numberOfGood wsX4_numberOfGood) := goodIn_app (goodIn_of _ (by decide +kernel)) ggX5_goodOf_X4_numberOfGood
theorem dX5_goodOf_0 : decode cX5_goodOf 0 = .ok (.aload_n 0, 1) := by decide +kernel
theorem dX5_goodOf_1 : decode cX5_goodOf 1 = .ok (.getfield 33, 3) := by decide +kernel
theorem dX5_goodOf_4 : decode cX5_goodOf 4 = .ok (.iload_n 1, 1) := by decide +kernel
theorem dX5_goodOf_5 : decode cX5_goodOf 5 = .ok (.iload_n 2, 1) := by decide +kernel
theorem dX5_goodOf_6 : decode cX5_goodOf 6 = .ok (.invokevirtual 64, 3) := by decide +kernel
theorem dX5_goodOf_9 : decode cX5_goodOf 9 = .ok (.ireturn, 1) := by decide +kernel
set_option maxRecDepth 20000 in
theorem ggX5_slotOf_X4_numberOfSlot : GoodIn wsX5_slotOf wsX4_numberOfSlot := goodIn_r _ [6, 7, 8, 9, 10, 11, 12, 13, 14, 5, 15, 16, 17, 18, 19, 20, 21, 22, 23, 24, 34, 35, 36, 37, 38, 39, 40, 41, 42, 43, 44, 45, 46] (by decide +kernel) (by decide +kernel)
set_option maxRecDepth 20000 in
theorem gX5_slotOf_X4_numberOfSlot : GoodIn wsX5_slotOf (wsV RX5 67 RX4 yX4_numberOfSlot wsX4_numberOfSlot) := goodIn_app (goodIn_of _ (by decide +kernel)) ggX5_slotOf_X4_numberOfSlot
theorem dX5_slotOf_0 : decode cX5_slotOf 0 = .ok (.aload_n 0, 1) := by decide +kernel
theorem dX5_slotOf_1 : decode cX5_slotOf 1 = .ok (.getfield 33, 3) := by decide +kernel
theorem dX5_slotOf_4 : decode cX5_slotOf 4 = .ok (.iload_n 1, 1) := by decide +kernel
theorem dX5_slotOf_5 : decode cX5_slotOf 5 = .ok (.iload_n 2, 1) := by decide +kernel
theorem dX5_slotOf_6 : decode cX5_slotOf 6 = .ok (.invokevirtual 67, 3) := by decide +kernel
theorem dX5_slotOf_9 : decode cX5_slotOf 9 = .ok (.ireturn, 1) := by decide +kernel
set_option maxRecDepth 20000 in
theorem ggX5_nearest_X4_nearestFreeSlot : GoodIn wsX5_nearest wsX4_nearestFreeSlot := goodIn_r _ [6, 7, 8, 9, 10, 5, 11, 12, 13, 14, 15, 16, 17, 18, 19, 20, 21, 22, 23, 24, 25, 26, 36, 37, 38, 39, 40, 41, 42, 43, 44, 45, 46, 47, 48] (by decide +kernel) (by decide +kernel)
set_option maxRecDepth 20000 in
theorem gX5_nearest_X4_nearestFreeSlot : GoodIn wsX5_nearest (wsV RX5 70 RX4 yX4_nearestFreeSlot wsX4_nearestFreeSlot) := goodIn_app (goodIn_of _ (by decide +kernel)) ggX5_nearest_X4_nearestFreeSlot
theorem dX5_nearest_0 : decode cX5_nearest 0 = .ok (.aload_n 0, 1) := by decide +kernel
theorem dX5_nearest_1 : decode cX5_nearest 1 = .ok (.getfield 33, 3) := by decide +kernel
theorem dX5_nearest_4 : decode cX5_nearest 4 = .ok (.iload_n 1, 1) := by decide +kernel
theorem dX5_nearest_5 : decode cX5_nearest 5 = .ok (.invokevirtual 70, 3) := by decide +kernel
theorem dX5_nearest_8 : decode cX5_nearest 8 = .ok (.ireturn, 1) := by decide +kernel
set_option maxRecDepth 20000 in
theorem ggX5_pick_X5_startTrial : GoodIn wsX5_pick wsX5_startTrial := goodIn_r _ [6, 1, 7, 8, 9, 10, 11, 12, 13, 14, 15, 16, 17, 18, 19, 20, 21, 22, 23, 24, 25, 26, 27, 28, 29, 30, 31, 32, 33, 34, 35, 36, 37, 38, 39, 40, 41, 42, 43, 44, 45, 46, 47, 48, 97, 98, 99, 100, 101, 102, 103, 104, 105, 106, 107, 108, 109, 110, 111, 112, 113, 114, 115, 116, 117, 118, 119, 120, 121, 122, 123, 124, 125] (by decide +kernel) (by decide +kernel)
set_option maxRecDepth 20000 in
theorem gX5_pick_X5_startTrial : GoodIn wsX5_pick (wsV RX5 40 RX5 yX5_startTrial wsX5_startTrial) := goodIn_app (goodIn_of _ (by decide +kernel)) ggX5_pick_X5_startTrial
set_option maxRecDepth 20000 in
theorem ggX5_pick_X4_pickUnits : GoodIn wsX5_pick wsX4_pickUnits := goodIn_r _ [52, 17, 22, 16, 20, 19, 23, 53, 54, 55, 11, 56, 24, 57, 5, 58, 59, 60, 61, 62, 63, 64, 65, 66, 67, 68, 69, 70, 14, 18, 29, 30, 31, 32, 71, 72, 73, 74, 13, 75, 76, 77, 78, 79, 80, 81, 82, 106, 107, 108, 109, 110, 111, 112, 113, 114, 115, 116, 117, 118, 119, 120, 121, 122, 123, 124, 125] (by decide +kernel) (by decide +kernel)
set_option maxRecDepth 20000 in
theorem gX5_pick_X4_pickUnits : GoodIn wsX5_pick (wsV RX5 73 RX4 yX4_pickUnits wsX4_pickUnits) := goodIn_app (goodIn_of _ (by decide +kernel)) ggX5_pick_X4_pickUnits
set_option maxRecDepth 20000 in
theorem ggX5_pick_X5_endTrial : GoodIn wsX5_pick wsX5_endTrial := goodIn_r _ [86, 87, 88, 89, 5, 90, 91, 92, 7, 1, 93, 94, 95, 96, 97, 98, 99, 100, 101, 102, 103, 104, 105] (by decide +kernel) (by decide +kernel)
set_option maxRecDepth 20000 in
theorem gX5_pick_X5_endTrial : GoodIn wsX5_pick (wsV RX5 47 RX5 yX5_endTrial wsX5_endTrial) := goodIn_app (goodIn_of _ (by decide +kernel)) ggX5_pick_X5_endTrial
theorem dX5_pick_0 : decode cX5_pick 0 = .ok (.aload_n 0, 1) := by decide +kernel
theorem dX5_pick_1 : decode cX5_pick 1 = .ok (.invokevirtual 40, 3) := by decide +kernel
theorem dX5_pick_4 : decode cX5_pick 4 = .ok (.aload_n 0, 1) := by decide +kernel
theorem dX5_pick_5 : decode cX5_pick 5 = .ok (.aload_n 0, 1) := by decide +kernel
theorem dX5_pick_6 : decode cX5_pick 6 = .ok (.getfield 37, 3) := by decide +kernel
theorem dX5_pick_9 : decode cX5_pick 9 = .ok (.iload_n 1, 1) := by decide +kernel
theorem dX5_pick_10 : decode cX5_pick 10 = .ok (.iload_n 2, 1) := by decide +kernel
theorem dX5_pick_11 : decode cX5_pick 11 = .ok (.invokevirtual 73, 3) := by decide +kernel
theorem dX5_pick_14 : decode cX5_pick 14 = .ok (.invokevirtual 47, 3) := by decide +kernel
theorem dX5_pick_17 : decode cX5_pick 17 = .ok (.ireturn, 1) := by decide +kernel
set_option maxRecDepth 20000 in
theorem ggX5_refill_X5_startTrial : GoodIn wsX5_refill wsX5_startTrial := goodIn_r _ [6, 1, 7, 8, 9, 10, 11, 12, 13, 14, 15, 16, 17, 18, 19, 20, 21, 22, 23, 24, 25, 26, 27, 28, 29, 30, 31, 32, 33, 34, 35, 36, 37, 38, 39, 40, 41, 42, 43, 44, 45, 46, 47, 48, 95, 96, 97, 98, 99, 100, 101, 102, 103, 104, 105, 106, 107, 108, 109, 110, 111, 112, 113, 114, 115, 116, 117, 118, 119, 120, 121, 122, 123] (by decide +kernel) (by decide +kernel)
set_option maxRecDepth 20000 in
theorem gX5_refill_X5_startTrial : GoodIn wsX5_refill (wsV RX5 40 RX5 yX5_startTrial wsX5_startTrial) := goodIn_app (goodIn_of _ (by decide +kernel)) ggX5_refill_X5_startTrial
set_option maxRecDepth 20000 in
theorem ggX5_refill_X4_refillSlot : GoodIn wsX5_refill wsX4_refillSlot := goodIn_r _ [52, 53, 54, 55, 11, 56, 24, 57, 58, 59, 60, 16, 61, 62, 63, 64, 65, 66, 67, 68, 14, 17, 18, 29, 30, 31, 32, 69, 70, 71, 72, 13, 22, 23, 73, 74, 75, 76, 77, 78, 79, 80, 104, 105, 106, 107, 108, 109, 110, 111, 112, 113, 114, 115, 116, 117, 118, 119, 120, 121, 122, 123] (by decide +kernel) (by decide +kernel)
set_option maxRecDepth 20000 in
theorem gX5_refill_X4_refillSlot : GoodIn wsX5_refill (wsV RX5 76 RX4 yX4_refillSlot wsX4_refillSlot) := goodIn_app (goodIn_of _ (by decide +kernel)) ggX5_refill_X4_refillSlot
set_option maxRecDepth 20000 in
theorem ggX5_refill_X5_endTrial : GoodIn wsX5_refill wsX5_endTrial := goodIn_r _ [84, 85, 86, 87, 5, 88, 89, 90, 7, 1, 91, 92, 93, 94, 95, 96, 97, 98, 99, 100, 101, 102, 103] (by decide +kernel) (by decide +kernel)
set_option maxRecDepth 20000 in
theorem gX5_refill_X5_endTrial : GoodIn wsX5_refill (wsV RX5 47 RX5 yX5_endTrial wsX5_endTrial) := goodIn_app (goodIn_of _ (by decide +kernel)) ggX5_refill_X5_endTrial
theorem dX5_refill_0 : decode cX5_refill 0 = .ok (.aload_n 0, 1) := by decide +kernel
theorem dX5_refill_1 : decode cX5_refill 1 = .ok (.invokevirtual 40, 3) := by decide +kernel
theorem dX5_refill_4 : decode cX5_refill 4 = .ok (.aload_n 0, 1) := by decide +kernel
theorem dX5_refill_5 : decode cX5_refill 5 = .ok (.aload_n 0, 1) := by decide +kernel
theorem dX5_refill_6 : decode cX5_refill 6 = .ok (.getfield 37, 3) := by decide +kernel
theorem dX5_refill_9 : decode cX5_refill 9 = .ok (.iload_n 1, 1) := by decide +kernel
theorem dX5_refill_10 : decode cX5_refill 10 = .ok (.invokevirtual 76, 3) := by decide +kernel
theorem dX5_refill_13 : decode cX5_refill 13 = .ok (.invokevirtual 47, 3) := by decide +kernel
theorem dX5_refill_16 : decode cX5_refill 16 = .ok (.ireturn, 1) := by decide +kernel
set_option maxRecDepth 20000 in
theorem ggX5_endWeek_X5_startTrial : GoodIn wsX5_endWeek wsX5_startTrial := goodIn_r _ [6, 1, 7, 8, 9, 10, 11, 12, 13, 14, 15, 16, 17, 18, 19, 20, 21, 22, 23, 24, 25, 26, 27, 28, 29, 30, 31, 32, 33, 34, 35, 36, 37, 38, 39, 40, 41, 42, 43, 44, 45, 46, 47, 48, 75, 76, 77, 78, 79, 80, 81, 82, 83, 84, 85, 86, 87, 88, 89, 90, 91, 92, 93, 94, 95, 96, 97, 98, 99, 100, 101, 102, 103] (by decide +kernel) (by decide +kernel)
set_option maxRecDepth 20000 in
theorem gX5_endWeek_X5_startTrial : GoodIn wsX5_endWeek (wsV RX5 40 RX5 yX5_startTrial wsX5_startTrial) := goodIn_app (goodIn_of _ (by decide +kernel)) ggX5_endWeek_X5_startTrial
set_option maxRecDepth 20000 in
theorem ggX5_endWeek_X4_finishWeek : GoodIn wsX5_endWeek wsX4_finishWeek := goodIn_r _ [52, 25, 24, 19, 15, 29, 30, 31, 32, 53, 54, 55, 11, 56, 57, 58, 59, 60, 84, 85, 86, 87, 88, 89, 90, 91, 92, 93, 94, 95, 96] (by decide +kernel) (by decide +kernel)
set_option maxRecDepth 20000 in
theorem gX5_endWeek_X4_finishWeek : GoodIn wsX5_endWeek (wsV RX5 79 RX4 yX4_finishWeek wsX4_finishWeek) := goodIn_app (goodIn_of _ (by decide +kernel)) ggX5_endWeek_X4_finishWeek
set_option maxRecDepth 20000 in
theorem ggX5_endWeek_X5_endTrial : GoodIn wsX5_endWeek wsX5_endTrial := goodIn_r _ [64, 65, 66, 67, 5, 68, 69, 70, 7, 1, 71, 72, 73, 74, 75, 76, 77, 78, 79, 80, 81, 82, 83] (by decide +kernel) (by decide +kernel)
set_option maxRecDepth 20000 in
theorem gX5_endWeek_X5_endTrial : GoodIn wsX5_endWeek (wsV RX5 47 RX5 yX5_endTrial wsX5_endTrial) := goodIn_app (goodIn_of _ (by decide +kernel)) ggX5_endWeek_X5_endTrial
theorem dX5_endWeek_0 : decode cX5_endWeek 0 = .ok (.aload_n 0, 1) := by decide +kernel
theorem dX5_endWeek_1 : decode cX5_endWeek 1 = .ok (.invokevirtual 40, 3) := by decide +kernel
theorem dX5_endWeek_4 : decode cX5_endWeek 4 = .ok (.aload_n 0, 1) := by decide +kernel
theorem dX5_endWeek_5 : decode cX5_endWeek 5 = .ok (.aload_n 0, 1) := by decide +kernel
theorem dX5_endWeek_6 : decode cX5_endWeek 6 = .ok (.getfield 37, 3) := by decide +kernel
theorem dX5_endWeek_9 : decode cX5_endWeek 9 = .ok (.invokevirtual 79, 3) := by decide +kernel
theorem dX5_endWeek_12 : decode cX5_endWeek 12 = .ok (.invokevirtual 47, 3) := by decide +kernel
theorem dX5_endWeek_15 : decode cX5_endWeek 15 = .ok (.ireturn, 1) := by decide +kernel
set_option maxRecDepth 20000 in
theorem ggX5_move_X5_startTrial : GoodIn wsX5_move wsX5_startTrial := goodIn_r _ [6, 1, 7, 8, 9, 10, 11, 12, 13, 14, 15, 16, 17, 18, 19, 20, 21, 22, 23, 24, 25, 26, 27, 28, 29, 30, 31, 32, 33, 34, 35, 36, 37, 38, 39, 40, 41, 42, 43, 44, 45, 46, 47, 48, 122, 123, 124, 125, 126, 127, 128, 129, 130, 131, 132, 133, 134, 135, 136, 137, 138, 139, 140, 141, 142, 143, 144, 145, 146, 147, 148, 149, 150] (by decide +kernel) (by decide +kernel)
set_option maxRecDepth 20000 in
theorem gX5_move_X5_startTrial : GoodIn wsX5_move (wsV RX5 40 RX5 yX5_startTrial wsX5_startTrial) := goodIn_app (goodIn_of _ (by decide +kernel)) ggX5_move_X5_startTrial
set_option maxRecDepth 20000 in
theorem ggX5_move_X4_moveGood : GoodIn wsX5_move wsX4_moveGood := goodIn_r _ [52, 21, 53, 54, 55, 56, 11, 57, 24, 58, 59, 60, 61, 62, 63, 64, 65, 16, 66, 67, 68, 69, 13, 70, 71, 72, 73, 74, 75, 76, 77, 23, 78, 79, 80, 81, 82, 83, 84, 85, 25, 86, 87, 88, 89, 15, 90, 91, 92, 93, 94, 95, 96, 97, 98, 99, 100, 101, 102, 31, 103, 104, 105, 106, 107, 131, 132, 133, 134, 135, 136, 137, 138, 139, 140, 141, 142, 143, 144, 145, 146, 147, 148, 149, 150] (by decide +kernel) (by decide +kernel)
set_option maxRecDepth 20000 in
theorem gX5_move_X4_moveGood : GoodIn wsX5_move (wsV RX5 83 RX4 yX4_moveGood wsX4_moveGood) := goodIn_app (goodIn_of _ (by decide +kernel)) ggX5_move_X4_moveGood
set_option maxRecDepth 20000 in
theorem ggX5_move_X5_endTrial : GoodIn wsX5_move wsX5_endTrial := goodIn_r _ [111, 112, 113, 114, 5, 115, 116, 117, 7, 1, 118, 119, 120, 121, 122, 123, 124, 125, 126, 127, 128, 129, 130] (by decide +kernel) (by decide +kernel)
set_option maxRecDepth 20000 in
theorem gX5_move_X5_endTrial : GoodIn wsX5_move (wsV RX5 47 RX5 yX5_endTrial wsX5_endTrial) := goodIn_app (goodIn_of _ (by decide +kernel)) ggX5_move_X5_endTrial
theorem dX5_move_0 : decode cX5_move 0 = .ok (.aload_n 0, 1) := by decide +kernel
theorem dX5_move_1 : decode cX5_move 1 = .ok (.invokevirtual 40, 3) := by decide +kernel
theorem dX5_move_4 : decode cX5_move 4 = .ok (.aload_n 0, 1) := by decide +kernel
theorem dX5_move_5 : decode cX5_move 5 = .ok (.aload_n 0, 1) := by decide +kernel
theorem dX5_move_6 : decode cX5_move 6 = .ok (.getfield 37, 3) := by decide +kernel
theorem dX5_move_9 : decode cX5_move 9 = .ok (.iload_n 1, 1) := by decide +kernel
theorem dX5_move_10 : decode cX5_move 10 = .ok (.iload_n 2, 1) := by decide +kernel
theorem dX5_move_11 : decode cX5_move 11 = .ok (.invokevirtual 83, 3) := by decide +kernel
theorem dX5_move_14 : decode cX5_move 14 = .ok (.invokevirtual 47, 3) := by decide +kernel
theorem dX5_move_17 : decode cX5_move 17 = .ok (.ireturn, 1) := by decide +kernel
set_option maxRecDepth 20000 in
theorem ggX5_exchange_X5_startTrial : GoodIn wsX5_exchange wsX5_startTrial := goodIn_r _ [6, 1, 7, 8, 9, 10, 11, 12, 13, 14, 15, 16, 17, 18, 19, 20, 21, 22, 23, 24, 25, 26, 27, 28, 29, 30, 31, 32, 33, 34, 35, 36, 37, 38, 39, 40, 41, 42, 43, 44, 45, 46, 47, 48, 126, 127, 128, 129, 130, 131, 132, 133, 134, 135, 136, 137, 138, 139, 140, 141, 142, 143, 144, 145, 146, 147, 148, 149, 150, 151, 152, 153, 154] (by decide +kernel) (by decide +kernel)
set_option maxRecDepth 20000 in
theorem gX5_exchange_X5_startTrial : GoodIn wsX5_exchange (wsV RX5 40 RX5 yX5_startTrial wsX5_startTrial) := goodIn_app (goodIn_of _ (by decide +kernel)) ggX5_exchange_X5_startTrial
set_option maxRecDepth 20000 in
theorem ggX5_exchange_X4_exchangeGoods : GoodIn wsX5_exchange wsX4_exchangeGoods := goodIn_r _ [52, 16, 53, 54, 55, 56, 11, 57, 24, 58, 59, 60, 61, 62, 63, 64, 65, 66, 67, 68, 69, 21, 70, 71, 72, 73, 13, 74, 75, 76, 77, 78, 79, 80, 81, 23, 82, 83, 84, 85, 86, 87, 88, 89, 25, 90, 91, 92, 93, 15, 94, 95, 96, 97, 98, 99, 100, 101, 102, 103, 104, 105, 106, 31, 107, 108, 109, 110, 111, 135, 136, 137, 138, 139, 140, 141, 142, 143, 144, 145, 146, 147, 148, 149, 150, 151, 152, 153, 154] (by decide +kernel) (by decide +kernel)
set_option maxRecDepth 20000 in
theorem gX5_exchange_X4_exchangeGoods : GoodIn wsX5_exchange (wsV RX5 86 RX4 yX4_exchangeGoods wsX4_exchangeGoods) := goodIn_app (goodIn_of _ (by decide +kernel)) ggX5_exchange_X4_exchangeGoods
set_option maxRecDepth 20000 in
theorem ggX5_exchange_X5_endTrial : GoodIn wsX5_exchange wsX5_endTrial := goodIn_r _ [115, 116, 117, 118, 5, 119, 120, 121, 7, 1, 122, 123, 124, 125, 126, 127, 128, 129, 130, 131, 132, 133, 134] (by decide +kernel) (by decide +kernel)
set_option maxRecDepth 20000 in
theorem gX5_exchange_X5_endTrial : GoodIn wsX5_exchange (wsV RX5 47 RX5 yX5_endTrial wsX5_endTrial) := goodIn_app (goodIn_of _ (by decide +kernel)) ggX5_exchange_X5_endTrial
theorem dX5_exchange_0 : decode cX5_exchange 0 = .ok (.aload_n 0, 1) := by decide +kernel
theorem dX5_exchange_1 : decode cX5_exchange 1 = .ok (.invokevirtual 40, 3) := by decide +kernel
theorem dX5_exchange_4 : decode cX5_exchange 4 = .ok (.aload_n 0, 1) := by decide +kernel
theorem dX5_exchange_5 : decode cX5_exchange 5 = .ok (.aload_n 0, 1) := by decide +kernel
theorem dX5_exchange_6 : decode cX5_exchange 6 = .ok (.getfield 37, 3) := by decide +kernel
theorem dX5_exchange_9 : decode cX5_exchange 9 = .ok (.iload_n 1, 1) := by decide +kernel
theorem dX5_exchange_10 : decode cX5_exchange 10 = .ok (.iload_n 2, 1) := by decide +kernel
theorem dX5_exchange_11 : decode cX5_exchange 11 = .ok (.invokevirtual 86, 3) := by decide +kernel
theorem dX5_exchange_14 : decode cX5_exchange 14 = .ok (.invokevirtual 47, 3) := by decide +kernel
theorem dX5_exchange_17 : decode cX5_exchange 17 = .ok (.ireturn, 1) := by decide +kernel
set_option maxRecDepth 20000 in
theorem ggX5_worth_X4_numberOfChange : GoodIn wsX5_worth wsX4_numberOfChange := goodIn_r _ [6, 7, 8, 9, 10, 5, 11, 12, 13, 14, 15, 16, 17, 18, 19, 20, 21, 22, 23, 24, 25, 26, 27, 28, 29, 30, 31, 32, 33, 34, 35, 36, 37, 38, 39, 40, 41, 42, 43, 44, 45, 46, 47, 48, 49, 50, 51, 52, 53, 54, 55, 56, 57, 58, 59, 60, 61, 62, 63, 64, 65, 66, 67, 68, 69, 70, 71, 81, 82, 83, 84, 85, 86, 87, 88, 89, 90, 91, 92, 93] (by decide +kernel) (by decide +kernel)
set_option maxRecDepth 20000 in
theorem gX5_worth_X4_numberOfChange : GoodIn wsX5_worth (wsV RX5 89 RX4 yX4_numberOfChange wsX4_numberOfChange) := goodIn_app (goodIn_of _ (by decide +kernel)) ggX5_worth_X4_numberOfChange
theorem dX5_worth_0 : decode cX5_worth 0 = .ok (.aload_n 0, 1) := by decide +kernel
theorem dX5_worth_1 : decode cX5_worth 1 = .ok (.getfield 33, 3) := by decide +kernel
theorem dX5_worth_4 : decode cX5_worth 4 = .ok (.iload_n 1, 1) := by decide +kernel
theorem dX5_worth_5 : decode cX5_worth 5 = .ok (.iload_n 2, 1) := by decide +kernel
theorem dX5_worth_6 : decode cX5_worth 6 = .ok (.iload_n 3, 1) := by decide +kernel
theorem dX5_worth_7 : decode cX5_worth 7 = .ok (.invokevirtual 89, 3) := by decide +kernel
theorem dX5_worth_10 : decode cX5_worth 10 = .ok (.ireturn, 1) := by decide +kernel
set_option maxRecDepth 20000 in
theorem ggX5_best_X4_numberOfBest : GoodIn wsX5_best wsX4_numberOfBest := goodIn_r _ [6, 7, 8, 9, 10, 11, 12, 5, 13, 14, 15, 16, 17, 18, 19, 20, 21, 22, 23, 24, 25, 26, 27, 28, 29, 30, 31, 32, 33, 34, 35, 36, 37, 38, 39, 40, 41, 42, 43, 44, 45, 46, 47, 48, 49, 50, 51, 52, 53, 54, 55, 56, 57, 58, 59, 60, 61, 62, 63, 64, 65, 66, 67, 68, 69, 70, 71, 72, 73, 74, 84, 85, 86, 87, 88, 89, 90, 91, 92, 93, 94, 95, 96] (by decide +kernel) (by decide +kernel)
set_option maxRecDepth 20000 in
theorem gX5_best_X4_numberOfBest : GoodIn wsX5_best (wsV RX5 92 RX4 yX4_numberOfBest wsX4_numberOfBest) := goodIn_app (goodIn_of _ (by decide +kernel)) ggX5_best_X4_numberOfBest
theorem dX5_best_0 : decode cX5_best 0 = .ok (.aload_n 0, 1) := by decide +kernel
theorem dX5_best_1 : decode cX5_best 1 = .ok (.getfield 33, 3) := by decide +kernel
theorem dX5_best_4 : decode cX5_best 4 = .ok (.iload_n 1, 1) := by decide +kernel
theorem dX5_best_5 : decode cX5_best 5 = .ok (.invokevirtual 92, 3) := by decide +kernel
theorem dX5_best_8 : decode cX5_best 8 = .ok (.ireturn, 1) := by decide +kernel
set_option maxRecDepth 20000 in
theorem ggX5_improve_X5_startTrial : GoodIn wsX5_improve wsX5_startTrial := goodIn_r _ [6, 1, 7, 8, 9, 10, 11, 12, 13, 14, 15, 16, 17, 18, 19, 20, 21, 22, 23, 24, 25, 26, 27, 28, 29, 30, 31, 32, 33, 34, 35, 36, 37, 38, 39, 40, 41, 42, 43, 44, 45, 46, 47, 48, 135, 136, 137, 138, 139, 140, 141, 142, 143, 144, 145, 146, 147, 148, 149, 150, 151, 152, 153, 154, 155, 156, 157, 158, 159, 160, 161, 162, 163] (by decide +kernel) (by decide +kernel)
set_option maxRecDepth 20000 in
theorem gX5_improve_X5_startTrial : GoodIn wsX5_improve (wsV RX5 40 RX5 yX5_startTrial wsX5_startTrial) := goodIn_app (goodIn_of _ (by decide +kernel)) ggX5_improve_X5_startTrial
set_option maxRecDepth 20000 in
theorem ggX5_improve_X4_doBest : GoodIn wsX5_improve wsX4_doBest := goodIn_r _ [52, 53, 5, 54, 55, 56, 57, 11, 58, 24, 59, 60, 61, 62, 16, 21, 63, 64, 65, 66, 67, 68, 69, 70, 13, 71, 72, 73, 74, 75, 76, 77, 78, 79, 80, 81, 82, 83, 84, 85, 86, 87, 88, 89, 90, 25, 91, 92, 93, 94, 15, 95, 96, 97, 98, 99, 100, 101, 102, 103, 104, 105, 106, 107, 108, 109, 110, 111, 31, 112, 113, 114, 115, 116, 23, 117, 118, 119, 120, 144, 145, 146, 147, 148, 149, 150, 151, 152, 153, 154, 155, 156, 157, 158, 159, 160, 161, 162, 163] (by decide +kernel) (by decide +kernel)
set_option maxRecDepth 20000 in
theorem gX5_improve_X4_doBest : GoodIn wsX5_improve (wsV RX5 95 RX4 yX4_doBest wsX4_doBest) := goodIn_app (goodIn_of _ (by decide +kernel)) ggX5_improve_X4_doBest
set_option maxRecDepth 20000 in
theorem ggX5_improve_X5_endTrial : GoodIn wsX5_improve wsX5_endTrial := goodIn_r _ [124, 125, 126, 127, 5, 128, 129, 130, 7, 1, 131, 132, 133, 134, 135, 136, 137, 138, 139, 140, 141, 142, 143] (by decide +kernel) (by decide +kernel)
set_option maxRecDepth 20000 in
theorem gX5_improve_X5_endTrial : GoodIn wsX5_improve (wsV RX5 47 RX5 yX5_endTrial wsX5_endTrial) := goodIn_app (goodIn_of _ (by decide +kernel)) ggX5_improve_X5_endTrial
theorem dX5_improve_0 : decode cX5_improve 0 = .ok (.aload_n 0, 1) := by decide +kernel
theorem dX5_improve_1 : decode cX5_improve 1 = .ok (.invokevirtual 40, 3) := by decide +kernel
theorem dX5_improve_4 : decode cX5_improve 4 = .ok (.aload_n 0, 1) := by decide +kernel
theorem dX5_improve_5 : decode cX5_improve 5 = .ok (.aload_n 0, 1) := by decide +kernel
theorem dX5_improve_6 : decode cX5_improve 6 = .ok (.getfield 37, 3) := by decide +kernel
theorem dX5_improve_9 : decode cX5_improve 9 = .ok (.iload_n 1, 1) := by decide +kernel
theorem dX5_improve_10 : decode cX5_improve 10 = .ok (.invokevirtual 95, 3) := by decide +kernel
theorem dX5_improve_13 : decode cX5_improve 13 = .ok (.invokevirtual 47, 3) := by decide +kernel
theorem dX5_improve_16 : decode cX5_improve 16 = .ok (.ireturn, 1) := by decide +kernel
set_option maxRecDepth 20000 in
theorem ggX5_weekly_X5_isSeason : GoodIn wsX5_weekly wsX5_isSeason := goodIn_r _ [5] (by decide +kernel) (by decide +kernel)
set_option maxRecDepth 20000 in
theorem gX5_weekly_X5_isSeason : GoodIn wsX5_weekly (va_wsS RX5 98 yX5_isSeason wsX5_isSeason) := goodIn_app (goodIn_of _ (by decide +kernel)) ggX5_weekly_X5_isSeason
set_option maxRecDepth 20000 in
theorem ggX5_weekly_X4_weeklyWalk : GoodIn wsX5_weekly wsX4_weeklyWalk := goodIn_r _ [10, 11, 12, 13, 14, 15, 9, 16, 17, 18, 19, 20, 21, 22, 23, 24, 25, 26, 27, 28, 29, 39, 40, 41, 42, 43, 44, 45, 46, 47, 48, 49, 50, 51] (by decide +kernel) (by decide +kernel)
set_option maxRecDepth 20000 in
theorem gX5_weekly_X4_weeklyWalk : GoodIn wsX5_weekly (wsV RX5 102 RX4 yX4_weeklyWalk wsX4_weeklyWalk) := goodIn_app (goodIn_of _ (by decide +kernel)) ggX5_weekly_X4_weeklyWalk
theorem dX5_weekly_0 : decode cX5_weekly 0 = .ok (.iload_n 1, 1) := by decide +kernel
theorem dX5_weekly_1 : decode cX5_weekly 1 = .ok (.invokestatic 98, 3) := by decide +kernel
theorem dX5_weekly_4 : decode cX5_weekly 4 = .ok (.ifCond .eq 14, 3) := by decide +kernel
theorem dX5_weekly_7 : decode cX5_weekly 7 = .ok (.aload_n 0, 1) := by decide +kernel
theorem dX5_weekly_8 : decode cX5_weekly 8 = .ok (.getfield 33, 3) := by decide +kernel
theorem dX5_weekly_11 : decode cX5_weekly 11 = .ok (.iload_n 1, 1) := by decide +kernel
theorem dX5_weekly_12 : decode cX5_weekly 12 = .ok (.invokevirtual 102, 3) := by decide +kernel
theorem dX5_weekly_15 : decode cX5_weekly 15 = .ok (.goto 4, 3) := by decide +kernel
theorem dX5_weekly_18 : decode cX5_weekly 18 = .ok (.iconst (-1), 1) := by decide +kernel
theorem dX5_weekly_19 : decode cX5_weekly 19 = .ok (.ireturn, 1) := by decide +kernel
set_option maxRecDepth 20000 in
theorem ggX5_atBest_X5_isSeason : GoodIn wsX5_atBest wsX5_isSeason := goodIn_r _ [7] (by decide +kernel) (by decide +kernel)
set_option maxRecDepth 20000 in
theorem gX5_atBest_X5_isSeason : GoodIn wsX5_atBest (va_wsS RX5 98 yX5_isSeason wsX5_isSeason) := goodIn_app (goodIn_of _ (by decide +kernel)) ggX5_atBest_X5_isSeason
set_option maxRecDepth 20000 in
theorem ggX5_atBest_X4_shortestWalk : GoodIn wsX5_atBest wsX4_shortestWalk := goodIn_r _ [12, 13, 14, 15, 16, 17, 11, 18, 19, 20, 21, 22, 23, 24, 25, 26, 27, 28, 29, 30, 31, 32, 33, 34, 35, 36, 37, 38, 39, 40, 41, 42, 52, 53, 54, 55, 56, 57, 58, 59, 60, 61, 62, 63, 64, 65, 66] (by decide +kernel) (by decide +kernel)
set_option maxRecDepth 20000 in
theorem gX5_atBest_X4_shortestWalk : GoodIn wsX5_atBest (wsV RX5 105 RX4 yX4_shortestWalk wsX4_shortestWalk) := goodIn_app (goodIn_of _ (by decide +kernel)) ggX5_atBest_X4_shortestWalk
theorem dX5_atBest_0 : decode cX5_atBest 0 = .ok (.iload_n 1, 1) := by decide +kernel
theorem dX5_atBest_1 : decode cX5_atBest 1 = .ok (.invokestatic 98, 3) := by decide +kernel
theorem dX5_atBest_4 : decode cX5_atBest 4 = .ok (.ifCond .eq 22, 3) := by decide +kernel
theorem dX5_atBest_7 : decode cX5_atBest 7 = .ok (.aload_n 0, 1) := by decide +kernel
theorem dX5_atBest_8 : decode cX5_atBest 8 = .ok (.getfield 33, 3) := by decide +kernel
theorem dX5_atBest_11 : decode cX5_atBest 11 = .ok (.iload_n 1, 1) := by decide +kernel
theorem dX5_atBest_12 : decode cX5_atBest 12 = .ok (.aload_n 0, 1) := by decide +kernel
theorem dX5_atBest_13 : decode cX5_atBest 13 = .ok (.getfield 25, 3) := by decide +kernel
theorem dX5_atBest_16 : decode cX5_atBest 16 = .ok (.aload_n 0, 1) := by decide +kernel
theorem dX5_atBest_17 : decode cX5_atBest 17 = .ok (.getfield 29, 3) := by decide +kernel
theorem dX5_atBest_20 : decode cX5_atBest 20 = .ok (.invokevirtual 105, 3) := by decide +kernel
theorem dX5_atBest_23 : decode cX5_atBest 23 = .ok (.goto 4, 3) := by decide +kernel
theorem dX5_atBest_26 : decode cX5_atBest 26 = .ok (.iconst (-1), 1) := by decide +kernel
theorem dX5_atBest_27 : decode cX5_atBest 27 = .ok (.ireturn, 1) := by decide +kernel
set_option maxRecDepth 20000 in
theorem ggX5_account_X4_numberOfAccount : GoodIn wsX5_account wsX4_numberOfAccount := goodIn_r _ [6, 7, 8, 9, 10, 11, 5, 12, 13, 14, 15, 16, 17, 18, 19, 20, 21, 22, 23, 24, 25, 26, 27, 28, 29, 30, 31, 32, 33, 34, 35, 36, 46, 47, 48, 49, 50, 51, 52, 53, 54, 55, 56, 57, 58, 59, 60, 61, 62, 63, 64, 65] (by decide +kernel) (by decide +kernel)
set_option maxRecDepth 20000 in
theorem gX5_account_X4_numberOfAccount : GoodIn wsX5_account (wsV RX5 109 RX4 yX4_numberOfAccount wsX4_numberOfAccount) := goodIn_app (goodIn_of _ (by decide +kernel)) ggX5_account_X4_numberOfAccount
theorem dX5_account_0 : decode cX5_account 0 = .ok (.aload_n 0, 1) := by decide +kernel
theorem dX5_account_1 : decode cX5_account 1 = .ok (.getfield 33, 3) := by decide +kernel
theorem dX5_account_4 : decode cX5_account 4 = .ok (.iload_n 1, 1) := by decide +kernel
theorem dX5_account_5 : decode cX5_account 5 = .ok (.invokevirtual 109, 3) := by decide +kernel
theorem dX5_account_8 : decode cX5_account 8 = .ok (.ireturn, 1) := by decide +kernel
set_option maxRecDepth 20000 in
theorem ggX5_count_X4_numberOfWarehouse : GoodIn wsX5_count wsX4_numberOfWarehouse := goodIn_r _ [8, 9, 10, 11, 12, 13, 14, 15, 16, 7, 17, 18, 19, 20, 21, 22, 23, 24, 25, 26, 27, 28, 29, 30, 31, 32, 33, 34, 35, 36, 37, 38, 54, 55, 56, 57, 58, 59, 60, 61, 62, 63, 64, 65, 66] (by decide +kernel) (by decide +kernel)
set_option maxRecDepth 20000 in
theorem gX5_count_X4_numberOfWarehouse : GoodIn wsX5_count (wsV RX5 119 RX4 yX4_numberOfWarehouse wsX4_numberOfWarehouse) := goodIn_app (goodIn_of _ (by decide +kernel)) ggX5_count_X4_numberOfWarehouse
theorem dX5_count_0 : decode cX5_count 0 = .ok (.iload_n 1, 1) := by decide +kernel
theorem dX5_count_1 : decode cX5_count 1 = .ok (.bipush 8, 2) := by decide +kernel
theorem dX5_count_3 : decode cX5_count 3 = .ok (.if_icmp .ne 8, 3) := by decide +kernel
theorem dX5_count_6 : decode cX5_count 6 = .ok (.aload_n 0, 1) := by decide +kernel
theorem dX5_count_7 : decode cX5_count 7 = .ok (.getfield 112, 3) := by decide +kernel
theorem dX5_count_10 : decode cX5_count 10 = .ok (.ireturn, 1) := by decide +kernel
theorem dX5_count_11 : decode cX5_count 11 = .ok (.iload_n 1, 1) := by decide +kernel
theorem dX5_count_12 : decode cX5_count 12 = .ok (.bipush 9, 2) := by decide +kernel
theorem dX5_count_14 : decode cX5_count 14 = .ok (.if_icmp .ne 11, 3) := by decide +kernel
theorem dX5_count_17 : decode cX5_count 17 = .ok (.aload_n 0, 1) := by decide +kernel
theorem dX5_count_18 : decode cX5_count 18 = .ok (.getfield 18, 3) := by decide +kernel
theorem dX5_count_21 : decode cX5_count 21 = .ok (.getfield 116, 3) := by decide +kernel
theorem dX5_count_24 : decode cX5_count 24 = .ok (.ireturn, 1) := by decide +kernel
theorem dX5_count_25 : decode cX5_count 25 = .ok (.aload_n 0, 1) := by decide +kernel
theorem dX5_count_26 : decode cX5_count 26 = .ok (.getfield 33, 3) := by decide +kernel
theorem dX5_count_29 : decode cX5_count 29 = .ok (.iload_n 1, 1) := by decide +kernel
theorem dX5_count_30 : decode cX5_count 30 = .ok (.invokevirtual 119, 3) := by decide +kernel
theorem dX5_count_33 : decode cX5_count 33 = .ok (.ireturn, 1) := by decide +kernel
set_option maxRecDepth 20000 in
theorem ggX5_set_X5_startTrial : GoodIn wsX5_set wsX5_startTrial := goodIn_r _ [6, 1, 7, 8, 9, 10, 11, 12, 13, 14, 15, 16, 17, 18, 19, 20, 21, 22, 23, 24, 25, 26, 27, 28, 29, 30, 31, 32, 33, 34, 35, 36, 37, 38, 39, 40, 41, 42, 43, 44, 45, 46, 47, 48, 71, 72, 73, 74, 75, 76, 77, 78, 79, 80, 81, 82, 83, 84, 85, 86, 87, 88, 89, 90, 91, 92, 93, 94, 95, 96, 97, 98, 99] (by decide +kernel) (by decide +kernel)
set_option maxRecDepth 20000 in
theorem gX5_set_X5_startTrial : GoodIn wsX5_set (wsV RX5 40 RX5 yX5_startTrial wsX5_startTrial) := goodIn_app (goodIn_of _ (by decide +kernel)) ggX5_set_X5_startTrial
set_option maxRecDepth 20000 in
theorem ggX5_set_X4_changeSetting : GoodIn wsX5_set wsX4_changeSetting := goodIn_r _ [52, 53, 54, 22, 55, 5, 56, 80, 81, 82, 83, 84, 85, 86, 87, 88, 89, 90, 91, 92] (by decide +kernel) (by decide +kernel)
set_option maxRecDepth 20000 in
theorem gX5_set_X4_changeSetting : GoodIn wsX5_set (wsV RX5 122 RX4 yX4_changeSetting wsX4_changeSetting) := goodIn_app (goodIn_of _ (by decide +kernel)) ggX5_set_X4_changeSetting
set_option maxRecDepth 20000 in
theorem ggX5_set_X5_endTrial : GoodIn wsX5_set wsX5_endTrial := goodIn_r _ [60, 61, 62, 63, 5, 64, 65, 66, 7, 1, 67, 68, 69, 70, 71, 72, 73, 74, 75, 76, 77, 78, 79] (by decide +kernel) (by decide +kernel)
set_option maxRecDepth 20000 in
theorem gX5_set_X5_endTrial : GoodIn wsX5_set (wsV RX5 47 RX5 yX5_endTrial wsX5_endTrial) := goodIn_app (goodIn_of _ (by decide +kernel)) ggX5_set_X5_endTrial
theorem dX5_set_0 : decode cX5_set 0 = .ok (.aload_n 0, 1) := by decide +kernel
theorem dX5_set_1 : decode cX5_set 1 = .ok (.invokevirtual 40, 3) := by decide +kernel
theorem dX5_set_4 : decode cX5_set 4 = .ok (.aload_n 0, 1) := by decide +kernel
theorem dX5_set_5 : decode cX5_set 5 = .ok (.aload_n 0, 1) := by decide +kernel
theorem dX5_set_6 : decode cX5_set 6 = .ok (.getfield 37, 3) := by decide +kernel
theorem dX5_set_9 : decode cX5_set 9 = .ok (.iload_n 1, 1) := by decide +kernel
theorem dX5_set_10 : decode cX5_set 10 = .ok (.iload_n 2, 1) := by decide +kernel
theorem dX5_set_11 : decode cX5_set 11 = .ok (.invokevirtual 122, 3) := by decide +kernel
theorem dX5_set_14 : decode cX5_set 14 = .ok (.invokevirtual 47, 3) := by decide +kernel
theorem dX5_set_17 : decode cX5_set 17 = .ok (.ireturn, 1) := by decide +kernel
theorem dX5_undo_0 : decode cX5_undo 0 = .ok (.aload_n 0, 1) := by decide +kernel
theorem dX5_undo_1 : decode cX5_undo 1 = .ok (.getfield 112, 3) := by decide +kernel
theorem dX5_undo_4 : decode cX5_undo 4 = .ok (.iconst 1, 1) := by decide +kernel
theorem dX5_undo_5 : decode cX5_undo 5 = .ok (.if_icmp .ge 6, 3) := by decide +kernel
theorem dX5_undo_8 : decode cX5_undo 8 = .ok (.bipush (-2), 2) := by decide +kernel
theorem dX5_undo_10 : decode cX5_undo 10 = .ok (.ireturn, 1) := by decide +kernel
theorem dX5_undo_11 : decode cX5_undo 11 = .ok (.aload_n 0, 1) := by decide +kernel
theorem dX5_undo_12 : decode cX5_undo 12 = .ok (.dup, 1) := by decide +kernel
theorem dX5_undo_13 : decode cX5_undo 13 = .ok (.getfield 112, 3) := by decide +kernel
theorem dX5_undo_16 : decode cX5_undo 16 = .ok (.iconst 1, 1) := by decide +kernel
theorem dX5_undo_17 : decode cX5_undo 17 = .ok (.isub, 1) := by decide +kernel
theorem dX5_undo_18 : decode cX5_undo 18 = .ok (.putfield 112, 3) := by decide +kernel
theorem dX5_undo_21 : decode cX5_undo 21 = .ok (.aload_n 0, 1) := by decide +kernel
theorem dX5_undo_22 : decode cX5_undo 22 = .ok (.getfield 33, 3) := by decide +kernel
theorem dX5_undo_25 : decode cX5_undo 25 = .ok (.astore_n 1, 1) := by decide +kernel
theorem dX5_undo_26 : decode cX5_undo 26 = .ok (.aload_n 0, 1) := by decide +kernel
theorem dX5_undo_27 : decode cX5_undo 27 = .ok (.aload_n 0, 1) := by decide +kernel
theorem dX5_undo_28 : decode cX5_undo 28 = .ok (.getfield 11, 3) := by decide +kernel
theorem dX5_undo_31 : decode cX5_undo 31 = .ok (.aload_n 0, 1) := by decide +kernel
theorem dX5_undo_32 : decode cX5_undo 32 = .ok (.getfield 112, 3) := by decide +kernel
theorem dX5_undo_35 : decode cX5_undo 35 = .ok (.aaload, 1) := by decide +kernel
theorem dX5_undo_36 : decode cX5_undo 36 = .ok (.putfield 33, 3) := by decide +kernel
theorem dX5_undo_39 : decode cX5_undo 39 = .ok (.aload_n 0, 1) := by decide +kernel
theorem dX5_undo_40 : decode cX5_undo 40 = .ok (.getfield 11, 3) := by decide +kernel
theorem dX5_undo_43 : decode cX5_undo 43 = .ok (.aload_n 0, 1) := by decide +kernel
theorem dX5_undo_44 : decode cX5_undo 44 = .ok (.getfield 112, 3) := by decide +kernel
theorem dX5_undo_47 : decode cX5_undo 47 = .ok (.aload_n 1, 1) := by decide +kernel
theorem dX5_undo_48 : decode cX5_undo 48 = .ok (.aastore, 1) := by decide +kernel
theorem dX5_undo_49 : decode cX5_undo 49 = .ok (.aload_n 0, 1) := by decide +kernel
theorem dX5_undo_50 : decode cX5_undo 50 = .ok (.getfield 112, 3) := by decide +kernel
theorem dX5_undo_53 : decode cX5_undo 53 = .ok (.ireturn, 1) := by decide +kernel
set_option maxRecDepth 20000 in
theorem ggX5_type_X1_append : GoodIn wsX5_type wsX1_append := goodIn_r _ [6, 7, 8, 9, 10, 11, 21, 22, 23, 24, 25, 26] (by decide +kernel) (by decide +kernel)
set_option maxRecDepth 20000 in
theorem gX5_type_X1_append : GoodIn wsX5_type (wsV RX5 125 RX1 yX1_append wsX1_append) := goodIn_app (goodIn_of _ (by decide +kernel)) ggX5_type_X1_append
theorem dX5_type_0 : decode cX5_type 0 = .ok (.aload_n 0, 1) := by decide +kernel
theorem dX5_type_1 : decode cX5_type 1 = .ok (.getfield 18, 3) := by decide +kernel
theorem dX5_type_4 : decode cX5_type 4 = .ok (.iload_n 1, 1) := by decide +kernel
theorem dX5_type_5 : decode cX5_type 5 = .ok (.invokevirtual 125, 3) := by decide +kernel
theorem dX5_type_8 : decode cX5_type 8 = .ok (.ireturn, 1) := by decide +kernel
set_option maxRecDepth 20000 in
theorem ggX5_fault_X5_tryText : GoodIn wsX5_fault wsX5_tryText := goodIn_r _ [7, 8, 1, 2, 9, 10, 11, 6, 12, 13, 14, 15, 16, 17, 18, 19, 20, 21, 22, 23, 24, 25, 26, 27, 28, 29, 30, 31, 32, 33, 34, 35, 36, 37, 38, 39, 40, 41, 42, 43, 44, 45, 46, 47, 48, 49, 50, 51, 52, 53, 54, 55, 56, 57, 58, 59, 60, 61, 62, 63, 64, 65, 66, 67, 68, 69, 70, 71, 72, 73, 74, 75, 76, 77, 78, 79, 80, 81, 82, 83, 84, 85, 86, 87, 88, 89, 90, 91, 92, 93, 94, 95, 96, 97, 98, 99, 100, 101, 102, 103, 104, 105, 106, 107, 108, 109, 110, 111, 112, 113, 114, 115, 116, 117, 118, 119, 120, 121, 122, 123, 124, 125, 126, 127, 128, 129, 130, 131, 132, 133, 134, 135, 136, 137, 138, 139, 140, 141, 142, 143, 144, 145, 146, 147, 148, 149, 150, 151, 152, 153, 154, 155, 156, 157, 158, 159, 160, 161, 162, 163, 164, 165, 166, 167, 168, 169, 170, 171, 172, 173, 174, 175, 176, 177, 178, 179, 180, 181, 182, 183, 184, 185, 186, 187, 188, 189, 190, 191, 192, 193, 194, 195, 196, 197, 198, 199, 200, 201, 202, 203, 204, 205, 206, 207, 208, 209, 210, 211, 212, 213, 214, 215, 216, 217, 218, 219, 220, 221, 222, 223, 224, 225, 226, 227, 228, 229, 230, 231] (by decide +kernel) (by decide +kernel)
set_option maxRecDepth 20000 in
theorem gX5_fault_X5_tryText : GoodIn wsX5_fault (wsV RX5 128 RX5 yX5_tryText wsX5_tryText) := goodIn_app (goodIn_of _ (by decide +kernel)) ggX5_fault_X5_tryText
theorem dX5_fault_0 : decode cX5_fault 0 = .ok (.iload_n 1, 1) := by decide +kernel
theorem dX5_fault_1 : decode cX5_fault 1 = .ok (.ifCond .eq 10, 3) := by decide +kernel
theorem dX5_fault_4 : decode cX5_fault 4 = .ok (.iload_n 1, 1) := by decide +kernel
theorem dX5_fault_5 : decode cX5_fault 5 = .ok (.iconst 1, 1) := by decide +kernel
theorem dX5_fault_6 : decode cX5_fault 6 = .ok (.if_icmp .eq 5, 3) := by decide +kernel
theorem dX5_fault_9 : decode cX5_fault 9 = .ok (.iconst (-1), 1) := by decide +kernel
theorem dX5_fault_10 : decode cX5_fault 10 = .ok (.ireturn, 1) := by decide +kernel
theorem dX5_fault_11 : decode cX5_fault 11 = .ok (.aload_n 0, 1) := by decide +kernel
theorem dX5_fault_12 : decode cX5_fault 12 = .ok (.invokevirtual 128, 3) := by decide +kernel
theorem dX5_fault_15 : decode cX5_fault 15 = .ok (.pop, 1) := by decide +kernel
theorem dX5_fault_16 : decode cX5_fault 16 = .ok (.aload_n 0, 1) := by decide +kernel
theorem dX5_fault_17 : decode cX5_fault 17 = .ok (.getfield 131, 3) := by decide +kernel
theorem dX5_fault_20 : decode cX5_fault 20 = .ok (.ifCond .ne 6, 3) := by decide +kernel
theorem dX5_fault_23 : decode cX5_fault 23 = .ok (.bipush (-4), 2) := by decide +kernel
theorem dX5_fault_25 : decode cX5_fault 25 = .ok (.ireturn, 1) := by decide +kernel
theorem dX5_fault_26 : decode cX5_fault 26 = .ok (.iload_n 1, 1) := by decide +kernel
theorem dX5_fault_27 : decode cX5_fault 27 = .ok (.ifCond .ne 10, 3) := by decide +kernel
theorem dX5_fault_30 : decode cX5_fault 30 = .ok (.aload_n 0, 1) := by decide +kernel
theorem dX5_fault_31 : decode cX5_fault 31 = .ok (.getfield 134, 3) := by decide +kernel
theorem dX5_fault_34 : decode cX5_fault 34 = .ok (.goto 7, 3) := by decide +kernel
theorem dX5_fault_37 : decode cX5_fault 37 = .ok (.aload_n 0, 1) := by decide +kernel
theorem dX5_fault_38 : decode cX5_fault 38 = .ok (.getfield 131, 3) := by decide +kernel
theorem dX5_fault_41 : decode cX5_fault 41 = .ok (.ireturn, 1) := by decide +kernel
set_option maxRecDepth 20000 in
theorem ggX5_play_X5_tryText : GoodIn wsX5_play wsX5_tryText := goodIn_r _ [6, 7, 1, 8, 9, 10, 11, 5, 12, 13, 14, 15, 16, 17, 18, 19, 20, 21, 22, 23, 24, 25, 26, 27, 28, 29, 30, 31, 32, 33, 34, 35, 36, 37, 38, 39, 40, 41, 42, 43, 44, 45, 46, 47, 48, 49, 50, 51, 52, 53, 54, 55, 56, 57, 58, 59, 60, 61, 62, 63, 64, 65, 66, 67, 68, 69, 70, 71, 72, 73, 74, 75, 76, 77, 78, 79, 80, 81, 82, 83, 84, 85, 86, 87, 88, 89, 90, 91, 92, 93, 94, 95, 96, 97, 98, 99, 100, 101, 102, 103, 104, 105, 106, 107, 108, 109, 110, 111, 112, 113, 114, 115, 116, 117, 118, 119, 120, 121, 122, 123, 124, 125, 126, 127, 128, 129, 130, 131, 132, 133, 134, 135, 136, 137, 138, 139, 140, 141, 142, 143, 144, 145, 146, 147, 148, 149, 150, 151, 152, 153, 154, 155, 156, 157, 158, 159, 160, 161, 162, 163, 164, 165, 166, 167, 168, 169, 170, 171, 172, 173, 174, 175, 176, 177, 178, 179, 180, 181, 182, 183, 184, 185, 186, 187, 188, 189, 190, 191, 192, 193, 194, 195, 196, 211, 212, 213, 214, 215, 216, 217, 218, 219, 220, 221, 222, 223, 224, 225, 226, 227, 228, 229, 230, 231, 232, 233, 234, 235, 236, 237, 238, 239, 240, 241, 242, 243, 244, 245] (by decide +kernel) (by decide +kernel)
set_option maxRecDepth 20000 in
theorem gX5_play_X5_tryText : GoodIn wsX5_play (wsV RX5 128 RX5 yX5_tryText wsX5_tryText) := goodIn_app (goodIn_of _ (by decide +kernel)) ggX5_play_X5_tryText
set_option maxRecDepth 20000 in
theorem ggX5_play_X5_endTrial : GoodIn wsX5_play wsX5_endTrial := goodIn_r _ [200, 201, 202, 203, 5, 204, 205, 206, 14, 13, 207, 208, 209, 210, 211, 212, 213, 214, 215, 216, 217, 218, 219] (by decide +kernel) (by decide +kernel)
set_option maxRecDepth 20000 in
theorem gX5_play_X5_endTrial : GoodIn wsX5_play (wsV RX5 47 RX5 yX5_endTrial wsX5_endTrial) := goodIn_app (goodIn_of _ (by decide +kernel)) ggX5_play_X5_endTrial
theorem dX5_play_0 : decode cX5_play 0 = .ok (.aload_n 0, 1) := by decide +kernel
theorem dX5_play_1 : decode cX5_play 1 = .ok (.invokevirtual 128, 3) := by decide +kernel
theorem dX5_play_4 : decode cX5_play 4 = .ok (.istore_n 1, 1) := by decide +kernel
theorem dX5_play_5 : decode cX5_play 5 = .ok (.aload_n 0, 1) := by decide +kernel
theorem dX5_play_6 : decode cX5_play 6 = .ok (.aload_n 0, 1) := by decide +kernel
theorem dX5_play_7 : decode cX5_play 7 = .ok (.getfield 131, 3) := by decide +kernel
theorem dX5_play_10 : decode cX5_play 10 = .ok (.ifCond .ne 7, 3) := by decide +kernel
theorem dX5_play_13 : decode cX5_play 13 = .ok (.iload_n 1, 1) := by decide +kernel
theorem dX5_play_14 : decode cX5_play 14 = .ok (.goto 5, 3) := by decide +kernel
theorem dX5_play_17 : decode cX5_play 17 = .ok (.bipush (-2), 2) := by decide +kernel
theorem dX5_play_19 : decode cX5_play 19 = .ok (.invokevirtual 47, 3) := by decide +kernel
theorem dX5_play_22 : decode cX5_play 22 = .ok (.ireturn, 1) := by decide +kernel
set_option maxRecDepth 20000 in
theorem ggX5_startTrial_X4_copyFrom : GoodIn wsX5_startTrial wsX4_copyFrom := goodIn_r _ [7, 8, 9, 10, 11, 12, 13, 14, 15, 16, 17, 18, 19, 20, 21, 22, 6, 23, 24, 25, 26, 27, 28, 29, 30, 31, 32, 33, 34, 35, 36, 37, 38, 39, 40, 41, 42, 43, 53, 54, 55, 56, 57, 58, 59, 60, 61, 62, 63, 64, 65, 66, 67, 68, 69, 70, 71, 72] (by decide +kernel) (by decide +kernel)
set_option maxRecDepth 20000 in
theorem gX5_startTrial_X4_copyFrom : GoodIn wsX5_startTrial (wsV RX5 137 RX4 yX4_copyFrom wsX4_copyFrom) := goodIn_app (goodIn_of _ (by decide +kernel)) ggX5_startTrial_X4_copyFrom
theorem dX5_startTrial_0 : decode cX5_startTrial 0 = .ok (.aload_n 0, 1) := by decide +kernel
theorem dX5_startTrial_1 : decode cX5_startTrial 1 = .ok (.getfield 37, 3) := by decide +kernel
theorem dX5_startTrial_4 : decode cX5_startTrial 4 = .ok (.aload_n 0, 1) := by decide +kernel
theorem dX5_startTrial_5 : decode cX5_startTrial 5 = .ok (.getfield 33, 3) := by decide +kernel
theorem dX5_startTrial_8 : decode cX5_startTrial 8 = .ok (.invokevirtual 137, 3) := by decide +kernel
theorem dX5_startTrial_11 : decode cX5_startTrial 11 = .ok (.return_, 1) := by decide +kernel
set_option maxRecDepth 20000 in
theorem ggX5_endTrial_X5_keepTrial : GoodIn wsX5_endTrial wsX5_keepTrial := goodIn_r _ [5, 6, 7, 8, 9, 10, 11, 12, 4, 13, 14, 15, 16, 17, 18, 19, 20, 21, 22] (by decide +kernel) (by decide +kernel)
set_option maxRecDepth 20000 in
theorem gX5_endTrial_X5_keepTrial : GoodIn wsX5_endTrial (wsV RX5 141 RX5 yX5_keepTrial wsX5_keepTrial) := goodIn_app (goodIn_of _ (by decide +kernel)) ggX5_endTrial_X5_keepTrial
theorem dX5_endTrial_0 : decode cX5_endTrial 0 = .ok (.iload_n 1, 1) := by decide +kernel
theorem dX5_endTrial_1 : decode cX5_endTrial 1 = .ok (.ifCond .lt 7, 3) := by decide +kernel
theorem dX5_endTrial_4 : decode cX5_endTrial 4 = .ok (.aload_n 0, 1) := by decide +kernel
theorem dX5_endTrial_5 : decode cX5_endTrial 5 = .ok (.invokevirtual 141, 3) := by decide +kernel
theorem dX5_endTrial_8 : decode cX5_endTrial 8 = .ok (.iload_n 1, 1) := by decide +kernel
theorem dX5_endTrial_9 : decode cX5_endTrial 9 = .ok (.ireturn, 1) := by decide +kernel
set_option maxRecDepth 20000 in
theorem ggX5_keepTrial_X5_dropOldestState : GoodIn wsX5_keepTrial wsX5_dropOldestState := goodIn_r _ [9, 2, 1, 10, 11, 12, 13, 14, 15, 16, 17, 18] (by decide +kernel) (by decide +kernel)
set_option maxRecDepth 20000 in
theorem gX5_keepTrial_X5_dropOldestState : GoodIn wsX5_keepTrial (wsV RX5 144 RX5 yX5_dropOldestState wsX5_dropOldestState) := goodIn_app (goodIn_of _ (by decide +kernel)) ggX5_keepTrial_X5_dropOldestState
theorem dX5_keepTrial_0 : decode cX5_keepTrial 0 = .ok (.aload_n 0, 1) := by decide +kernel
theorem dX5_keepTrial_1 : decode cX5_keepTrial 1 = .ok (.getfield 112, 3) := by decide +kernel
theorem dX5_keepTrial_4 : decode cX5_keepTrial 4 = .ok (.iconst 4, 1) := by decide +kernel
theorem dX5_keepTrial_5 : decode cX5_keepTrial 5 = .ok (.if_icmp .lt 7, 3) := by decide +kernel
theorem dX5_keepTrial_8 : decode cX5_keepTrial 8 = .ok (.aload_n 0, 1) := by decide +kernel
theorem dX5_keepTrial_9 : decode cX5_keepTrial 9 = .ok (.invokevirtual 144, 3) := by decide +kernel
theorem dX5_keepTrial_12 : decode cX5_keepTrial 12 = .ok (.aload_n 0, 1) := by decide +kernel
theorem dX5_keepTrial_13 : decode cX5_keepTrial 13 = .ok (.getfield 11, 3) := by decide +kernel
theorem dX5_keepTrial_16 : decode cX5_keepTrial 16 = .ok (.aload_n 0, 1) := by decide +kernel
theorem dX5_keepTrial_17 : decode cX5_keepTrial 17 = .ok (.getfield 112, 3) := by decide +kernel
theorem dX5_keepTrial_20 : decode cX5_keepTrial 20 = .ok (.aaload, 1) := by decide +kernel
theorem dX5_keepTrial_21 : decode cX5_keepTrial 21 = .ok (.astore_n 1, 1) := by decide +kernel
theorem dX5_keepTrial_22 : decode cX5_keepTrial 22 = .ok (.aload_n 0, 1) := by decide +kernel
theorem dX5_keepTrial_23 : decode cX5_keepTrial 23 = .ok (.getfield 11, 3) := by decide +kernel
theorem dX5_keepTrial_26 : decode cX5_keepTrial 26 = .ok (.aload_n 0, 1) := by decide +kernel
theorem dX5_keepTrial_27 : decode cX5_keepTrial 27 = .ok (.getfield 112, 3) := by decide +kernel
theorem dX5_keepTrial_30 : decode cX5_keepTrial 30 = .ok (.aload_n 0, 1) := by decide +kernel
theorem dX5_keepTrial_31 : decode cX5_keepTrial 31 = .ok (.getfield 33, 3) := by decide +kernel
theorem dX5_keepTrial_34 : decode cX5_keepTrial 34 = .ok (.aastore, 1) := by decide +kernel
theorem dX5_keepTrial_35 : decode cX5_keepTrial 35 = .ok (.aload_n 0, 1) := by decide +kernel
theorem dX5_keepTrial_36 : decode cX5_keepTrial 36 = .ok (.aload_n 0, 1) := by decide +kernel
theorem dX5_keepTrial_37 : decode cX5_keepTrial 37 = .ok (.getfield 37, 3) := by decide +kernel
theorem dX5_keepTrial_40 : decode cX5_keepTrial 40 = .ok (.putfield 33, 3) := by decide +kernel
theorem dX5_keepTrial_43 : decode cX5_keepTrial 43 = .ok (.aload_n 0, 1) := by decide +kernel
theorem dX5_keepTrial_44 : decode cX5_keepTrial 44 = .ok (.aload_n 1, 1) := by decide +kernel
theorem dX5_keepTrial_45 : decode cX5_keepTrial 45 = .ok (.putfield 37, 3) := by decide +kernel
theorem dX5_keepTrial_48 : decode cX5_keepTrial 48 = .ok (.aload_n 0, 1) := by decide +kernel
theorem dX5_keepTrial_49 : decode cX5_keepTrial 49 = .ok (.dup, 1) := by decide +kernel
theorem dX5_keepTrial_50 : decode cX5_keepTrial 50 = .ok (.getfield 112, 3) := by decide +kernel
theorem dX5_keepTrial_53 : decode cX5_keepTrial 53 = .ok (.iconst 1, 1) := by decide +kernel
theorem dX5_keepTrial_54 : decode cX5_keepTrial 54 = .ok (.iadd, 1) := by decide +kernel
theorem dX5_keepTrial_55 : decode cX5_keepTrial 55 = .ok (.putfield 112, 3) := by decide +kernel
theorem dX5_keepTrial_58 : decode cX5_keepTrial 58 = .ok (.return_, 1) := by decide +kernel
theorem dX5_dropOldestState_0 : decode cX5_dropOldestState 0 = .ok (.aload_n 0, 1) := by decide +kernel
theorem dX5_dropOldestState_1 : decode cX5_dropOldestState 1 = .ok (.getfield 11, 3) := by decide +kernel
theorem dX5_dropOldestState_4 : decode cX5_dropOldestState 4 = .ok (.iconst 0, 1) := by decide +kernel
theorem dX5_dropOldestState_5 : decode cX5_dropOldestState 5 = .ok (.aaload, 1) := by decide +kernel
theorem dX5_dropOldestState_6 : decode cX5_dropOldestState 6 = .ok (.astore_n 1, 1) := by decide +kernel
theorem dX5_dropOldestState_7 : decode cX5_dropOldestState 7 = .ok (.iconst 1, 1) := by decide +kernel
theorem dX5_dropOldestState_8 : decode cX5_dropOldestState 8 = .ok (.istore_n 2, 1) := by decide +kernel
theorem dX5_dropOldestState_9 : decode cX5_dropOldestState 9 = .ok (.iload_n 2, 1) := by decide +kernel
theorem dX5_dropOldestState_10 : decode cX5_dropOldestState 10 = .ok (.iconst 4, 1) := by decide +kernel
theorem dX5_dropOldestState_11 : decode cX5_dropOldestState 11 = .ok (.if_icmp .ge 23, 3) := by decide +kernel
theorem dX5_dropOldestState_14 : decode cX5_dropOldestState 14 = .ok (.aload_n 0, 1) := by decide +kernel
theorem dX5_dropOldestState_15 : decode cX5_dropOldestState 15 = .ok (.getfield 11, 3) := by decide +kernel
theorem dX5_dropOldestState_18 : decode cX5_dropOldestState 18 = .ok (.iload_n 2, 1) := by decide +kernel
theorem dX5_dropOldestState_19 : decode cX5_dropOldestState 19 = .ok (.iconst 1, 1) := by decide +kernel
theorem dX5_dropOldestState_20 : decode cX5_dropOldestState 20 = .ok (.isub, 1) := by decide +kernel
theorem dX5_dropOldestState_21 : decode cX5_dropOldestState 21 = .ok (.aload_n 0, 1) := by decide +kernel
theorem dX5_dropOldestState_22 : decode cX5_dropOldestState 22 = .ok (.getfield 11, 3) := by decide +kernel
theorem dX5_dropOldestState_25 : decode cX5_dropOldestState 25 = .ok (.iload_n 2, 1) := by decide +kernel
theorem dX5_dropOldestState_26 : decode cX5_dropOldestState 26 = .ok (.aaload, 1) := by decide +kernel
theorem dX5_dropOldestState_27 : decode cX5_dropOldestState 27 = .ok (.aastore, 1) := by decide +kernel
theorem dX5_dropOldestState_28 : decode cX5_dropOldestState 28 = .ok (.iinc 2 1, 3) := by decide +kernel
theorem dX5_dropOldestState_31 : decode cX5_dropOldestState 31 = .ok (.goto (-22), 3) := by decide +kernel
theorem dX5_dropOldestState_34 : decode cX5_dropOldestState 34 = .ok (.aload_n 0, 1) := by decide +kernel
theorem dX5_dropOldestState_35 : decode cX5_dropOldestState 35 = .ok (.getfield 11, 3) := by decide +kernel
theorem dX5_dropOldestState_38 : decode cX5_dropOldestState 38 = .ok (.iconst 3, 1) := by decide +kernel
theorem dX5_dropOldestState_39 : decode cX5_dropOldestState 39 = .ok (.aload_n 1, 1) := by decide +kernel
theorem dX5_dropOldestState_40 : decode cX5_dropOldestState 40 = .ok (.aastore, 1) := by decide +kernel
theorem dX5_dropOldestState_41 : decode cX5_dropOldestState 41 = .ok (.aload_n 0, 1) := by decide +kernel
theorem dX5_dropOldestState_42 : decode cX5_dropOldestState 42 = .ok (.iconst 3, 1) := by decide +kernel
theorem dX5_dropOldestState_43 : decode cX5_dropOldestState 43 = .ok (.putfield 112, 3) := by decide +kernel
theorem dX5_dropOldestState_46 : decode cX5_dropOldestState 46 = .ok (.return_, 1) := by decide +kernel
set_option maxRecDepth 20000 in
theorem ggX5_tryText_X5_startTrial : GoodIn wsX5_tryText wsX5_startTrial := goodIn_r _ [8, 9, 10, 11, 12, 13, 14, 15, 16, 17, 18, 19, 20, 21, 22, 23, 24, 25, 26, 27, 28, 29, 30, 31, 32, 33, 34, 35, 36, 37, 38, 39, 40, 41, 42, 43, 44, 45, 46, 47, 48, 49, 50, 51, 193, 194, 195, 196, 197, 198, 199, 200, 201, 208, 209, 210, 211, 212, 213, 214, 215, 216, 217, 218, 219, 220, 221, 222, 223, 224, 225, 226, 227] (by decide +kernel) (by decide +kernel)
set_option maxRecDepth 20000 in
theorem gX5_tryText_X5_startTrial : GoodIn wsX5_tryText (wsV RX5 40 RX5 yX5_startTrial wsX5_startTrial) := goodIn_app (goodIn_of _ (by decide +kernel)) ggX5_tryText_X5_startTrial
set_option maxRecDepth 20000 in
theorem ggX5_tryText_X1_startReading : GoodIn wsX5_tryText wsX1_startReading := goodIn_r _ [56, 57, 202, 203, 204, 205, 206, 207] (by decide +kernel) (by decide +kernel)
set_option maxRecDepth 20000 in
theorem gX5_tryText_X1_startReading : GoodIn wsX5_tryText (wsV RX5 147 RX1 yX1_startReading wsX1_startReading) := goodIn_app (goodIn_of _ (by decide +kernel)) ggX5_tryText_X1_startReading
set_option maxRecDepth 20000 in
theorem ggX5_tryText_X1_isAtEnd : GoodIn wsX5_tryText wsX1_isAtEnd := goodIn_r _ [61, 57, 62, 202, 203, 204, 205, 206, 207] (by decide +kernel) (by decide +kernel)
set_option maxRecDepth 20000 in
theorem gX5_tryText_X1_isAtEnd : GoodIn wsX5_tryText (wsV RX5 150 RX1 yX1_isAtEnd wsX1_isAtEnd) := goodIn_app (goodIn_of _ (by decide +kernel)) ggX5_tryText_X1_isAtEnd
set_option maxRecDepth 20000 in
theorem ggX5_tryText_X1_readOrder : GoodIn wsX5_tryText wsX1_readOrder := goodIn_r _ [66, 67, 57, 68, 69, 70, 71, 55, 72, 62, 73, 74, 75, 76, 77, 78, 79, 80, 81, 82, 83, 84, 85, 86, 87, 88, 89, 202, 203, 204, 205, 206, 207] (by decide +kernel) (by decide +kernel)
set_option maxRecDepth 20000 in
theorem gX5_tryText_X1_readOrder : GoodIn wsX5_tryText (wsV RX5 157 RX1 yX1_readOrder wsX1_readOrder) := goodIn_app (goodIn_of _ (by decide +kernel)) ggX5_tryText_X1_readOrder
set_option maxRecDepth 20000 in
theorem ggX5_tryText_X5_hasGoodsAndSlots : GoodIn wsX5_tryText wsX5_hasGoodsAndSlots := goodIn_r _ [93, 9, 94, 95, 96, 14, 97, 27, 98, 99, 100, 101, 193, 194, 195, 196, 197, 198, 199, 200, 201, 208, 209, 210, 211, 212, 213, 214, 215, 216, 217, 218, 219, 220] (by decide +kernel) (by decide +kernel)
set_option maxRecDepth 20000 in
theorem gX5_tryText_X5_hasGoodsAndSlots : GoodIn wsX5_tryText (wsV RX5 169 RX5 yX5_hasGoodsAndSlots wsX5_hasGoodsAndSlots) := goodIn_app (goodIn_of _ (by decide +kernel)) ggX5_tryText_X5_hasGoodsAndSlots
set_option maxRecDepth 20000 in
theorem ggX5_tryText_X5_doOrder : GoodIn wsX5_tryText wsX5_doOrder := goodIn_r _ [105, 9, 106, 107, 108, 14, 109, 20, 25, 19, 23, 22, 26, 110, 95, 96, 97, 27, 111, 7, 112, 113, 114, 115, 116, 117, 99, 100, 101, 118, 119, 120, 121, 17, 21, 32, 33, 34, 35, 122, 123, 124, 125, 16, 126, 127, 128, 129, 130, 131, 132, 133, 134, 135, 136, 137, 138, 139, 140, 141, 24, 142, 143, 144, 145, 146, 147, 148, 149, 150, 151, 152, 153, 154, 155, 156, 157, 158, 159, 160, 161, 162, 163, 164, 165, 166, 28, 167, 168, 169, 170, 18, 171, 172, 173, 174, 175, 176, 177, 178, 179, 180, 181, 182, 183, 184, 185, 186, 187, 188, 189, 190, 191, 192, 193, 194, 195, 196, 197, 198, 199, 200, 201, 208, 209, 210, 211, 212, 213, 214, 215, 216, 217, 218, 219, 220, 221, 222, 223, 224, 225, 226, 227] (by decide +kernel) (by decide +kernel)
set_option maxRecDepth 20000 in
theorem gX5_tryText_X5_doOrder : GoodIn wsX5_tryText (wsV RX5 173 RX5 yX5_doOrder wsX5_doOrder) := goodIn_app (goodIn_of _ (by decide +kernel)) ggX5_tryText_X5_doOrder
theorem dX5_tryText_0 : decode cX5_tryText 0 = .ok (.aload_n 0, 1) := by decide +kernel
theorem dX5_tryText_1 : decode cX5_tryText 1 = .ok (.invokevirtual 40, 3) := by decide +kernel
theorem dX5_tryText_4 : decode cX5_tryText 4 = .ok (.aload_n 0, 1) := by decide +kernel
theorem dX5_tryText_5 : decode cX5_tryText 5 = .ok (.getfield 18, 3) := by decide +kernel
theorem dX5_tryText_8 : decode cX5_tryText 8 = .ok (.invokevirtual 147, 3) := by decide +kernel
theorem dX5_tryText_11 : decode cX5_tryText 11 = .ok (.aload_n 0, 1) := by decide +kernel
theorem dX5_tryText_12 : decode cX5_tryText 12 = .ok (.iconst 0, 1) := by decide +kernel
theorem dX5_tryText_13 : decode cX5_tryText 13 = .ok (.putfield 131, 3) := by decide +kernel
theorem dX5_tryText_16 : decode cX5_tryText 16 = .ok (.iconst 0, 1) := by decide +kernel
theorem dX5_tryText_17 : decode cX5_tryText 17 = .ok (.istore_n 1, 1) := by decide +kernel
theorem dX5_tryText_18 : decode cX5_tryText 18 = .ok (.iload_n 1, 1) := by decide +kernel
theorem dX5_tryText_19 : decode cX5_tryText 19 = .ok (.bipush 60, 2) := by decide +kernel
theorem dX5_tryText_21 : decode cX5_tryText 21 = .ok (.if_icmp .ge 126, 3) := by decide +kernel
theorem dX5_tryText_24 : decode cX5_tryText 24 = .ok (.aload_n 0, 1) := by decide +kernel
theorem dX5_tryText_25 : decode cX5_tryText 25 = .ok (.getfield 18, 3) := by decide +kernel
theorem dX5_tryText_28 : decode cX5_tryText 28 = .ok (.invokevirtual 150, 3) := by decide +kernel
theorem dX5_tryText_31 : decode cX5_tryText 31 = .ok (.ifCond .ne 116, 3) := by decide +kernel
theorem dX5_tryText_34 : decode cX5_tryText 34 = .ok (.aload_n 0, 1) := by decide +kernel
theorem dX5_tryText_35 : decode cX5_tryText 35 = .ok (.aload_n 0, 1) := by decide +kernel
theorem dX5_tryText_36 : decode cX5_tryText 36 = .ok (.getfield 18, 3) := by decide +kernel
theorem dX5_tryText_39 : decode cX5_tryText 39 = .ok (.getfield 154, 3) := by decide +kernel
theorem dX5_tryText_42 : decode cX5_tryText 42 = .ok (.putfield 134, 3) := by decide +kernel
theorem dX5_tryText_45 : decode cX5_tryText 45 = .ok (.aload_n 0, 1) := by decide +kernel
theorem dX5_tryText_46 : decode cX5_tryText 46 = .ok (.getfield 18, 3) := by decide +kernel
theorem dX5_tryText_49 : decode cX5_tryText 49 = .ok (.invokevirtual 157, 3) := by decide +kernel
theorem dX5_tryText_52 : decode cX5_tryText 52 = .ok (.ifCond .ne 11, 3) := by decide +kernel
theorem dX5_tryText_55 : decode cX5_tryText 55 = .ok (.aload_n 0, 1) := by decide +kernel
theorem dX5_tryText_56 : decode cX5_tryText 56 = .ok (.iconst 1, 1) := by decide +kernel
theorem dX5_tryText_57 : decode cX5_tryText 57 = .ok (.putfield 131, 3) := by decide +kernel
theorem dX5_tryText_60 : decode cX5_tryText 60 = .ok (.goto 72, 3) := by decide +kernel
theorem dX5_tryText_63 : decode cX5_tryText 63 = .ok (.aload_n 0, 1) := by decide +kernel
theorem dX5_tryText_64 : decode cX5_tryText 64 = .ok (.aload_n 0, 1) := by decide +kernel
theorem dX5_tryText_65 : decode cX5_tryText 65 = .ok (.getfield 18, 3) := by decide +kernel
theorem dX5_tryText_68 : decode cX5_tryText 68 = .ok (.getfield 160, 3) := by decide +kernel
theorem dX5_tryText_71 : decode cX5_tryText 71 = .ok (.aload_n 0, 1) := by decide +kernel
theorem dX5_tryText_72 : decode cX5_tryText 72 = .ok (.getfield 18, 3) := by decide +kernel
theorem dX5_tryText_75 : decode cX5_tryText 75 = .ok (.getfield 163, 3) := by decide +kernel
theorem dX5_tryText_78 : decode cX5_tryText 78 = .ok (.aload_n 0, 1) := by decide +kernel
theorem dX5_tryText_79 : decode cX5_tryText 79 = .ok (.getfield 18, 3) := by decide +kernel
theorem dX5_tryText_82 : decode cX5_tryText 82 = .ok (.getfield 166, 3) := by decide +kernel
theorem dX5_tryText_85 : decode cX5_tryText 85 = .ok (.invokevirtual 169, 3) := by decide +kernel
theorem dX5_tryText_88 : decode cX5_tryText 88 = .ok (.ifCond .ne 11, 3) := by decide +kernel
theorem dX5_tryText_91 : decode cX5_tryText 91 = .ok (.aload_n 0, 1) := by decide +kernel
theorem dX5_tryText_92 : decode cX5_tryText 92 = .ok (.iconst 2, 1) := by decide +kernel
theorem dX5_tryText_93 : decode cX5_tryText 93 = .ok (.putfield 131, 3) := by decide +kernel
theorem dX5_tryText_96 : decode cX5_tryText 96 = .ok (.goto 36, 3) := by decide +kernel
theorem dX5_tryText_99 : decode cX5_tryText 99 = .ok (.aload_n 0, 1) := by decide +kernel
theorem dX5_tryText_100 : decode cX5_tryText 100 = .ok (.aload_n 0, 1) := by decide +kernel
theorem dX5_tryText_101 : decode cX5_tryText 101 = .ok (.getfield 18, 3) := by decide +kernel
theorem dX5_tryText_104 : decode cX5_tryText 104 = .ok (.getfield 160, 3) := by decide +kernel
theorem dX5_tryText_107 : decode cX5_tryText 107 = .ok (.aload_n 0, 1) := by decide +kernel
theorem dX5_tryText_108 : decode cX5_tryText 108 = .ok (.getfield 18, 3) := by decide +kernel
theorem dX5_tryText_111 : decode cX5_tryText 111 = .ok (.getfield 163, 3) := by decide +kernel
theorem dX5_tryText_114 : decode cX5_tryText 114 = .ok (.aload_n 0, 1) := by decide +kernel
theorem dX5_tryText_115 : decode cX5_tryText 115 = .ok (.getfield 18, 3) := by decide +kernel
theorem dX5_tryText_118 : decode cX5_tryText 118 = .ok (.getfield 166, 3) := by decide +kernel
theorem dX5_tryText_121 : decode cX5_tryText 121 = .ok (.invokevirtual 173, 3) := by decide +kernel
theorem dX5_tryText_124 : decode cX5_tryText 124 = .ok (.ifCond .ge 8, 3) := by decide +kernel
theorem dX5_tryText_127 : decode cX5_tryText 127 = .ok (.aload_n 0, 1) := by decide +kernel
theorem dX5_tryText_128 : decode cX5_tryText 128 = .ok (.iconst 3, 1) := by decide +kernel
theorem dX5_tryText_129 : decode cX5_tryText 129 = .ok (.putfield 131, 3) := by decide +kernel
theorem dX5_tryText_132 : decode cX5_tryText 132 = .ok (.aload_n 0, 1) := by decide +kernel
theorem dX5_tryText_133 : decode cX5_tryText 133 = .ok (.getfield 131, 3) := by decide +kernel
theorem dX5_tryText_136 : decode cX5_tryText 136 = .ok (.ifCond .eq 5, 3) := by decide +kernel
theorem dX5_tryText_139 : decode cX5_tryText 139 = .ok (.iload_n 1, 1) := by decide +kernel
theorem dX5_tryText_140 : decode cX5_tryText 140 = .ok (.ireturn, 1) := by decide +kernel
theorem dX5_tryText_141 : decode cX5_tryText 141 = .ok (.iinc 1 1, 3) := by decide +kernel
theorem dX5_tryText_144 : decode cX5_tryText 144 = .ok (.goto (-126), 3) := by decide +kernel
theorem dX5_tryText_147 : decode cX5_tryText 147 = .ok (.iload_n 1, 1) := by decide +kernel
theorem dX5_tryText_148 : decode cX5_tryText 148 = .ok (.ireturn, 1) := by decide +kernel
set_option maxRecDepth 20000 in
theorem ggX5_hasGoodsAndSlots_X4_isGood : GoodIn wsX5_hasGoodsAndSlots wsX4_isGood := goodIn_r _ [6, 7, 21, 22, 23, 24, 25, 26, 27, 28, 29, 30, 31, 32, 33] (by decide +kernel) (by decide +kernel)
set_option maxRecDepth 20000 in
theorem gX5_hasGoodsAndSlots_X4_isGood : GoodIn wsX5_hasGoodsAndSlots (wsV RX5 176 RX4 yX4_isGood wsX4_isGood) := goodIn_app (goodIn_of _ (by decide +kernel)) ggX5_hasGoodsAndSlots_X4_isGood
set_option maxRecDepth 20000 in
theorem ggX5_hasGoodsAndSlots_X2_isSlot : GoodIn wsX5_hasGoodsAndSlots wsX2_isSlot := goodIn_r _ [11] (by decide +kernel) (by decide +kernel)
set_option maxRecDepth 20000 in
theorem gX5_hasGoodsAndSlots_X2_isSlot : GoodIn wsX5_hasGoodsAndSlots (va_wsS RX5 179 yX2_isSlot wsX2_isSlot) := goodIn_app (goodIn_of _ (by decide +kernel)) ggX5_hasGoodsAndSlots_X2_isSlot
theorem dX5_hasGoodsAndSlots_0 : decode cX5_hasGoodsAndSlots 0 = .ok (.iload_n 1, 1) := by decide +kernel
theorem dX5_hasGoodsAndSlots_1 : decode cX5_hasGoodsAndSlots 1 = .ok (.lookupswitch 89 #[(109, 37), (119, 35), (120, 61)], 35) := by decide +kernel
theorem dX5_hasGoodsAndSlots_36 : decode cX5_hasGoodsAndSlots 36 = .ok (.iconst 1, 1) := by decide +kernel
theorem dX5_hasGoodsAndSlots_37 : decode cX5_hasGoodsAndSlots 37 = .ok (.ireturn, 1) := by decide +kernel
theorem dX5_hasGoodsAndSlots_38 : decode cX5_hasGoodsAndSlots 38 = .ok (.aload_n 0, 1) := by decide +kernel
theorem dX5_hasGoodsAndSlots_39 : decode cX5_hasGoodsAndSlots 39 = .ok (.getfield 37, 3) := by decide +kernel
theorem dX5_hasGoodsAndSlots_42 : decode cX5_hasGoodsAndSlots 42 = .ok (.iload_n 2, 1) := by decide +kernel
theorem dX5_hasGoodsAndSlots_43 : decode cX5_hasGoodsAndSlots 43 = .ok (.invokevirtual 176, 3) := by decide +kernel
theorem dX5_hasGoodsAndSlots_46 : decode cX5_hasGoodsAndSlots 46 = .ok (.ifCond .eq 14, 3) := by decide +kernel
theorem dX5_hasGoodsAndSlots_49 : decode cX5_hasGoodsAndSlots 49 = .ok (.iload_n 3, 1) := by decide +kernel
theorem dX5_hasGoodsAndSlots_50 : decode cX5_hasGoodsAndSlots 50 = .ok (.invokestatic 179, 3) := by decide +kernel
theorem dX5_hasGoodsAndSlots_53 : decode cX5_hasGoodsAndSlots 53 = .ok (.ifCond .eq 7, 3) := by decide +kernel
theorem dX5_hasGoodsAndSlots_56 : decode cX5_hasGoodsAndSlots 56 = .ok (.iconst 1, 1) := by decide +kernel
theorem dX5_hasGoodsAndSlots_57 : decode cX5_hasGoodsAndSlots 57 = .ok (.goto 4, 3) := by decide +kernel
theorem dX5_hasGoodsAndSlots_60 : decode cX5_hasGoodsAndSlots 60 = .ok (.iconst 0, 1) := by decide +kernel
theorem dX5_hasGoodsAndSlots_61 : decode cX5_hasGoodsAndSlots 61 = .ok (.ireturn, 1) := by decide +kernel
theorem dX5_hasGoodsAndSlots_62 : decode cX5_hasGoodsAndSlots 62 = .ok (.aload_n 0, 1) := by decide +kernel
theorem dX5_hasGoodsAndSlots_63 : decode cX5_hasGoodsAndSlots 63 = .ok (.getfield 37, 3) := by decide +kernel
theorem dX5_hasGoodsAndSlots_66 : decode cX5_hasGoodsAndSlots 66 = .ok (.iload_n 2, 1) := by decide +kernel
theorem dX5_hasGoodsAndSlots_67 : decode cX5_hasGoodsAndSlots 67 = .ok (.invokevirtual 176, 3) := by decide +kernel
theorem dX5_hasGoodsAndSlots_70 : decode cX5_hasGoodsAndSlots 70 = .ok (.ifCond .eq 18, 3) := by decide +kernel
theorem dX5_hasGoodsAndSlots_73 : decode cX5_hasGoodsAndSlots 73 = .ok (.aload_n 0, 1) := by decide +kernel
theorem dX5_hasGoodsAndSlots_74 : decode cX5_hasGoodsAndSlots 74 = .ok (.getfield 37, 3) := by decide +kernel
theorem dX5_hasGoodsAndSlots_77 : decode cX5_hasGoodsAndSlots 77 = .ok (.iload_n 3, 1) := by decide +kernel
theorem dX5_hasGoodsAndSlots_78 : decode cX5_hasGoodsAndSlots 78 = .ok (.invokevirtual 176, 3) := by decide +kernel
theorem dX5_hasGoodsAndSlots_81 : decode cX5_hasGoodsAndSlots 81 = .ok (.ifCond .eq 7, 3) := by decide +kernel
theorem dX5_hasGoodsAndSlots_84 : decode cX5_hasGoodsAndSlots 84 = .ok (.iconst 1, 1) := by decide +kernel
theorem dX5_hasGoodsAndSlots_85 : decode cX5_hasGoodsAndSlots 85 = .ok (.goto 4, 3) := by decide +kernel
theorem dX5_hasGoodsAndSlots_88 : decode cX5_hasGoodsAndSlots 88 = .ok (.iconst 0, 1) := by decide +kernel
theorem dX5_hasGoodsAndSlots_89 : decode cX5_hasGoodsAndSlots 89 = .ok (.ireturn, 1) := by decide +kernel
theorem dX5_hasGoodsAndSlots_90 : decode cX5_hasGoodsAndSlots 90 = .ok (.aload_n 0, 1) := by decide +kernel
theorem dX5_hasGoodsAndSlots_91 : decode cX5_hasGoodsAndSlots 91 = .ok (.getfield 37, 3) := by decide +kernel
theorem dX5_hasGoodsAndSlots_94 : decode cX5_hasGoodsAndSlots 94 = .ok (.iload_n 2, 1) := by decide +kernel
theorem dX5_hasGoodsAndSlots_95 : decode cX5_hasGoodsAndSlots 95 = .ok (.invokevirtual 176, 3) := by decide +kernel
theorem dX5_hasGoodsAndSlots_98 : decode cX5_hasGoodsAndSlots 98 = .ok (.ireturn, 1) := by decide +kernel
set_option maxRecDepth 20000 in
theorem ggX5_doOrder_X4_pickUnits : GoodIn wsX5_doOrder wsX4_pickUnits := goodIn_r _ [6, 7, 8, 9, 10, 11, 12, 13, 14, 15, 5, 16, 17, 18, 19, 20, 21, 22, 23, 24, 25, 26, 27, 28, 29, 30, 31, 32, 33, 34, 35, 36, 37, 38, 39, 40, 41, 42, 43, 44, 45, 46, 47, 48, 49, 50, 51, 123, 124, 125, 126, 127, 128, 129, 130, 131, 132, 133, 134, 135, 136, 137, 138, 139, 140, 141, 142] (by decide +kernel) (by decide +kernel)
set_option maxRecDepth 20000 in
theorem gX5_doOrder_X4_pickUnits : GoodIn wsX5_doOrder (wsV RX5 73 RX4 yX4_pickUnits wsX4_pickUnits) := goodIn_app (goodIn_of _ (by decide +kernel)) ggX5_doOrder_X4_pickUnits
set_option maxRecDepth 20000 in
theorem ggX5_doOrder_X4_refillSlot : GoodIn wsX5_doOrder wsX4_refillSlot := goodIn_r _ [55, 13, 14, 15, 5, 16, 17, 21, 22, 23, 24, 9, 25, 26, 27, 28, 29, 30, 31, 32, 33, 7, 34, 35, 36, 37, 38, 39, 40, 41, 42, 43, 8, 12, 44, 45, 46, 47, 48, 49, 50, 51, 123, 124, 125, 126, 127, 128, 129, 130, 131, 132, 133, 134, 135, 136, 137, 138, 139, 140, 141, 142] (by decide +kernel) (by decide +kernel)
set_option maxRecDepth 20000 in
theorem gX5_doOrder_X4_refillSlot : GoodIn wsX5_doOrder (wsV RX5 76 RX4 yX4_refillSlot wsX4_refillSlot) := goodIn_app (goodIn_of _ (by decide +kernel)) ggX5_doOrder_X4_refillSlot
set_option maxRecDepth 20000 in
theorem ggX5_doOrder_X4_moveGood : GoodIn wsX5_doOrder wsX4_moveGood := goodIn_r _ [59, 60, 61, 13, 14, 15, 5, 16, 17, 25, 26, 27, 28, 62, 63, 64, 65, 9, 66, 67, 68, 69, 43, 70, 71, 72, 73, 74, 75, 76, 77, 12, 78, 79, 80, 81, 82, 83, 84, 85, 86, 87, 88, 89, 90, 91, 48, 49, 50, 51, 92, 93, 94, 95, 96, 97, 98, 99, 100, 37, 101, 102, 103, 104, 105, 123, 124, 125, 126, 127, 128, 129, 130, 131, 132, 133, 134, 135, 136, 137, 138, 139, 140, 141, 142] (by decide +kernel) (by decide +kernel)
set_option maxRecDepth 20000 in
theorem gX5_doOrder_X4_moveGood : GoodIn wsX5_doOrder (wsV RX5 83 RX4 yX4_moveGood wsX4_moveGood) := goodIn_app (goodIn_of _ (by decide +kernel)) ggX5_doOrder_X4_moveGood
set_option maxRecDepth 20000 in
theorem ggX5_doOrder_X4_exchangeGoods : GoodIn wsX5_doOrder wsX4_exchangeGoods := goodIn_r _ [109, 9, 61, 13, 14, 15, 5, 16, 17, 21, 22, 23, 24, 25, 26, 27, 28, 62, 63, 64, 65, 60, 66, 67, 68, 69, 43, 70, 71, 72, 73, 74, 75, 76, 77, 12, 78, 79, 80, 81, 82, 83, 84, 85, 86, 87, 88, 89, 90, 91, 48, 49, 50, 51, 92, 93, 94, 95, 96, 97, 98, 99, 100, 37, 101, 102, 103, 104, 105, 123, 124, 125, 126, 127, 128, 129, 130, 131, 132, 133, 134, 135, 136, 137, 138, 139, 140, 141, 142] (by decide +kernel) (by decide +kernel)
set_option maxRecDepth 20000 in
theorem gX5_doOrder_X4_exchangeGoods : GoodIn wsX5_doOrder (wsV RX5 86 RX4 yX4_exchangeGoods wsX4_exchangeGoods) := goodIn_app (goodIn_of _ (by decide +kernel)) ggX5_doOrder_X4_exchangeGoods
set_option maxRecDepth 20000 in
theorem ggX5_doOrder_X4_finishWeek : GoodIn wsX5_doOrder wsX4_finishWeek := goodIn_r _ [113, 86, 17, 11, 91, 35, 36, 37, 38, 82, 83, 84, 5, 85, 87, 88, 89, 90, 123, 124, 125, 126, 127, 128, 129, 130, 131, 132, 133, 134, 135] (by decide +kernel) (by decide +kernel)
set_option maxRecDepth 20000 in
theorem gX5_doOrder_X4_finishWeek : GoodIn wsX5_doOrder (wsV RX5 79 RX4 yX4_finishWeek wsX4_finishWeek) := goodIn_app (goodIn_of _ (by decide +kernel)) ggX5_doOrder_X4_finishWeek
theorem dX5_doOrder_0 : decode cX5_doOrder 0 = .ok (.iload_n 1, 1) := by decide +kernel
theorem dX5_doOrder_1 : decode cX5_doOrder 1 = .ok (.lookupswitch 82 #[(109, 62), (112, 43), (114, 53), (120, 72)], 43) := by decide +kernel
theorem dX5_doOrder_44 : decode cX5_doOrder 44 = .ok (.aload_n 0, 1) := by decide +kernel
theorem dX5_doOrder_45 : decode cX5_doOrder 45 = .ok (.getfield 37, 3) := by decide +kernel
theorem dX5_doOrder_48 : decode cX5_doOrder 48 = .ok (.iload_n 2, 1) := by decide +kernel
theorem dX5_doOrder_49 : decode cX5_doOrder 49 = .ok (.iload_n 3, 1) := by decide +kernel
theorem dX5_doOrder_50 : decode cX5_doOrder 50 = .ok (.invokevirtual 73, 3) := by decide +kernel
theorem dX5_doOrder_53 : decode cX5_doOrder 53 = .ok (.ireturn, 1) := by decide +kernel
theorem dX5_doOrder_54 : decode cX5_doOrder 54 = .ok (.aload_n 0, 1) := by decide +kernel
theorem dX5_doOrder_55 : decode cX5_doOrder 55 = .ok (.getfield 37, 3) := by decide +kernel
theorem dX5_doOrder_58 : decode cX5_doOrder 58 = .ok (.iload_n 2, 1) := by decide +kernel
theorem dX5_doOrder_59 : decode cX5_doOrder 59 = .ok (.invokevirtual 76, 3) := by decide +kernel
theorem dX5_doOrder_62 : decode cX5_doOrder 62 = .ok (.ireturn, 1) := by decide +kernel
theorem dX5_doOrder_63 : decode cX5_doOrder 63 = .ok (.aload_n 0, 1) := by decide +kernel
theorem dX5_doOrder_64 : decode cX5_doOrder 64 = .ok (.getfield 37, 3) := by decide +kernel
theorem dX5_doOrder_67 : decode cX5_doOrder 67 = .ok (.iload_n 2, 1) := by decide +kernel
theorem dX5_doOrder_68 : decode cX5_doOrder 68 = .ok (.iload_n 3, 1) := by decide +kernel
theorem dX5_doOrder_69 : decode cX5_doOrder 69 = .ok (.invokevirtual 83, 3) := by decide +kernel
theorem dX5_doOrder_72 : decode cX5_doOrder 72 = .ok (.ireturn, 1) := by decide +kernel
theorem dX5_doOrder_73 : decode cX5_doOrder 73 = .ok (.aload_n 0, 1) := by decide +kernel
theorem dX5_doOrder_74 : decode cX5_doOrder 74 = .ok (.getfield 37, 3) := by decide +kernel
theorem dX5_doOrder_77 : decode cX5_doOrder 77 = .ok (.iload_n 2, 1) := by decide +kernel
theorem dX5_doOrder_78 : decode cX5_doOrder 78 = .ok (.iload_n 3, 1) := by decide +kernel
theorem dX5_doOrder_79 : decode cX5_doOrder 79 = .ok (.invokevirtual 86, 3) := by decide +kernel
theorem dX5_doOrder_82 : decode cX5_doOrder 82 = .ok (.ireturn, 1) := by decide +kernel
theorem dX5_doOrder_83 : decode cX5_doOrder 83 = .ok (.aload_n 0, 1) := by decide +kernel
theorem dX5_doOrder_84 : decode cX5_doOrder 84 = .ok (.getfield 37, 3) := by decide +kernel
theorem dX5_doOrder_87 : decode cX5_doOrder 87 = .ok (.invokevirtual 79, 3) := by decide +kernel
theorem dX5_doOrder_90 : decode cX5_doOrder 90 = .ok (.ireturn, 1) := by decide +kernel
theorem dX5_isSeason_0 : decode cX5_isSeason 0 = .ok (.iload_n 0, 1) := by decide +kernel
theorem dX5_isSeason_1 : decode cX5_isSeason 1 = .ok (.ifCond .lt 12, 3) := by decide +kernel
theorem dX5_isSeason_4 : decode cX5_isSeason 4 = .ok (.iload_n 0, 1) := by decide +kernel
theorem dX5_isSeason_5 : decode cX5_isSeason 5 = .ok (.iconst 4, 1) := by decide +kernel
theorem dX5_isSeason_6 : decode cX5_isSeason 6 = .ok (.if_icmp .ge 7, 3) := by decide +kernel
theorem dX5_isSeason_9 : decode cX5_isSeason 9 = .ok (.iconst 1, 1) := by decide +kernel
theorem dX5_isSeason_10 : decode cX5_isSeason 10 = .ok (.goto 4, 3) := by decide +kernel
theorem dX5_isSeason_13 : decode cX5_isSeason 13 = .ok (.iconst 0, 1) := by decide +kernel
theorem dX5_isSeason_14 : decode cX5_isSeason 14 = .ok (.ireturn, 1) := by decide +kernel
theorem dX5_isIn_0 : decode cX5_isIn 0 = .ok (.iload_n 0, 1) := by decide +kernel
theorem dX5_isIn_1 : decode cX5_isIn 1 = .ok (.iload_n 1, 1) := by decide +kernel
theorem dX5_isIn_2 : decode cX5_isIn 2 = .ok (.if_icmp .lt 12, 3) := by decide +kernel
theorem dX5_isIn_5 : decode cX5_isIn 5 = .ok (.iload_n 0, 1) := by decide +kernel
theorem dX5_isIn_6 : decode cX5_isIn 6 = .ok (.iload_n 2, 1) := by decide +kernel
theorem dX5_isIn_7 : decode cX5_isIn 7 = .ok (.if_icmp .gt 7, 3) := by decide +kernel
theorem dX5_isIn_10 : decode cX5_isIn 10 = .ok (.iconst 1, 1) := by decide +kernel
theorem dX5_isIn_11 : decode cX5_isIn 11 = .ok (.goto 4, 3) := by decide +kernel
theorem dX5_isIn_14 : decode cX5_isIn 14 = .ok (.iconst 0, 1) := by decide +kernel
theorem dX5_isIn_15 : decode cX5_isIn 15 = .ok (.ireturn, 1) := by decide +kernel
