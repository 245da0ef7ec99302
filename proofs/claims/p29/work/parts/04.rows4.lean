set_option maxRecDepth 20000 in
theorem ggX4_init_X0_init : GoodIn wsX4_init wsX0_init := goodIn_r _ [20, 21, 2, 3] (by decide +kernel) (by decide +kernel)
set_option maxRecDepth 20000 in
theorem gX4_init_X0_init_n46 : GoodIn wsX4_init (wsX0_init) := ggX4_init_X0_init
theorem dX4_init_0 : decode cX4_init 0 = .ok (.aload_n 0, 1) := by decide +kernel
theorem dX4_init_1 : decode cX4_init 1 = .ok (.invokespecial 3, 3) := by decide +kernel
theorem dX4_init_4 : decode cX4_init 4 = .ok (.aload_n 0, 1) := by decide +kernel
theorem dX4_init_5 : decode cX4_init 5 = .ok (.bipush 20, 2) := by decide +kernel
theorem dX4_init_7 : decode cX4_init 7 = .ok (.newarray .int, 2) := by decide +kernel
theorem dX4_init_9 : decode cX4_init 9 = .ok (.putfield 9, 3) := by decide +kernel
theorem dX4_init_12 : decode cX4_init 12 = .ok (.aload_n 0, 1) := by decide +kernel
theorem dX4_init_13 : decode cX4_init 13 = .ok (.bipush 20, 2) := by decide +kernel
theorem dX4_init_15 : decode cX4_init 15 = .ok (.newarray .int, 2) := by decide +kernel
theorem dX4_init_17 : decode cX4_init 17 = .ok (.putfield 15, 3) := by decide +kernel
theorem dX4_init_20 : decode cX4_init 20 = .ok (.aload_n 0, 1) := by decide +kernel
theorem dX4_init_21 : decode cX4_init 21 = .ok (.bipush 80, 2) := by decide +kernel
theorem dX4_init_23 : decode cX4_init 23 = .ok (.newarray .int, 2) := by decide +kernel
theorem dX4_init_25 : decode cX4_init 25 = .ok (.putfield 18, 3) := by decide +kernel
theorem dX4_init_28 : decode cX4_init 28 = .ok (.aload_n 0, 1) := by decide +kernel
theorem dX4_init_29 : decode cX4_init 29 = .ok (.bipush 20, 2) := by decide +kernel
theorem dX4_init_31 : decode cX4_init 31 = .ok (.newarray .int, 2) := by decide +kernel
theorem dX4_init_33 : decode cX4_init 33 = .ok (.putfield 21, 3) := by decide +kernel
theorem dX4_init_36 : decode cX4_init 36 = .ok (.aload_n 0, 1) := by decide +kernel
theorem dX4_init_37 : decode cX4_init 37 = .ok (.bipush 20, 2) := by decide +kernel
theorem dX4_init_39 : decode cX4_init 39 = .ok (.newarray .int, 2) := by decide +kernel
theorem dX4_init_41 : decode cX4_init 41 = .ok (.putfield 24, 3) := by decide +kernel
theorem dX4_init_44 : decode cX4_init 44 = .ok (.aload_n 0, 1) := by decide +kernel
theorem dX4_init_45 : decode cX4_init 45 = .ok (.bipush 20, 2) := by decide +kernel
theorem dX4_init_47 : decode cX4_init 47 = .ok (.newarray .int, 2) := by decide +kernel
theorem dX4_init_49 : decode cX4_init 49 = .ok (.putfield 27, 3) := by decide +kernel
theorem dX4_init_52 : decode cX4_init 52 = .ok (.aload_n 0, 1) := by decide +kernel
theorem dX4_init_53 : decode cX4_init 53 = .ok (.bipush 20, 2) := by decide +kernel
theorem dX4_init_55 : decode cX4_init 55 = .ok (.newarray .int, 2) := by decide +kernel
theorem dX4_init_57 : decode cX4_init 57 = .ok (.putfield 30, 3) := by decide +kernel
theorem dX4_init_60 : decode cX4_init 60 = .ok (.aload_n 0, 1) := by decide +kernel
theorem dX4_init_61 : decode cX4_init 61 = .ok (.bipush 20, 2) := by decide +kernel
theorem dX4_init_63 : decode cX4_init 63 = .ok (.newarray .int, 2) := by decide +kernel
theorem dX4_init_65 : decode cX4_init 65 = .ok (.putfield 33, 3) := by decide +kernel
theorem dX4_init_68 : decode cX4_init 68 = .ok (.aload_n 0, 1) := by decide +kernel
theorem dX4_init_69 : decode cX4_init 69 = .ok (.bipush 60, 2) := by decide +kernel
theorem dX4_init_71 : decode cX4_init 71 = .ok (.newarray .int, 2) := by decide +kernel
theorem dX4_init_73 : decode cX4_init 73 = .ok (.putfield 38, 3) := by decide +kernel
theorem dX4_init_76 : decode cX4_init 76 = .ok (.aload_n 0, 1) := by decide +kernel
theorem dX4_init_77 : decode cX4_init 77 = .ok (.iconst 3, 1) := by decide +kernel
theorem dX4_init_78 : decode cX4_init 78 = .ok (.newarray .int, 2) := by decide +kernel
theorem dX4_init_80 : decode cX4_init 80 = .ok (.dup, 1) := by decide +kernel
theorem dX4_init_81 : decode cX4_init 81 = .ok (.iconst 0, 1) := by decide +kernel
theorem dX4_init_82 : decode cX4_init 82 = .ok (.bipush 30, 2) := by decide +kernel
theorem dX4_init_84 : decode cX4_init 84 = .ok (.iastore, 1) := by decide +kernel
theorem dX4_init_85 : decode cX4_init 85 = .ok (.dup, 1) := by decide +kernel
theorem dX4_init_86 : decode cX4_init 86 = .ok (.iconst 1, 1) := by decide +kernel
theorem dX4_init_87 : decode cX4_init 87 = .ok (.bipush 60, 2) := by decide +kernel
theorem dX4_init_89 : decode cX4_init 89 = .ok (.iastore, 1) := by decide +kernel
theorem dX4_init_90 : decode cX4_init 90 = .ok (.dup, 1) := by decide +kernel
theorem dX4_init_91 : decode cX4_init 91 = .ok (.iconst 2, 1) := by decide +kernel
theorem dX4_init_92 : decode cX4_init 92 = .ok (.iconst 1, 1) := by decide +kernel
theorem dX4_init_93 : decode cX4_init 93 = .ok (.iastore, 1) := by decide +kernel
theorem dX4_init_94 : decode cX4_init 94 = .ok (.putfield 41, 3) := by decide +kernel
theorem dX4_init_97 : decode cX4_init 97 = .ok (.aload_n 0, 1) := by decide +kernel
theorem dX4_init_98 : decode cX4_init 98 = .ok (.new 44, 3) := by decide +kernel
theorem dX4_init_101 : decode cX4_init 101 = .ok (.dup, 1) := by decide +kernel
theorem dX4_init_102 : decode cX4_init 102 = .ok (.invokespecial 46, 3) := by decide +kernel
theorem dX4_init_105 : decode cX4_init 105 = .ok (.putfield 47, 3) := by decide +kernel
theorem dX4_init_108 : decode cX4_init 108 = .ok (.iconst 0, 1) := by decide +kernel
theorem dX4_init_109 : decode cX4_init 109 = .ok (.istore_n 1, 1) := by decide +kernel
theorem dX4_init_110 : decode cX4_init 110 = .ok (.iload_n 1, 1) := by decide +kernel
theorem dX4_init_111 : decode cX4_init 111 = .ok (.bipush 60, 2) := by decide +kernel
theorem dX4_init_113 : decode cX4_init 113 = .ok (.if_icmp .ge 16, 3) := by decide +kernel
theorem dX4_init_116 : decode cX4_init 116 = .ok (.aload_n 0, 1) := by decide +kernel
theorem dX4_init_117 : decode cX4_init 117 = .ok (.getfield 38, 3) := by decide +kernel
theorem dX4_init_120 : decode cX4_init 120 = .ok (.iload_n 1, 1) := by decide +kernel
theorem dX4_init_121 : decode cX4_init 121 = .ok (.iconst (-1), 1) := by decide +kernel
theorem dX4_init_122 : decode cX4_init 122 = .ok (.iastore, 1) := by decide +kernel
theorem dX4_init_123 : decode cX4_init 123 = .ok (.iinc 1 1, 3) := by decide +kernel
theorem dX4_init_126 : decode cX4_init 126 = .ok (.goto (-16), 3) := by decide +kernel
theorem dX4_init_129 : decode cX4_init 129 = .ok (.return_, 1) := by decide +kernel
set_option maxRecDepth 20000 in
theorem ggX4_copyFrom_X4_copyRow : GoodIn wsX4_copyFrom wsX4_copyRow := goodIn_r _ [17, 18, 19, 20, 21, 22, 23, 24, 25] (by decide +kernel) (by decide +kernel)
set_option maxRecDepth 20000 in
theorem gX4_copyFrom_X4_copyRow : GoodIn wsX4_copyFrom (va_wsS RX4 51 yX4_copyRow wsX4_copyRow) := goodIn_app (goodIn_of _ (by decide +kernel)) ggX4_copyFrom_X4_copyRow
set_option maxRecDepth 20000 in
theorem ggX4_copyFrom_X0_copyFrom : GoodIn wsX4_copyFrom wsX0_copyFrom := goodIn_r _ [30, 31, 32, 33, 34, 35, 36, 37, 51, 52, 53, 54, 55, 56, 57] (by decide +kernel) (by decide +kernel)
set_option maxRecDepth 20000 in
theorem gX4_copyFrom_X0_copyFrom : GoodIn wsX4_copyFrom (wsV RX4 55 RX0 yX0_copyFrom wsX0_copyFrom) := goodIn_app (goodIn_of _ (by decide +kernel)) ggX4_copyFrom_X0_copyFrom
theorem dX4_copyFrom_0 : decode cX4_copyFrom 0 = .ok (.aload_n 1, 1) := by decide +kernel
theorem dX4_copyFrom_1 : decode cX4_copyFrom 1 = .ok (.getfield 9, 3) := by decide +kernel
theorem dX4_copyFrom_4 : decode cX4_copyFrom 4 = .ok (.aload_n 0, 1) := by decide +kernel
theorem dX4_copyFrom_5 : decode cX4_copyFrom 5 = .ok (.getfield 9, 3) := by decide +kernel
theorem dX4_copyFrom_8 : decode cX4_copyFrom 8 = .ok (.invokestatic 51, 3) := by decide +kernel
theorem dX4_copyFrom_11 : decode cX4_copyFrom 11 = .ok (.aload_n 1, 1) := by decide +kernel
theorem dX4_copyFrom_12 : decode cX4_copyFrom 12 = .ok (.getfield 15, 3) := by decide +kernel
theorem dX4_copyFrom_15 : decode cX4_copyFrom 15 = .ok (.aload_n 0, 1) := by decide +kernel
theorem dX4_copyFrom_16 : decode cX4_copyFrom 16 = .ok (.getfield 15, 3) := by decide +kernel
theorem dX4_copyFrom_19 : decode cX4_copyFrom 19 = .ok (.invokestatic 51, 3) := by decide +kernel
theorem dX4_copyFrom_22 : decode cX4_copyFrom 22 = .ok (.aload_n 1, 1) := by decide +kernel
theorem dX4_copyFrom_23 : decode cX4_copyFrom 23 = .ok (.getfield 18, 3) := by decide +kernel
theorem dX4_copyFrom_26 : decode cX4_copyFrom 26 = .ok (.aload_n 0, 1) := by decide +kernel
theorem dX4_copyFrom_27 : decode cX4_copyFrom 27 = .ok (.getfield 18, 3) := by decide +kernel
theorem dX4_copyFrom_30 : decode cX4_copyFrom 30 = .ok (.invokestatic 51, 3) := by decide +kernel
theorem dX4_copyFrom_33 : decode cX4_copyFrom 33 = .ok (.aload_n 1, 1) := by decide +kernel
theorem dX4_copyFrom_34 : decode cX4_copyFrom 34 = .ok (.getfield 21, 3) := by decide +kernel
theorem dX4_copyFrom_37 : decode cX4_copyFrom 37 = .ok (.aload_n 0, 1) := by decide +kernel
theorem dX4_copyFrom_38 : decode cX4_copyFrom 38 = .ok (.getfield 21, 3) := by decide +kernel
theorem dX4_copyFrom_41 : decode cX4_copyFrom 41 = .ok (.invokestatic 51, 3) := by decide +kernel
theorem dX4_copyFrom_44 : decode cX4_copyFrom 44 = .ok (.aload_n 1, 1) := by decide +kernel
theorem dX4_copyFrom_45 : decode cX4_copyFrom 45 = .ok (.getfield 24, 3) := by decide +kernel
theorem dX4_copyFrom_48 : decode cX4_copyFrom 48 = .ok (.aload_n 0, 1) := by decide +kernel
theorem dX4_copyFrom_49 : decode cX4_copyFrom 49 = .ok (.getfield 24, 3) := by decide +kernel
theorem dX4_copyFrom_52 : decode cX4_copyFrom 52 = .ok (.invokestatic 51, 3) := by decide +kernel
theorem dX4_copyFrom_55 : decode cX4_copyFrom 55 = .ok (.aload_n 1, 1) := by decide +kernel
theorem dX4_copyFrom_56 : decode cX4_copyFrom 56 = .ok (.getfield 27, 3) := by decide +kernel
theorem dX4_copyFrom_59 : decode cX4_copyFrom 59 = .ok (.aload_n 0, 1) := by decide +kernel
theorem dX4_copyFrom_60 : decode cX4_copyFrom 60 = .ok (.getfield 27, 3) := by decide +kernel
theorem dX4_copyFrom_63 : decode cX4_copyFrom 63 = .ok (.invokestatic 51, 3) := by decide +kernel
theorem dX4_copyFrom_66 : decode cX4_copyFrom 66 = .ok (.aload_n 1, 1) := by decide +kernel
theorem dX4_copyFrom_67 : decode cX4_copyFrom 67 = .ok (.getfield 30, 3) := by decide +kernel
theorem dX4_copyFrom_70 : decode cX4_copyFrom 70 = .ok (.aload_n 0, 1) := by decide +kernel
theorem dX4_copyFrom_71 : decode cX4_copyFrom 71 = .ok (.getfield 30, 3) := by decide +kernel
theorem dX4_copyFrom_74 : decode cX4_copyFrom 74 = .ok (.invokestatic 51, 3) := by decide +kernel
theorem dX4_copyFrom_77 : decode cX4_copyFrom 77 = .ok (.aload_n 1, 1) := by decide +kernel
theorem dX4_copyFrom_78 : decode cX4_copyFrom 78 = .ok (.getfield 33, 3) := by decide +kernel
theorem dX4_copyFrom_81 : decode cX4_copyFrom 81 = .ok (.aload_n 0, 1) := by decide +kernel
theorem dX4_copyFrom_82 : decode cX4_copyFrom 82 = .ok (.getfield 33, 3) := by decide +kernel
theorem dX4_copyFrom_85 : decode cX4_copyFrom 85 = .ok (.invokestatic 51, 3) := by decide +kernel
theorem dX4_copyFrom_88 : decode cX4_copyFrom 88 = .ok (.aload_n 1, 1) := by decide +kernel
theorem dX4_copyFrom_89 : decode cX4_copyFrom 89 = .ok (.getfield 38, 3) := by decide +kernel
theorem dX4_copyFrom_92 : decode cX4_copyFrom 92 = .ok (.aload_n 0, 1) := by decide +kernel
theorem dX4_copyFrom_93 : decode cX4_copyFrom 93 = .ok (.getfield 38, 3) := by decide +kernel
theorem dX4_copyFrom_96 : decode cX4_copyFrom 96 = .ok (.invokestatic 51, 3) := by decide +kernel
theorem dX4_copyFrom_99 : decode cX4_copyFrom 99 = .ok (.aload_n 1, 1) := by decide +kernel
theorem dX4_copyFrom_100 : decode cX4_copyFrom 100 = .ok (.getfield 41, 3) := by decide +kernel
theorem dX4_copyFrom_103 : decode cX4_copyFrom 103 = .ok (.aload_n 0, 1) := by decide +kernel
theorem dX4_copyFrom_104 : decode cX4_copyFrom 104 = .ok (.getfield 41, 3) := by decide +kernel
theorem dX4_copyFrom_107 : decode cX4_copyFrom 107 = .ok (.invokestatic 51, 3) := by decide +kernel
theorem dX4_copyFrom_110 : decode cX4_copyFrom 110 = .ok (.aload_n 0, 1) := by decide +kernel
theorem dX4_copyFrom_111 : decode cX4_copyFrom 111 = .ok (.getfield 47, 3) := by decide +kernel
theorem dX4_copyFrom_114 : decode cX4_copyFrom 114 = .ok (.aload_n 1, 1) := by decide +kernel
theorem dX4_copyFrom_115 : decode cX4_copyFrom 115 = .ok (.getfield 47, 3) := by decide +kernel
theorem dX4_copyFrom_118 : decode cX4_copyFrom 118 = .ok (.invokevirtual 55, 3) := by decide +kernel
theorem dX4_copyFrom_121 : decode cX4_copyFrom 121 = .ok (.aload_n 0, 1) := by decide +kernel
theorem dX4_copyFrom_122 : decode cX4_copyFrom 122 = .ok (.aload_n 1, 1) := by decide +kernel
theorem dX4_copyFrom_123 : decode cX4_copyFrom 123 = .ok (.getfield 59, 3) := by decide +kernel
theorem dX4_copyFrom_126 : decode cX4_copyFrom 126 = .ok (.putfield 59, 3) := by decide +kernel
theorem dX4_copyFrom_129 : decode cX4_copyFrom 129 = .ok (.aload_n 0, 1) := by decide +kernel
theorem dX4_copyFrom_130 : decode cX4_copyFrom 130 = .ok (.aload_n 1, 1) := by decide +kernel
theorem dX4_copyFrom_131 : decode cX4_copyFrom 131 = .ok (.getfield 63, 3) := by decide +kernel
theorem dX4_copyFrom_134 : decode cX4_copyFrom 134 = .ok (.putfield 63, 3) := by decide +kernel
theorem dX4_copyFrom_137 : decode cX4_copyFrom 137 = .ok (.return_, 1) := by decide +kernel
theorem dX4_copyRow_0 : decode cX4_copyRow 0 = .ok (.aload_n 0, 1) := by decide +kernel
theorem dX4_copyRow_1 : decode cX4_copyRow 1 = .ok (.iconst 0, 1) := by decide +kernel
theorem dX4_copyRow_2 : decode cX4_copyRow 2 = .ok (.aload_n 1, 1) := by decide +kernel
theorem dX4_copyRow_3 : decode cX4_copyRow 3 = .ok (.iconst 0, 1) := by decide +kernel
theorem dX4_copyRow_4 : decode cX4_copyRow 4 = .ok (.aload_n 0, 1) := by decide +kernel
theorem dX4_copyRow_5 : decode cX4_copyRow 5 = .ok (.arraylength, 1) := by decide +kernel
theorem dX4_copyRow_6 : decode cX4_copyRow 6 = .ok (.aload_n 1, 1) := by decide +kernel
theorem dX4_copyRow_7 : decode cX4_copyRow 7 = .ok (.arraylength, 1) := by decide +kernel
theorem dX4_copyRow_8 : decode cX4_copyRow 8 = .ok (.invokestatic 66, 3) := by decide +kernel
theorem dX4_copyRow_11 : decode cX4_copyRow 11 = .ok (.invokestatic 72, 3) := by decide +kernel
theorem dX4_copyRow_14 : decode cX4_copyRow 14 = .ok (.return_, 1) := by decide +kernel
theorem dX4_isGood_0 : decode cX4_isGood 0 = .ok (.iload_n 1, 1) := by decide +kernel
theorem dX4_isGood_1 : decode cX4_isGood 1 = .ok (.ifCond .lt 15, 3) := by decide +kernel
theorem dX4_isGood_4 : decode cX4_isGood 4 = .ok (.iload_n 1, 1) := by decide +kernel
theorem dX4_isGood_5 : decode cX4_isGood 5 = .ok (.aload_n 0, 1) := by decide +kernel
theorem dX4_isGood_6 : decode cX4_isGood 6 = .ok (.getfield 59, 3) := by decide +kernel
theorem dX4_isGood_9 : decode cX4_isGood 9 = .ok (.if_icmp .ge 7, 3) := by decide +kernel
theorem dX4_isGood_12 : decode cX4_isGood 12 = .ok (.iconst 1, 1) := by decide +kernel
theorem dX4_isGood_13 : decode cX4_isGood 13 = .ok (.goto 4, 3) := by decide +kernel
theorem dX4_isGood_16 : decode cX4_isGood 16 = .ok (.iconst 0, 1) := by decide +kernel
theorem dX4_isGood_17 : decode cX4_isGood 17 = .ok (.ireturn, 1) := by decide +kernel
theorem dX4_presentSeason_0 : decode cX4_presentSeason 0 = .ok (.aload_n 0, 1) := by decide +kernel
theorem dX4_presentSeason_1 : decode cX4_presentSeason 1 = .ok (.getfield 63, 3) := by decide +kernel
theorem dX4_presentSeason_4 : decode cX4_presentSeason 4 = .ok (.bipush 13, 2) := by decide +kernel
theorem dX4_presentSeason_6 : decode cX4_presentSeason 6 = .ok (.idiv, 1) := by decide +kernel
theorem dX4_presentSeason_7 : decode cX4_presentSeason 7 = .ok (.iconst 4, 1) := by decide +kernel
theorem dX4_presentSeason_8 : decode cX4_presentSeason 8 = .ok (.irem, 1) := by decide +kernel
theorem dX4_presentSeason_9 : decode cX4_presentSeason 9 = .ok (.ireturn, 1) := by decide +kernel
theorem dX4_weeksLeft_0 : decode cX4_weeksLeft 0 = .ok (.bipush 13, 2) := by decide +kernel
theorem dX4_weeksLeft_2 : decode cX4_weeksLeft 2 = .ok (.aload_n 0, 1) := by decide +kernel
theorem dX4_weeksLeft_3 : decode cX4_weeksLeft 3 = .ok (.getfield 63, 3) := by decide +kernel
theorem dX4_weeksLeft_6 : decode cX4_weeksLeft 6 = .ok (.bipush 13, 2) := by decide +kernel
theorem dX4_weeksLeft_8 : decode cX4_weeksLeft 8 = .ok (.irem, 1) := by decide +kernel
theorem dX4_weeksLeft_9 : decode cX4_weeksLeft 9 = .ok (.isub, 1) := by decide +kernel
theorem dX4_weeksLeft_10 : decode cX4_weeksLeft 10 = .ok (.ireturn, 1) := by decide +kernel
theorem dX4_demandOf_0 : decode cX4_demandOf 0 = .ok (.aload_n 0, 1) := by decide +kernel
theorem dX4_demandOf_1 : decode cX4_demandOf 1 = .ok (.getfield 18, 3) := by decide +kernel
theorem dX4_demandOf_4 : decode cX4_demandOf 4 = .ok (.iload_n 1, 1) := by decide +kernel
theorem dX4_demandOf_5 : decode cX4_demandOf 5 = .ok (.iconst 4, 1) := by decide +kernel
theorem dX4_demandOf_6 : decode cX4_demandOf 6 = .ok (.imul, 1) := by decide +kernel
theorem dX4_demandOf_7 : decode cX4_demandOf 7 = .ok (.iload_n 2, 1) := by decide +kernel
theorem dX4_demandOf_8 : decode cX4_demandOf 8 = .ok (.iadd, 1) := by decide +kernel
theorem dX4_demandOf_9 : decode cX4_demandOf 9 = .ok (.iaload, 1) := by decide +kernel
theorem dX4_demandOf_10 : decode cX4_demandOf 10 = .ok (.ireturn, 1) := by decide +kernel
set_option maxRecDepth 20000 in
theorem ggX4_isPlaced_X2_isSlot : GoodIn wsX4_isPlaced wsX2_isSlot := goodIn_r _ [5] (by decide +kernel) (by decide +kernel)
set_option maxRecDepth 20000 in
theorem gX4_isPlaced_X2_isSlot : GoodIn wsX4_isPlaced (va_wsS RX4 78 yX2_isSlot wsX2_isSlot) := goodIn_app (goodIn_of _ (by decide +kernel)) ggX4_isPlaced_X2_isSlot
theorem dX4_isPlaced_0 : decode cX4_isPlaced 0 = .ok (.aload_n 0, 1) := by decide +kernel
theorem dX4_isPlaced_1 : decode cX4_isPlaced 1 = .ok (.getfield 21, 3) := by decide +kernel
theorem dX4_isPlaced_4 : decode cX4_isPlaced 4 = .ok (.iload_n 1, 1) := by decide +kernel
theorem dX4_isPlaced_5 : decode cX4_isPlaced 5 = .ok (.iaload, 1) := by decide +kernel
theorem dX4_isPlaced_6 : decode cX4_isPlaced 6 = .ok (.invokestatic 78, 3) := by decide +kernel
theorem dX4_isPlaced_9 : decode cX4_isPlaced 9 = .ok (.ireturn, 1) := by decide +kernel
set_option maxRecDepth 20000 in
theorem ggX4_bears_X2_heaviestAt : GoodIn wsX4_bears wsX2_heaviestAt := goodIn_r _ [5, 6] (by decide +kernel) (by decide +kernel)
set_option maxRecDepth 20000 in
theorem gX4_bears_X2_heaviestAt : GoodIn wsX4_bears (va_wsS RX4 82 yX2_heaviestAt wsX2_heaviestAt) := goodIn_app (goodIn_of _ (by decide +kernel)) ggX4_bears_X2_heaviestAt
theorem dX4_bears_0 : decode cX4_bears 0 = .ok (.aload_n 0, 1) := by decide +kernel
theorem dX4_bears_1 : decode cX4_bears 1 = .ok (.getfield 9, 3) := by decide +kernel
theorem dX4_bears_4 : decode cX4_bears 4 = .ok (.iload_n 2, 1) := by decide +kernel
theorem dX4_bears_5 : decode cX4_bears 5 = .ok (.iaload, 1) := by decide +kernel
theorem dX4_bears_6 : decode cX4_bears 6 = .ok (.iload_n 1, 1) := by decide +kernel
theorem dX4_bears_7 : decode cX4_bears 7 = .ok (.invokestatic 82, 3) := by decide +kernel
theorem dX4_bears_10 : decode cX4_bears 10 = .ok (.if_icmp .gt 7, 3) := by decide +kernel
theorem dX4_bears_13 : decode cX4_bears 13 = .ok (.iconst 1, 1) := by decide +kernel
theorem dX4_bears_14 : decode cX4_bears 14 = .ok (.goto 4, 3) := by decide +kernel
theorem dX4_bears_17 : decode cX4_bears 17 = .ok (.iconst 0, 1) := by decide +kernel
theorem dX4_bears_18 : decode cX4_bears 18 = .ok (.ireturn, 1) := by decide +kernel
set_option maxRecDepth 20000 in
theorem ggX4_addGood_X5_isIn : GoodIn wsX4_addGood wsX5_isIn := goodIn_r _ [7] (by decide +kernel) (by decide +kernel)
set_option maxRecDepth 20000 in
theorem gX4_addGood_X5_isIn_n86 : GoodIn wsX4_addGood (wsX5_isIn) := ggX4_addGood_X5_isIn
theorem dX4_addGood_0 : decode cX4_addGood 0 = .ok (.iload_n 1, 1) := by decide +kernel
theorem dX4_addGood_1 : decode cX4_addGood 1 = .ok (.iconst 1, 1) := by decide +kernel
theorem dX4_addGood_2 : decode cX4_addGood 2 = .ok (.bipush 40, 2) := by decide +kernel
theorem dX4_addGood_4 : decode cX4_addGood 4 = .ok (.invokestatic 86, 3) := by decide +kernel
theorem dX4_addGood_7 : decode cX4_addGood 7 = .ok (.ifCond .eq 14, 3) := by decide +kernel
theorem dX4_addGood_10 : decode cX4_addGood 10 = .ok (.iload_n 2, 1) := by decide +kernel
theorem dX4_addGood_11 : decode cX4_addGood 11 = .ok (.iconst 1, 1) := by decide +kernel
theorem dX4_addGood_12 : decode cX4_addGood 12 = .ok (.sipush 200, 3) := by decide +kernel
theorem dX4_addGood_15 : decode cX4_addGood 15 = .ok (.invokestatic 86, 3) := by decide +kernel
theorem dX4_addGood_18 : decode cX4_addGood 18 = .ok (.ifCond .ne 5, 3) := by decide +kernel
theorem dX4_addGood_21 : decode cX4_addGood 21 = .ok (.iconst (-1), 1) := by decide +kernel
theorem dX4_addGood_22 : decode cX4_addGood 22 = .ok (.ireturn, 1) := by decide +kernel
theorem dX4_addGood_23 : decode cX4_addGood 23 = .ok (.aload_n 0, 1) := by decide +kernel
theorem dX4_addGood_24 : decode cX4_addGood 24 = .ok (.getfield 59, 3) := by decide +kernel
theorem dX4_addGood_27 : decode cX4_addGood 27 = .ok (.bipush 20, 2) := by decide +kernel
theorem dX4_addGood_29 : decode cX4_addGood 29 = .ok (.if_icmp .lt 6, 3) := by decide +kernel
theorem dX4_addGood_32 : decode cX4_addGood 32 = .ok (.bipush (-3), 2) := by decide +kernel
theorem dX4_addGood_34 : decode cX4_addGood 34 = .ok (.ireturn, 1) := by decide +kernel
theorem dX4_addGood_35 : decode cX4_addGood 35 = .ok (.aload_n 0, 1) := by decide +kernel
theorem dX4_addGood_36 : decode cX4_addGood 36 = .ok (.getfield 9, 3) := by decide +kernel
theorem dX4_addGood_39 : decode cX4_addGood 39 = .ok (.aload_n 0, 1) := by decide +kernel
theorem dX4_addGood_40 : decode cX4_addGood 40 = .ok (.getfield 59, 3) := by decide +kernel
theorem dX4_addGood_43 : decode cX4_addGood 43 = .ok (.iload_n 1, 1) := by decide +kernel
theorem dX4_addGood_44 : decode cX4_addGood 44 = .ok (.iastore, 1) := by decide +kernel
theorem dX4_addGood_45 : decode cX4_addGood 45 = .ok (.aload_n 0, 1) := by decide +kernel
theorem dX4_addGood_46 : decode cX4_addGood 46 = .ok (.getfield 15, 3) := by decide +kernel
theorem dX4_addGood_49 : decode cX4_addGood 49 = .ok (.aload_n 0, 1) := by decide +kernel
theorem dX4_addGood_50 : decode cX4_addGood 50 = .ok (.getfield 59, 3) := by decide +kernel
theorem dX4_addGood_53 : decode cX4_addGood 53 = .ok (.iload_n 2, 1) := by decide +kernel
theorem dX4_addGood_54 : decode cX4_addGood 54 = .ok (.iastore, 1) := by decide +kernel
theorem dX4_addGood_55 : decode cX4_addGood 55 = .ok (.aload_n 0, 1) := by decide +kernel
theorem dX4_addGood_56 : decode cX4_addGood 56 = .ok (.getfield 21, 3) := by decide +kernel
theorem dX4_addGood_59 : decode cX4_addGood 59 = .ok (.aload_n 0, 1) := by decide +kernel
theorem dX4_addGood_60 : decode cX4_addGood 60 = .ok (.getfield 59, 3) := by decide +kernel
theorem dX4_addGood_63 : decode cX4_addGood 63 = .ok (.iconst (-1), 1) := by decide +kernel
theorem dX4_addGood_64 : decode cX4_addGood 64 = .ok (.iastore, 1) := by decide +kernel
theorem dX4_addGood_65 : decode cX4_addGood 65 = .ok (.aload_n 0, 1) := by decide +kernel
theorem dX4_addGood_66 : decode cX4_addGood 66 = .ok (.dup, 1) := by decide +kernel
theorem dX4_addGood_67 : decode cX4_addGood 67 = .ok (.getfield 59, 3) := by decide +kernel
theorem dX4_addGood_70 : decode cX4_addGood 70 = .ok (.iconst 1, 1) := by decide +kernel
theorem dX4_addGood_71 : decode cX4_addGood 71 = .ok (.iadd, 1) := by decide +kernel
theorem dX4_addGood_72 : decode cX4_addGood 72 = .ok (.putfield 59, 3) := by decide +kernel
theorem dX4_addGood_75 : decode cX4_addGood 75 = .ok (.aload_n 0, 1) := by decide +kernel
theorem dX4_addGood_76 : decode cX4_addGood 76 = .ok (.getfield 59, 3) := by decide +kernel
theorem dX4_addGood_79 : decode cX4_addGood 79 = .ok (.iconst 1, 1) := by decide +kernel
theorem dX4_addGood_80 : decode cX4_addGood 80 = .ok (.isub, 1) := by decide +kernel
theorem dX4_addGood_81 : decode cX4_addGood 81 = .ok (.ireturn, 1) := by decide +kernel
set_option maxRecDepth 20000 in
theorem ggX4_changeDemand_X4_isGood : GoodIn wsX4_changeDemand wsX4_isGood := goodIn_r _ [6, 7, 17, 18, 19, 20, 21, 22, 23, 24, 25, 26, 27, 28, 29] (by decide +kernel) (by decide +kernel)
set_option maxRecDepth 20000 in
theorem gX4_changeDemand_X4_isGood : GoodIn wsX4_changeDemand (wsV RX4 90 RX4 yX4_isGood wsX4_isGood) := goodIn_app (goodIn_of _ (by decide +kernel)) ggX4_changeDemand_X4_isGood
set_option maxRecDepth 20000 in
theorem ggX4_changeDemand_X5_isSeason : GoodIn wsX4_changeDemand wsX5_isSeason := goodIn_r _ [10] (by decide +kernel) (by decide +kernel)
set_option maxRecDepth 20000 in
theorem gX4_changeDemand_X5_isSeason_n93 : GoodIn wsX4_changeDemand (wsX5_isSeason) := ggX4_changeDemand_X5_isSeason
set_option maxRecDepth 20000 in
theorem ggX4_changeDemand_X5_isIn : GoodIn wsX4_changeDemand wsX5_isIn := goodIn_r _ [12] (by decide +kernel) (by decide +kernel)
set_option maxRecDepth 20000 in
theorem gX4_changeDemand_X5_isIn_n86 : GoodIn wsX4_changeDemand (wsX5_isIn) := ggX4_changeDemand_X5_isIn
set_option maxRecDepth 20000 in
theorem ggX4_changeDemand_X4_demandOf : GoodIn wsX4_changeDemand wsX4_demandOf := goodIn_r _ [16, 1, 17, 18, 19, 20, 21, 22, 23, 24, 25, 26, 27, 28, 29] (by decide +kernel) (by decide +kernel)
set_option maxRecDepth 20000 in
theorem gX4_changeDemand_X4_demandOf : GoodIn wsX4_changeDemand (wsV RX4 96 RX4 yX4_demandOf wsX4_demandOf) := goodIn_app (goodIn_of _ (by decide +kernel)) ggX4_changeDemand_X4_demandOf
theorem dX4_changeDemand_0 : decode cX4_changeDemand 0 = .ok (.aload_n 0, 1) := by decide +kernel
theorem dX4_changeDemand_1 : decode cX4_changeDemand 1 = .ok (.iload_n 1, 1) := by decide +kernel
theorem dX4_changeDemand_2 : decode cX4_changeDemand 2 = .ok (.invokevirtual 90, 3) := by decide +kernel
theorem dX4_changeDemand_5 : decode cX4_changeDemand 5 = .ok (.ifCond .eq 21, 3) := by decide +kernel
theorem dX4_changeDemand_8 : decode cX4_changeDemand 8 = .ok (.iload_n 2, 1) := by decide +kernel
theorem dX4_changeDemand_9 : decode cX4_changeDemand 9 = .ok (.invokestatic 93, 3) := by decide +kernel
theorem dX4_changeDemand_12 : decode cX4_changeDemand 12 = .ok (.ifCond .eq 14, 3) := by decide +kernel
theorem dX4_changeDemand_15 : decode cX4_changeDemand 15 = .ok (.iload_n 3, 1) := by decide +kernel
theorem dX4_changeDemand_16 : decode cX4_changeDemand 16 = .ok (.iconst 0, 1) := by decide +kernel
theorem dX4_changeDemand_17 : decode cX4_changeDemand 17 = .ok (.sipush 999, 3) := by decide +kernel
theorem dX4_changeDemand_20 : decode cX4_changeDemand 20 = .ok (.invokestatic 86, 3) := by decide +kernel
theorem dX4_changeDemand_23 : decode cX4_changeDemand 23 = .ok (.ifCond .ne 5, 3) := by decide +kernel
theorem dX4_changeDemand_26 : decode cX4_changeDemand 26 = .ok (.iconst (-1), 1) := by decide +kernel
theorem dX4_changeDemand_27 : decode cX4_changeDemand 27 = .ok (.ireturn, 1) := by decide +kernel
theorem dX4_changeDemand_28 : decode cX4_changeDemand 28 = .ok (.aload_n 0, 1) := by decide +kernel
theorem dX4_changeDemand_29 : decode cX4_changeDemand 29 = .ok (.iload_n 1, 1) := by decide +kernel
theorem dX4_changeDemand_30 : decode cX4_changeDemand 30 = .ok (.iload_n 2, 1) := by decide +kernel
theorem dX4_changeDemand_31 : decode cX4_changeDemand 31 = .ok (.invokevirtual 96, 3) := by decide +kernel
theorem dX4_changeDemand_34 : decode cX4_changeDemand 34 = .ok (.istore 4, 2) := by decide +kernel
theorem dX4_changeDemand_36 : decode cX4_changeDemand 36 = .ok (.aload_n 0, 1) := by decide +kernel
theorem dX4_changeDemand_37 : decode cX4_changeDemand 37 = .ok (.getfield 18, 3) := by decide +kernel
theorem dX4_changeDemand_40 : decode cX4_changeDemand 40 = .ok (.iload_n 1, 1) := by decide +kernel
theorem dX4_changeDemand_41 : decode cX4_changeDemand 41 = .ok (.iconst 4, 1) := by decide +kernel
theorem dX4_changeDemand_42 : decode cX4_changeDemand 42 = .ok (.imul, 1) := by decide +kernel
theorem dX4_changeDemand_43 : decode cX4_changeDemand 43 = .ok (.iload_n 2, 1) := by decide +kernel
theorem dX4_changeDemand_44 : decode cX4_changeDemand 44 = .ok (.iadd, 1) := by decide +kernel
theorem dX4_changeDemand_45 : decode cX4_changeDemand 45 = .ok (.iload_n 3, 1) := by decide +kernel
theorem dX4_changeDemand_46 : decode cX4_changeDemand 46 = .ok (.iastore, 1) := by decide +kernel
theorem dX4_changeDemand_47 : decode cX4_changeDemand 47 = .ok (.iload 4, 2) := by decide +kernel
theorem dX4_changeDemand_49 : decode cX4_changeDemand 49 = .ok (.ireturn, 1) := by decide +kernel
set_option maxRecDepth 20000 in
theorem ggX4_addToStore_X4_isGood : GoodIn wsX4_addToStore wsX4_isGood := goodIn_r _ [7, 8, 12, 13, 14, 15, 16, 17, 18, 19, 20, 21, 22, 23, 24] (by decide +kernel) (by decide +kernel)
set_option maxRecDepth 20000 in
theorem gX4_addToStore_X4_isGood : GoodIn wsX4_addToStore (wsV RX4 90 RX4 yX4_isGood wsX4_isGood) := goodIn_app (goodIn_of _ (by decide +kernel)) ggX4_addToStore_X4_isGood
set_option maxRecDepth 20000 in
theorem ggX4_addToStore_X5_isIn : GoodIn wsX4_addToStore wsX5_isIn := goodIn_r _ [11] (by decide +kernel) (by decide +kernel)
set_option maxRecDepth 20000 in
theorem gX4_addToStore_X5_isIn_n86 : GoodIn wsX4_addToStore (wsX5_isIn) := ggX4_addToStore_X5_isIn
theorem dX4_addToStore_0 : decode cX4_addToStore 0 = .ok (.aload_n 0, 1) := by decide +kernel
theorem dX4_addToStore_1 : decode cX4_addToStore 1 = .ok (.iload_n 1, 1) := by decide +kernel
theorem dX4_addToStore_2 : decode cX4_addToStore 2 = .ok (.invokevirtual 90, 3) := by decide +kernel
theorem dX4_addToStore_5 : decode cX4_addToStore 5 = .ok (.ifCond .eq 14, 3) := by decide +kernel
theorem dX4_addToStore_8 : decode cX4_addToStore 8 = .ok (.iload_n 2, 1) := by decide +kernel
theorem dX4_addToStore_9 : decode cX4_addToStore 9 = .ok (.iconst 1, 1) := by decide +kernel
theorem dX4_addToStore_10 : decode cX4_addToStore 10 = .ok (.sipush 5000, 3) := by decide +kernel
theorem dX4_addToStore_13 : decode cX4_addToStore 13 = .ok (.invokestatic 86, 3) := by decide +kernel
theorem dX4_addToStore_16 : decode cX4_addToStore 16 = .ok (.ifCond .ne 5, 3) := by decide +kernel
theorem dX4_addToStore_19 : decode cX4_addToStore 19 = .ok (.iconst (-1), 1) := by decide +kernel
theorem dX4_addToStore_20 : decode cX4_addToStore 20 = .ok (.ireturn, 1) := by decide +kernel
theorem dX4_addToStore_21 : decode cX4_addToStore 21 = .ok (.aload_n 0, 1) := by decide +kernel
theorem dX4_addToStore_22 : decode cX4_addToStore 22 = .ok (.getfield 27, 3) := by decide +kernel
theorem dX4_addToStore_25 : decode cX4_addToStore 25 = .ok (.iload_n 1, 1) := by decide +kernel
theorem dX4_addToStore_26 : decode cX4_addToStore 26 = .ok (.iaload, 1) := by decide +kernel
theorem dX4_addToStore_27 : decode cX4_addToStore 27 = .ok (.iload_n 2, 1) := by decide +kernel
theorem dX4_addToStore_28 : decode cX4_addToStore 28 = .ok (.iadd, 1) := by decide +kernel
theorem dX4_addToStore_29 : decode cX4_addToStore 29 = .ok (.ldc 99, 2) := by decide +kernel
theorem dX4_addToStore_31 : decode cX4_addToStore 31 = .ok (.if_icmp .le 6, 3) := by decide +kernel
theorem dX4_addToStore_34 : decode cX4_addToStore 34 = .ok (.bipush (-3), 2) := by decide +kernel
theorem dX4_addToStore_36 : decode cX4_addToStore 36 = .ok (.ireturn, 1) := by decide +kernel
theorem dX4_addToStore_37 : decode cX4_addToStore 37 = .ok (.aload_n 0, 1) := by decide +kernel
theorem dX4_addToStore_38 : decode cX4_addToStore 38 = .ok (.getfield 27, 3) := by decide +kernel
theorem dX4_addToStore_41 : decode cX4_addToStore 41 = .ok (.iload_n 1, 1) := by decide +kernel
theorem dX4_addToStore_42 : decode cX4_addToStore 42 = .ok (.dup2, 1) := by decide +kernel
theorem dX4_addToStore_43 : decode cX4_addToStore 43 = .ok (.iaload, 1) := by decide +kernel
theorem dX4_addToStore_44 : decode cX4_addToStore 44 = .ok (.iload_n 2, 1) := by decide +kernel
theorem dX4_addToStore_45 : decode cX4_addToStore 45 = .ok (.iadd, 1) := by decide +kernel
theorem dX4_addToStore_46 : decode cX4_addToStore 46 = .ok (.iastore, 1) := by decide +kernel
theorem dX4_addToStore_47 : decode cX4_addToStore 47 = .ok (.aload_n 0, 1) := by decide +kernel
theorem dX4_addToStore_48 : decode cX4_addToStore 48 = .ok (.getfield 27, 3) := by decide +kernel
theorem dX4_addToStore_51 : decode cX4_addToStore 51 = .ok (.iload_n 1, 1) := by decide +kernel
theorem dX4_addToStore_52 : decode cX4_addToStore 52 = .ok (.iaload, 1) := by decide +kernel
theorem dX4_addToStore_53 : decode cX4_addToStore 53 = .ok (.ireturn, 1) := by decide +kernel
set_option maxRecDepth 20000 in
theorem ggX4_putIntoSlot_X4_isGood : GoodIn wsX4_putIntoSlot wsX4_isGood := goodIn_r _ [6, 7, 34, 35, 36, 37, 38, 39, 40, 41, 42, 43, 44, 45, 46] (by decide +kernel) (by decide +kernel)
set_option maxRecDepth 20000 in
theorem gX4_putIntoSlot_X4_isGood : GoodIn wsX4_putIntoSlot (wsV RX4 90 RX4 yX4_isGood wsX4_isGood) := goodIn_app (goodIn_of _ (by decide +kernel)) ggX4_putIntoSlot_X4_isGood
set_option maxRecDepth 20000 in
theorem ggX4_putIntoSlot_X2_isSlot : GoodIn wsX4_putIntoSlot wsX2_isSlot := goodIn_r _ [11] (by decide +kernel) (by decide +kernel)
set_option maxRecDepth 20000 in
theorem gX4_putIntoSlot_X2_isSlot : GoodIn wsX4_putIntoSlot (va_wsS RX4 78 yX2_isSlot wsX2_isSlot) := goodIn_app (goodIn_of _ (by decide +kernel)) ggX4_putIntoSlot_X2_isSlot
set_option maxRecDepth 20000 in
theorem ggX4_putIntoSlot_X4_isPlaced : GoodIn wsX4_putIntoSlot wsX4_isPlaced := goodIn_r _ [15, 16, 8, 9, 10, 11, 34, 35, 36, 37, 38, 39, 40, 41, 42, 43, 44, 45, 46] (by decide +kernel) (by decide +kernel)
set_option maxRecDepth 20000 in
theorem gX4_putIntoSlot_X4_isPlaced : GoodIn wsX4_putIntoSlot (wsV RX4 100 RX4 yX4_isPlaced wsX4_isPlaced) := goodIn_app (goodIn_of _ (by decide +kernel)) ggX4_putIntoSlot_X4_isPlaced
set_option maxRecDepth 20000 in
theorem ggX4_putIntoSlot_X4_bears : GoodIn wsX4_putIntoSlot wsX4_bears := goodIn_r _ [20, 21, 22, 23, 10, 24, 25, 34, 35, 36, 37, 38, 39, 40, 41, 42, 43, 44, 45, 46] (by decide +kernel) (by decide +kernel)
set_option maxRecDepth 20000 in
theorem gX4_putIntoSlot_X4_bears : GoodIn wsX4_putIntoSlot (wsV RX4 103 RX4 yX4_bears wsX4_bears) := goodIn_app (goodIn_of _ (by decide +kernel)) ggX4_putIntoSlot_X4_bears
set_option maxRecDepth 20000 in
theorem ggX4_putIntoSlot_X4_standIn : GoodIn wsX4_putIntoSlot wsX4_standIn := goodIn_r _ [29, 16, 1, 34, 35, 36, 37, 38, 39, 40, 41, 42, 43, 44, 45, 46] (by decide +kernel) (by decide +kernel)
set_option maxRecDepth 20000 in
theorem gX4_putIntoSlot_X4_standIn : GoodIn wsX4_putIntoSlot (wsV RX4 107 RX4 yX4_standIn wsX4_standIn) := goodIn_app (goodIn_of _ (by decide +kernel)) ggX4_putIntoSlot_X4_standIn
set_option maxRecDepth 20000 in
theorem ggX4_putIntoSlot_X2_walkTo : GoodIn wsX4_putIntoSlot wsX2_walkTo := goodIn_r _ [32, 33] (by decide +kernel) (by decide +kernel)
set_option maxRecDepth 20000 in
theorem gX4_putIntoSlot_X2_walkTo : GoodIn wsX4_putIntoSlot (va_wsS RX4 111 yX2_walkTo wsX2_walkTo) := goodIn_app (goodIn_of _ (by decide +kernel)) ggX4_putIntoSlot_X2_walkTo
theorem dX4_putIntoSlot_0 : decode cX4_putIntoSlot 0 = .ok (.aload_n 0, 1) := by decide +kernel
theorem dX4_putIntoSlot_1 : decode cX4_putIntoSlot 1 = .ok (.iload_n 1, 1) := by decide +kernel
theorem dX4_putIntoSlot_2 : decode cX4_putIntoSlot 2 = .ok (.invokevirtual 90, 3) := by decide +kernel
theorem dX4_putIntoSlot_5 : decode cX4_putIntoSlot 5 = .ok (.ifCond .eq 10, 3) := by decide +kernel
theorem dX4_putIntoSlot_8 : decode cX4_putIntoSlot 8 = .ok (.iload_n 2, 1) := by decide +kernel
theorem dX4_putIntoSlot_9 : decode cX4_putIntoSlot 9 = .ok (.invokestatic 78, 3) := by decide +kernel
theorem dX4_putIntoSlot_12 : decode cX4_putIntoSlot 12 = .ok (.ifCond .ne 5, 3) := by decide +kernel
theorem dX4_putIntoSlot_15 : decode cX4_putIntoSlot 15 = .ok (.iconst (-1), 1) := by decide +kernel
theorem dX4_putIntoSlot_16 : decode cX4_putIntoSlot 16 = .ok (.ireturn, 1) := by decide +kernel
theorem dX4_putIntoSlot_17 : decode cX4_putIntoSlot 17 = .ok (.aload_n 0, 1) := by decide +kernel
theorem dX4_putIntoSlot_18 : decode cX4_putIntoSlot 18 = .ok (.iload_n 1, 1) := by decide +kernel
theorem dX4_putIntoSlot_19 : decode cX4_putIntoSlot 19 = .ok (.invokevirtual 100, 3) := by decide +kernel
theorem dX4_putIntoSlot_22 : decode cX4_putIntoSlot 22 = .ok (.ifCond .ne 25, 3) := by decide +kernel
theorem dX4_putIntoSlot_25 : decode cX4_putIntoSlot 25 = .ok (.aload_n 0, 1) := by decide +kernel
theorem dX4_putIntoSlot_26 : decode cX4_putIntoSlot 26 = .ok (.aload_n 0, 1) := by decide +kernel
theorem dX4_putIntoSlot_27 : decode cX4_putIntoSlot 27 = .ok (.getfield 38, 3) := by decide +kernel
theorem dX4_putIntoSlot_30 : decode cX4_putIntoSlot 30 = .ok (.iload_n 2, 1) := by decide +kernel
theorem dX4_putIntoSlot_31 : decode cX4_putIntoSlot 31 = .ok (.iaload, 1) := by decide +kernel
theorem dX4_putIntoSlot_32 : decode cX4_putIntoSlot 32 = .ok (.invokevirtual 90, 3) := by decide +kernel
theorem dX4_putIntoSlot_35 : decode cX4_putIntoSlot 35 = .ok (.ifCond .ne 12, 3) := by decide +kernel
theorem dX4_putIntoSlot_38 : decode cX4_putIntoSlot 38 = .ok (.aload_n 0, 1) := by decide +kernel
theorem dX4_putIntoSlot_39 : decode cX4_putIntoSlot 39 = .ok (.iload_n 2, 1) := by decide +kernel
theorem dX4_putIntoSlot_40 : decode cX4_putIntoSlot 40 = .ok (.iload_n 1, 1) := by decide +kernel
theorem dX4_putIntoSlot_41 : decode cX4_putIntoSlot 41 = .ok (.invokevirtual 103, 3) := by decide +kernel
theorem dX4_putIntoSlot_44 : decode cX4_putIntoSlot 44 = .ok (.ifCond .ne 6, 3) := by decide +kernel
theorem dX4_putIntoSlot_47 : decode cX4_putIntoSlot 47 = .ok (.bipush (-2), 2) := by decide +kernel
theorem dX4_putIntoSlot_49 : decode cX4_putIntoSlot 49 = .ok (.ireturn, 1) := by decide +kernel
theorem dX4_putIntoSlot_50 : decode cX4_putIntoSlot 50 = .ok (.aload_n 0, 1) := by decide +kernel
theorem dX4_putIntoSlot_51 : decode cX4_putIntoSlot 51 = .ok (.iload_n 1, 1) := by decide +kernel
theorem dX4_putIntoSlot_52 : decode cX4_putIntoSlot 52 = .ok (.iload_n 2, 1) := by decide +kernel
theorem dX4_putIntoSlot_53 : decode cX4_putIntoSlot 53 = .ok (.invokevirtual 107, 3) := by decide +kernel
theorem dX4_putIntoSlot_56 : decode cX4_putIntoSlot 56 = .ok (.iload_n 2, 1) := by decide +kernel
theorem dX4_putIntoSlot_57 : decode cX4_putIntoSlot 57 = .ok (.invokestatic 111, 3) := by decide +kernel
theorem dX4_putIntoSlot_60 : decode cX4_putIntoSlot 60 = .ok (.ireturn, 1) := by decide +kernel
set_option maxRecDepth 20000 in
theorem ggX4_takeOutOfSlot_X4_isGood : GoodIn wsX4_takeOutOfSlot wsX4_isGood := goodIn_r _ [9, 10, 19, 20, 21, 22, 23, 24, 25, 26, 27, 28, 29, 30, 31] (by decide +kernel) (by decide +kernel)
set_option maxRecDepth 20000 in
theorem gX4_takeOutOfSlot_X4_isGood : GoodIn wsX4_takeOutOfSlot (wsV RX4 90 RX4 yX4_isGood wsX4_isGood) := goodIn_app (goodIn_of _ (by decide +kernel)) ggX4_takeOutOfSlot_X4_isGood
set_option maxRecDepth 20000 in
theorem ggX4_takeOutOfSlot_X4_isPlaced : GoodIn wsX4_takeOutOfSlot wsX4_isPlaced := goodIn_r _ [14, 4, 15, 16, 17, 18, 19, 20, 21, 22, 23, 24, 25, 26, 27, 28, 29, 30, 31] (by decide +kernel) (by decide +kernel)
set_option maxRecDepth 20000 in
theorem gX4_takeOutOfSlot_X4_isPlaced : GoodIn wsX4_takeOutOfSlot (wsV RX4 100 RX4 yX4_isPlaced wsX4_isPlaced) := goodIn_app (goodIn_of _ (by decide +kernel)) ggX4_takeOutOfSlot_X4_isPlaced
theorem dX4_takeOutOfSlot_0 : decode cX4_takeOutOfSlot 0 = .ok (.aload_n 0, 1) := by decide +kernel
theorem dX4_takeOutOfSlot_1 : decode cX4_takeOutOfSlot 1 = .ok (.iload_n 1, 1) := by decide +kernel
theorem dX4_takeOutOfSlot_2 : decode cX4_takeOutOfSlot 2 = .ok (.invokevirtual 90, 3) := by decide +kernel
theorem dX4_takeOutOfSlot_5 : decode cX4_takeOutOfSlot 5 = .ok (.ifCond .ne 5, 3) := by decide +kernel
theorem dX4_takeOutOfSlot_8 : decode cX4_takeOutOfSlot 8 = .ok (.iconst (-1), 1) := by decide +kernel
theorem dX4_takeOutOfSlot_9 : decode cX4_takeOutOfSlot 9 = .ok (.ireturn, 1) := by decide +kernel
theorem dX4_takeOutOfSlot_10 : decode cX4_takeOutOfSlot 10 = .ok (.aload_n 0, 1) := by decide +kernel
theorem dX4_takeOutOfSlot_11 : decode cX4_takeOutOfSlot 11 = .ok (.iload_n 1, 1) := by decide +kernel
theorem dX4_takeOutOfSlot_12 : decode cX4_takeOutOfSlot 12 = .ok (.invokevirtual 100, 3) := by decide +kernel
theorem dX4_takeOutOfSlot_15 : decode cX4_takeOutOfSlot 15 = .ok (.ifCond .ne 6, 3) := by decide +kernel
theorem dX4_takeOutOfSlot_18 : decode cX4_takeOutOfSlot 18 = .ok (.bipush (-2), 2) := by decide +kernel
theorem dX4_takeOutOfSlot_20 : decode cX4_takeOutOfSlot 20 = .ok (.ireturn, 1) := by decide +kernel
theorem dX4_takeOutOfSlot_21 : decode cX4_takeOutOfSlot 21 = .ok (.aload_n 0, 1) := by decide +kernel
theorem dX4_takeOutOfSlot_22 : decode cX4_takeOutOfSlot 22 = .ok (.getfield 24, 3) := by decide +kernel
theorem dX4_takeOutOfSlot_25 : decode cX4_takeOutOfSlot 25 = .ok (.iload_n 1, 1) := by decide +kernel
theorem dX4_takeOutOfSlot_26 : decode cX4_takeOutOfSlot 26 = .ok (.iaload, 1) := by decide +kernel
theorem dX4_takeOutOfSlot_27 : decode cX4_takeOutOfSlot 27 = .ok (.istore_n 2, 1) := by decide +kernel
theorem dX4_takeOutOfSlot_28 : decode cX4_takeOutOfSlot 28 = .ok (.aload_n 0, 1) := by decide +kernel
theorem dX4_takeOutOfSlot_29 : decode cX4_takeOutOfSlot 29 = .ok (.getfield 27, 3) := by decide +kernel
theorem dX4_takeOutOfSlot_32 : decode cX4_takeOutOfSlot 32 = .ok (.iload_n 1, 1) := by decide +kernel
theorem dX4_takeOutOfSlot_33 : decode cX4_takeOutOfSlot 33 = .ok (.dup2, 1) := by decide +kernel
theorem dX4_takeOutOfSlot_34 : decode cX4_takeOutOfSlot 34 = .ok (.iaload, 1) := by decide +kernel
theorem dX4_takeOutOfSlot_35 : decode cX4_takeOutOfSlot 35 = .ok (.iload_n 2, 1) := by decide +kernel
theorem dX4_takeOutOfSlot_36 : decode cX4_takeOutOfSlot 36 = .ok (.iadd, 1) := by decide +kernel
theorem dX4_takeOutOfSlot_37 : decode cX4_takeOutOfSlot 37 = .ok (.iastore, 1) := by decide +kernel
theorem dX4_takeOutOfSlot_38 : decode cX4_takeOutOfSlot 38 = .ok (.aload_n 0, 1) := by decide +kernel
theorem dX4_takeOutOfSlot_39 : decode cX4_takeOutOfSlot 39 = .ok (.getfield 24, 3) := by decide +kernel
theorem dX4_takeOutOfSlot_42 : decode cX4_takeOutOfSlot 42 = .ok (.iload_n 1, 1) := by decide +kernel
theorem dX4_takeOutOfSlot_43 : decode cX4_takeOutOfSlot 43 = .ok (.iconst 0, 1) := by decide +kernel
theorem dX4_takeOutOfSlot_44 : decode cX4_takeOutOfSlot 44 = .ok (.iastore, 1) := by decide +kernel
theorem dX4_takeOutOfSlot_45 : decode cX4_takeOutOfSlot 45 = .ok (.aload_n 0, 1) := by decide +kernel
theorem dX4_takeOutOfSlot_46 : decode cX4_takeOutOfSlot 46 = .ok (.getfield 38, 3) := by decide +kernel
theorem dX4_takeOutOfSlot_49 : decode cX4_takeOutOfSlot 49 = .ok (.aload_n 0, 1) := by decide +kernel
theorem dX4_takeOutOfSlot_50 : decode cX4_takeOutOfSlot 50 = .ok (.getfield 21, 3) := by decide +kernel
theorem dX4_takeOutOfSlot_53 : decode cX4_takeOutOfSlot 53 = .ok (.iload_n 1, 1) := by decide +kernel
theorem dX4_takeOutOfSlot_54 : decode cX4_takeOutOfSlot 54 = .ok (.iaload, 1) := by decide +kernel
theorem dX4_takeOutOfSlot_55 : decode cX4_takeOutOfSlot 55 = .ok (.iconst (-1), 1) := by decide +kernel
theorem dX4_takeOutOfSlot_56 : decode cX4_takeOutOfSlot 56 = .ok (.iastore, 1) := by decide +kernel
theorem dX4_takeOutOfSlot_57 : decode cX4_takeOutOfSlot 57 = .ok (.aload_n 0, 1) := by decide +kernel
theorem dX4_takeOutOfSlot_58 : decode cX4_takeOutOfSlot 58 = .ok (.getfield 21, 3) := by decide +kernel
theorem dX4_takeOutOfSlot_61 : decode cX4_takeOutOfSlot 61 = .ok (.iload_n 1, 1) := by decide +kernel
theorem dX4_takeOutOfSlot_62 : decode cX4_takeOutOfSlot 62 = .ok (.iconst (-1), 1) := by decide +kernel
theorem dX4_takeOutOfSlot_63 : decode cX4_takeOutOfSlot 63 = .ok (.iastore, 1) := by decide +kernel
theorem dX4_takeOutOfSlot_64 : decode cX4_takeOutOfSlot 64 = .ok (.iload_n 2, 1) := by decide +kernel
theorem dX4_takeOutOfSlot_65 : decode cX4_takeOutOfSlot 65 = .ok (.ireturn, 1) := by decide +kernel
theorem dX4_standIn_0 : decode cX4_standIn 0 = .ok (.aload_n 0, 1) := by decide +kernel
theorem dX4_standIn_1 : decode cX4_standIn 1 = .ok (.getfield 21, 3) := by decide +kernel
theorem dX4_standIn_4 : decode cX4_standIn 4 = .ok (.iload_n 1, 1) := by decide +kernel
theorem dX4_standIn_5 : decode cX4_standIn 5 = .ok (.iload_n 2, 1) := by decide +kernel
theorem dX4_standIn_6 : decode cX4_standIn 6 = .ok (.iastore, 1) := by decide +kernel
theorem dX4_standIn_7 : decode cX4_standIn 7 = .ok (.aload_n 0, 1) := by decide +kernel
theorem dX4_standIn_8 : decode cX4_standIn 8 = .ok (.getfield 38, 3) := by decide +kernel
theorem dX4_standIn_11 : decode cX4_standIn 11 = .ok (.iload_n 2, 1) := by decide +kernel
theorem dX4_standIn_12 : decode cX4_standIn 12 = .ok (.iload_n 1, 1) := by decide +kernel
theorem dX4_standIn_13 : decode cX4_standIn 13 = .ok (.iastore, 1) := by decide +kernel
theorem dX4_standIn_14 : decode cX4_standIn 14 = .ok (.return_, 1) := by decide +kernel
set_option maxRecDepth 20000 in
theorem ggX4_numberOfGood_X4_isGood : GoodIn wsX4_numberOfGood wsX4_isGood := goodIn_r _ [12, 13, 34, 35, 36, 37, 38, 39, 40, 41, 42, 43, 44, 45, 46] (by decide +kernel) (by decide +kernel)
set_option maxRecDepth 20000 in
theorem gX4_numberOfGood_X4_isGood : GoodIn wsX4_numberOfGood (wsV RX4 90 RX4 yX4_isGood wsX4_isGood) := goodIn_app (goodIn_of _ (by decide +kernel)) ggX4_numberOfGood_X4_isGood
set_option maxRecDepth 20000 in
theorem ggX4_numberOfGood_X5_isIn : GoodIn wsX4_numberOfGood wsX5_isIn := goodIn_r _ [16] (by decide +kernel) (by decide +kernel)
set_option maxRecDepth 20000 in
theorem gX4_numberOfGood_X5_isIn_n86 : GoodIn wsX4_numberOfGood (wsX5_isIn) := ggX4_numberOfGood_X5_isIn
set_option maxRecDepth 20000 in
theorem ggX4_numberOfGood_X4_isPlaced : GoodIn wsX4_numberOfGood wsX4_isPlaced := goodIn_r _ [20, 3, 21, 22, 23, 24, 34, 35, 36, 37, 38, 39, 40, 41, 42, 43, 44, 45, 46] (by decide +kernel) (by decide +kernel)
set_option maxRecDepth 20000 in
theorem gX4_numberOfGood_X4_isPlaced : GoodIn wsX4_numberOfGood (wsV RX4 100 RX4 yX4_isPlaced wsX4_isPlaced) := goodIn_app (goodIn_of _ (by decide +kernel)) ggX4_numberOfGood_X4_isPlaced
set_option maxRecDepth 20000 in
theorem ggX4_numberOfGood_X2_greatestHeightFor : GoodIn wsX4_numberOfGood wsX2_greatestHeightFor := goodIn_r _ [27, 28] (by decide +kernel) (by decide +kernel)
set_option maxRecDepth 20000 in
theorem gX4_numberOfGood_X2_greatestHeightFor : GoodIn wsX4_numberOfGood (va_wsS RX4 114 yX2_greatestHeightFor wsX2_greatestHeightFor) := goodIn_app (goodIn_of _ (by decide +kernel)) ggX4_numberOfGood_X2_greatestHeightFor
set_option maxRecDepth 20000 in
theorem ggX4_numberOfGood_X4_demandOf : GoodIn wsX4_numberOfGood wsX4_demandOf := goodIn_r _ [32, 33, 34, 35, 36, 37, 38, 39, 40, 41, 42, 43, 44, 45, 46] (by decide +kernel) (by decide +kernel)
set_option maxRecDepth 20000 in
theorem gX4_numberOfGood_X4_demandOf : GoodIn wsX4_numberOfGood (wsV RX4 96 RX4 yX4_demandOf wsX4_demandOf) := goodIn_app (goodIn_of _ (by decide +kernel)) ggX4_numberOfGood_X4_demandOf
theorem dX4_numberOfGood_0 : decode cX4_numberOfGood 0 = .ok (.aload_n 0, 1) := by decide +kernel
theorem dX4_numberOfGood_1 : decode cX4_numberOfGood 1 = .ok (.iload_n 1, 1) := by decide +kernel
theorem dX4_numberOfGood_2 : decode cX4_numberOfGood 2 = .ok (.invokevirtual 90, 3) := by decide +kernel
theorem dX4_numberOfGood_5 : decode cX4_numberOfGood 5 = .ok (.ifCond .eq 13, 3) := by decide +kernel
theorem dX4_numberOfGood_8 : decode cX4_numberOfGood 8 = .ok (.iload_n 2, 1) := by decide +kernel
theorem dX4_numberOfGood_9 : decode cX4_numberOfGood 9 = .ok (.iconst 0, 1) := by decide +kernel
theorem dX4_numberOfGood_10 : decode cX4_numberOfGood 10 = .ok (.bipush 11, 2) := by decide +kernel
theorem dX4_numberOfGood_12 : decode cX4_numberOfGood 12 = .ok (.invokestatic 86, 3) := by decide +kernel
theorem dX4_numberOfGood_15 : decode cX4_numberOfGood 15 = .ok (.ifCond .ne 5, 3) := by decide +kernel
theorem dX4_numberOfGood_18 : decode cX4_numberOfGood 18 = .ok (.iconst (-1), 1) := by decide +kernel
theorem dX4_numberOfGood_19 : decode cX4_numberOfGood 19 = .ok (.ireturn, 1) := by decide +kernel
theorem dX4_numberOfGood_20 : decode cX4_numberOfGood 20 = .ok (.iload_n 2, 1) := by decide +kernel
theorem dX4_numberOfGood_21 : decode cX4_numberOfGood 21 = .ok (.tableswitch 135 0 11 #[63, 70, 135, 135, 135, 135, 77, 97, 104, 111, 118, 125], 63) := by decide +kernel
theorem dX4_numberOfGood_84 : decode cX4_numberOfGood 84 = .ok (.aload_n 0, 1) := by decide +kernel
theorem dX4_numberOfGood_85 : decode cX4_numberOfGood 85 = .ok (.getfield 9, 3) := by decide +kernel
theorem dX4_numberOfGood_88 : decode cX4_numberOfGood 88 = .ok (.iload_n 1, 1) := by decide +kernel
theorem dX4_numberOfGood_89 : decode cX4_numberOfGood 89 = .ok (.iaload, 1) := by decide +kernel
theorem dX4_numberOfGood_90 : decode cX4_numberOfGood 90 = .ok (.ireturn, 1) := by decide +kernel
theorem dX4_numberOfGood_91 : decode cX4_numberOfGood 91 = .ok (.aload_n 0, 1) := by decide +kernel
theorem dX4_numberOfGood_92 : decode cX4_numberOfGood 92 = .ok (.getfield 15, 3) := by decide +kernel
theorem dX4_numberOfGood_95 : decode cX4_numberOfGood 95 = .ok (.iload_n 1, 1) := by decide +kernel
theorem dX4_numberOfGood_96 : decode cX4_numberOfGood 96 = .ok (.iaload, 1) := by decide +kernel
theorem dX4_numberOfGood_97 : decode cX4_numberOfGood 97 = .ok (.ireturn, 1) := by decide +kernel
theorem dX4_numberOfGood_98 : decode cX4_numberOfGood 98 = .ok (.aload_n 0, 1) := by decide +kernel
theorem dX4_numberOfGood_99 : decode cX4_numberOfGood 99 = .ok (.iload_n 1, 1) := by decide +kernel
theorem dX4_numberOfGood_100 : decode cX4_numberOfGood 100 = .ok (.invokevirtual 100, 3) := by decide +kernel
theorem dX4_numberOfGood_103 : decode cX4_numberOfGood 103 = .ok (.ifCond .eq 12, 3) := by decide +kernel
theorem dX4_numberOfGood_106 : decode cX4_numberOfGood 106 = .ok (.aload_n 0, 1) := by decide +kernel
theorem dX4_numberOfGood_107 : decode cX4_numberOfGood 107 = .ok (.getfield 21, 3) := by decide +kernel
theorem dX4_numberOfGood_110 : decode cX4_numberOfGood 110 = .ok (.iload_n 1, 1) := by decide +kernel
theorem dX4_numberOfGood_111 : decode cX4_numberOfGood 111 = .ok (.iaload, 1) := by decide +kernel
theorem dX4_numberOfGood_112 : decode cX4_numberOfGood 112 = .ok (.goto 5, 3) := by decide +kernel
theorem dX4_numberOfGood_115 : decode cX4_numberOfGood 115 = .ok (.bipush (-4), 2) := by decide +kernel
theorem dX4_numberOfGood_117 : decode cX4_numberOfGood 117 = .ok (.ireturn, 1) := by decide +kernel
theorem dX4_numberOfGood_118 : decode cX4_numberOfGood 118 = .ok (.aload_n 0, 1) := by decide +kernel
theorem dX4_numberOfGood_119 : decode cX4_numberOfGood 119 = .ok (.getfield 24, 3) := by decide +kernel
theorem dX4_numberOfGood_122 : decode cX4_numberOfGood 122 = .ok (.iload_n 1, 1) := by decide +kernel
theorem dX4_numberOfGood_123 : decode cX4_numberOfGood 123 = .ok (.iaload, 1) := by decide +kernel
theorem dX4_numberOfGood_124 : decode cX4_numberOfGood 124 = .ok (.ireturn, 1) := by decide +kernel
theorem dX4_numberOfGood_125 : decode cX4_numberOfGood 125 = .ok (.aload_n 0, 1) := by decide +kernel
theorem dX4_numberOfGood_126 : decode cX4_numberOfGood 126 = .ok (.getfield 27, 3) := by decide +kernel
theorem dX4_numberOfGood_129 : decode cX4_numberOfGood 129 = .ok (.iload_n 1, 1) := by decide +kernel
theorem dX4_numberOfGood_130 : decode cX4_numberOfGood 130 = .ok (.iaload, 1) := by decide +kernel
theorem dX4_numberOfGood_131 : decode cX4_numberOfGood 131 = .ok (.ireturn, 1) := by decide +kernel
theorem dX4_numberOfGood_132 : decode cX4_numberOfGood 132 = .ok (.aload_n 0, 1) := by decide +kernel
theorem dX4_numberOfGood_133 : decode cX4_numberOfGood 133 = .ok (.getfield 30, 3) := by decide +kernel
theorem dX4_numberOfGood_136 : decode cX4_numberOfGood 136 = .ok (.iload_n 1, 1) := by decide +kernel
theorem dX4_numberOfGood_137 : decode cX4_numberOfGood 137 = .ok (.iaload, 1) := by decide +kernel
theorem dX4_numberOfGood_138 : decode cX4_numberOfGood 138 = .ok (.ireturn, 1) := by decide +kernel
theorem dX4_numberOfGood_139 : decode cX4_numberOfGood 139 = .ok (.aload_n 0, 1) := by decide +kernel
theorem dX4_numberOfGood_140 : decode cX4_numberOfGood 140 = .ok (.getfield 33, 3) := by decide +kernel
theorem dX4_numberOfGood_143 : decode cX4_numberOfGood 143 = .ok (.iload_n 1, 1) := by decide +kernel
theorem dX4_numberOfGood_144 : decode cX4_numberOfGood 144 = .ok (.iaload, 1) := by decide +kernel
theorem dX4_numberOfGood_145 : decode cX4_numberOfGood 145 = .ok (.ireturn, 1) := by decide +kernel
theorem dX4_numberOfGood_146 : decode cX4_numberOfGood 146 = .ok (.aload_n 0, 1) := by decide +kernel
theorem dX4_numberOfGood_147 : decode cX4_numberOfGood 147 = .ok (.getfield 9, 3) := by decide +kernel
theorem dX4_numberOfGood_150 : decode cX4_numberOfGood 150 = .ok (.iload_n 1, 1) := by decide +kernel
theorem dX4_numberOfGood_151 : decode cX4_numberOfGood 151 = .ok (.iaload, 1) := by decide +kernel
theorem dX4_numberOfGood_152 : decode cX4_numberOfGood 152 = .ok (.invokestatic 114, 3) := by decide +kernel
theorem dX4_numberOfGood_155 : decode cX4_numberOfGood 155 = .ok (.ireturn, 1) := by decide +kernel
theorem dX4_numberOfGood_156 : decode cX4_numberOfGood 156 = .ok (.aload_n 0, 1) := by decide +kernel
theorem dX4_numberOfGood_157 : decode cX4_numberOfGood 157 = .ok (.iload_n 1, 1) := by decide +kernel
theorem dX4_numberOfGood_158 : decode cX4_numberOfGood 158 = .ok (.iload_n 2, 1) := by decide +kernel
theorem dX4_numberOfGood_159 : decode cX4_numberOfGood 159 = .ok (.iconst 2, 1) := by decide +kernel
theorem dX4_numberOfGood_160 : decode cX4_numberOfGood 160 = .ok (.isub, 1) := by decide +kernel
theorem dX4_numberOfGood_161 : decode cX4_numberOfGood 161 = .ok (.invokevirtual 96, 3) := by decide +kernel
theorem dX4_numberOfGood_164 : decode cX4_numberOfGood 164 = .ok (.ireturn, 1) := by decide +kernel
set_option maxRecDepth 20000 in
theorem ggX4_numberOfSlot_X2_isSlot : GoodIn wsX4_numberOfSlot wsX2_isSlot := goodIn_r _ [5] (by decide +kernel) (by decide +kernel)
set_option maxRecDepth 20000 in
theorem gX4_numberOfSlot_X2_isSlot : GoodIn wsX4_numberOfSlot (va_wsS RX4 78 yX2_isSlot wsX2_isSlot) := goodIn_app (goodIn_of _ (by decide +kernel)) ggX4_numberOfSlot_X2_isSlot
set_option maxRecDepth 20000 in
theorem ggX4_numberOfSlot_X4_isGood : GoodIn wsX4_numberOfSlot wsX4_isGood := goodIn_r _ [10, 11, 20, 21, 22, 23, 24, 25, 26, 27, 28, 29, 30, 31, 32] (by decide +kernel) (by decide +kernel)
set_option maxRecDepth 20000 in
theorem gX4_numberOfSlot_X4_isGood : GoodIn wsX4_numberOfSlot (wsV RX4 90 RX4 yX4_isGood wsX4_isGood) := goodIn_app (goodIn_of _ (by decide +kernel)) ggX4_numberOfSlot_X4_isGood
set_option maxRecDepth 20000 in
theorem ggX4_numberOfSlot_X2_walkTo : GoodIn wsX4_numberOfSlot wsX2_walkTo := goodIn_r _ [14, 15] (by decide +kernel) (by decide +kernel)
set_option maxRecDepth 20000 in
theorem gX4_numberOfSlot_X2_walkTo : GoodIn wsX4_numberOfSlot (va_wsS RX4 111 yX2_walkTo wsX2_walkTo) := goodIn_app (goodIn_of _ (by decide +kernel)) ggX4_numberOfSlot_X2_walkTo
set_option maxRecDepth 20000 in
theorem ggX4_numberOfSlot_X2_heaviestAt : GoodIn wsX4_numberOfSlot wsX2_heaviestAt := goodIn_r _ [18, 19] (by decide +kernel) (by decide +kernel)
set_option maxRecDepth 20000 in
theorem gX4_numberOfSlot_X2_heaviestAt : GoodIn wsX4_numberOfSlot (va_wsS RX4 82 yX2_heaviestAt wsX2_heaviestAt) := goodIn_app (goodIn_of _ (by decide +kernel)) ggX4_numberOfSlot_X2_heaviestAt
theorem dX4_numberOfSlot_0 : decode cX4_numberOfSlot 0 = .ok (.iload_n 1, 1) := by decide +kernel
theorem dX4_numberOfSlot_1 : decode cX4_numberOfSlot 1 = .ok (.invokestatic 78, 3) := by decide +kernel
theorem dX4_numberOfSlot_4 : decode cX4_numberOfSlot 4 = .ok (.ifCond .ne 5, 3) := by decide +kernel
theorem dX4_numberOfSlot_7 : decode cX4_numberOfSlot 7 = .ok (.iconst (-1), 1) := by decide +kernel
theorem dX4_numberOfSlot_8 : decode cX4_numberOfSlot 8 = .ok (.ireturn, 1) := by decide +kernel
theorem dX4_numberOfSlot_9 : decode cX4_numberOfSlot 9 = .ok (.iload_n 2, 1) := by decide +kernel
theorem dX4_numberOfSlot_10 : decode cX4_numberOfSlot 10 = .ok (.tableswitch 61 0 2 #[26, 51, 56], 26) := by decide +kernel
theorem dX4_numberOfSlot_36 : decode cX4_numberOfSlot 36 = .ok (.aload_n 0, 1) := by decide +kernel
theorem dX4_numberOfSlot_37 : decode cX4_numberOfSlot 37 = .ok (.aload_n 0, 1) := by decide +kernel
theorem dX4_numberOfSlot_38 : decode cX4_numberOfSlot 38 = .ok (.getfield 38, 3) := by decide +kernel
theorem dX4_numberOfSlot_41 : decode cX4_numberOfSlot 41 = .ok (.iload_n 1, 1) := by decide +kernel
theorem dX4_numberOfSlot_42 : decode cX4_numberOfSlot 42 = .ok (.iaload, 1) := by decide +kernel
theorem dX4_numberOfSlot_43 : decode cX4_numberOfSlot 43 = .ok (.invokevirtual 90, 3) := by decide +kernel
theorem dX4_numberOfSlot_46 : decode cX4_numberOfSlot 46 = .ok (.ifCond .eq 12, 3) := by decide +kernel
theorem dX4_numberOfSlot_49 : decode cX4_numberOfSlot 49 = .ok (.aload_n 0, 1) := by decide +kernel
theorem dX4_numberOfSlot_50 : decode cX4_numberOfSlot 50 = .ok (.getfield 38, 3) := by decide +kernel
theorem dX4_numberOfSlot_53 : decode cX4_numberOfSlot 53 = .ok (.iload_n 1, 1) := by decide +kernel
theorem dX4_numberOfSlot_54 : decode cX4_numberOfSlot 54 = .ok (.iaload, 1) := by decide +kernel
theorem dX4_numberOfSlot_55 : decode cX4_numberOfSlot 55 = .ok (.goto 5, 3) := by decide +kernel
theorem dX4_numberOfSlot_58 : decode cX4_numberOfSlot 58 = .ok (.bipush (-4), 2) := by decide +kernel
theorem dX4_numberOfSlot_60 : decode cX4_numberOfSlot 60 = .ok (.ireturn, 1) := by decide +kernel
theorem dX4_numberOfSlot_61 : decode cX4_numberOfSlot 61 = .ok (.iload_n 1, 1) := by decide +kernel
theorem dX4_numberOfSlot_62 : decode cX4_numberOfSlot 62 = .ok (.invokestatic 111, 3) := by decide +kernel
theorem dX4_numberOfSlot_65 : decode cX4_numberOfSlot 65 = .ok (.ireturn, 1) := by decide +kernel
theorem dX4_numberOfSlot_66 : decode cX4_numberOfSlot 66 = .ok (.iload_n 1, 1) := by decide +kernel
theorem dX4_numberOfSlot_67 : decode cX4_numberOfSlot 67 = .ok (.invokestatic 82, 3) := by decide +kernel
theorem dX4_numberOfSlot_70 : decode cX4_numberOfSlot 70 = .ok (.ireturn, 1) := by decide +kernel
theorem dX4_numberOfSlot_71 : decode cX4_numberOfSlot 71 = .ok (.iconst (-1), 1) := by decide +kernel
theorem dX4_numberOfSlot_72 : decode cX4_numberOfSlot 72 = .ok (.ireturn, 1) := by decide +kernel
set_option maxRecDepth 20000 in
theorem ggX4_nearestFreeSlot_X4_isGood : GoodIn wsX4_nearestFreeSlot wsX4_isGood := goodIn_r _ [6, 7, 22, 23, 24, 25, 26, 27, 28, 29, 30, 31, 32, 33, 34] (by decide +kernel) (by decide +kernel)
set_option maxRecDepth 20000 in
theorem gX4_nearestFreeSlot_X4_isGood : GoodIn wsX4_nearestFreeSlot (wsV RX4 90 RX4 yX4_isGood wsX4_isGood) := goodIn_app (goodIn_of _ (by decide +kernel)) ggX4_nearestFreeSlot_X4_isGood
set_option maxRecDepth 20000 in
theorem ggX4_nearestFreeSlot_X4_bears : GoodIn wsX4_nearestFreeSlot wsX4_bears := goodIn_r _ [11, 12, 13, 14, 15, 16, 17, 22, 23, 24, 25, 26, 27, 28, 29, 30, 31, 32, 33, 34] (by decide +kernel) (by decide +kernel)
set_option maxRecDepth 20000 in
theorem gX4_nearestFreeSlot_X4_bears : GoodIn wsX4_nearestFreeSlot (wsV RX4 103 RX4 yX4_bears wsX4_bears) := goodIn_app (goodIn_of _ (by decide +kernel)) ggX4_nearestFreeSlot_X4_bears
set_option maxRecDepth 20000 in
theorem ggX4_nearestFreeSlot_X2_walkTo : GoodIn wsX4_nearestFreeSlot wsX2_walkTo := goodIn_r _ [20, 21] (by decide +kernel) (by decide +kernel)
set_option maxRecDepth 20000 in
theorem gX4_nearestFreeSlot_X2_walkTo : GoodIn wsX4_nearestFreeSlot (va_wsS RX4 111 yX2_walkTo wsX2_walkTo) := goodIn_app (goodIn_of _ (by decide +kernel)) ggX4_nearestFreeSlot_X2_walkTo
theorem dX4_nearestFreeSlot_0 : decode cX4_nearestFreeSlot 0 = .ok (.aload_n 0, 1) := by decide +kernel
theorem dX4_nearestFreeSlot_1 : decode cX4_nearestFreeSlot 1 = .ok (.iload_n 1, 1) := by decide +kernel
theorem dX4_nearestFreeSlot_2 : decode cX4_nearestFreeSlot 2 = .ok (.invokevirtual 90, 3) := by decide +kernel
theorem dX4_nearestFreeSlot_5 : decode cX4_nearestFreeSlot 5 = .ok (.ifCond .ne 5, 3) := by decide +kernel
theorem dX4_nearestFreeSlot_8 : decode cX4_nearestFreeSlot 8 = .ok (.iconst (-1), 1) := by decide +kernel
theorem dX4_nearestFreeSlot_9 : decode cX4_nearestFreeSlot 9 = .ok (.ireturn, 1) := by decide +kernel
theorem dX4_nearestFreeSlot_10 : decode cX4_nearestFreeSlot 10 = .ok (.bipush (-4), 2) := by decide +kernel
theorem dX4_nearestFreeSlot_12 : decode cX4_nearestFreeSlot 12 = .ok (.istore_n 2, 1) := by decide +kernel
theorem dX4_nearestFreeSlot_13 : decode cX4_nearestFreeSlot 13 = .ok (.iconst 0, 1) := by decide +kernel
theorem dX4_nearestFreeSlot_14 : decode cX4_nearestFreeSlot 14 = .ok (.istore_n 3, 1) := by decide +kernel
theorem dX4_nearestFreeSlot_15 : decode cX4_nearestFreeSlot 15 = .ok (.iload_n 3, 1) := by decide +kernel
theorem dX4_nearestFreeSlot_16 : decode cX4_nearestFreeSlot 16 = .ok (.bipush 60, 2) := by decide +kernel
theorem dX4_nearestFreeSlot_18 : decode cX4_nearestFreeSlot 18 = .ok (.if_icmp .ge 60, 3) := by decide +kernel
theorem dX4_nearestFreeSlot_21 : decode cX4_nearestFreeSlot 21 = .ok (.aload_n 0, 1) := by decide +kernel
theorem dX4_nearestFreeSlot_22 : decode cX4_nearestFreeSlot 22 = .ok (.aload_n 0, 1) := by decide +kernel
theorem dX4_nearestFreeSlot_23 : decode cX4_nearestFreeSlot 23 = .ok (.getfield 38, 3) := by decide +kernel
theorem dX4_nearestFreeSlot_26 : decode cX4_nearestFreeSlot 26 = .ok (.iload_n 3, 1) := by decide +kernel
theorem dX4_nearestFreeSlot_27 : decode cX4_nearestFreeSlot 27 = .ok (.iaload, 1) := by decide +kernel
theorem dX4_nearestFreeSlot_28 : decode cX4_nearestFreeSlot 28 = .ok (.invokevirtual 90, 3) := by decide +kernel
theorem dX4_nearestFreeSlot_31 : decode cX4_nearestFreeSlot 31 = .ok (.ifCond .ne 16, 3) := by decide +kernel
theorem dX4_nearestFreeSlot_34 : decode cX4_nearestFreeSlot 34 = .ok (.aload_n 0, 1) := by decide +kernel
theorem dX4_nearestFreeSlot_35 : decode cX4_nearestFreeSlot 35 = .ok (.iload_n 3, 1) := by decide +kernel
theorem dX4_nearestFreeSlot_36 : decode cX4_nearestFreeSlot 36 = .ok (.iload_n 1, 1) := by decide +kernel
theorem dX4_nearestFreeSlot_37 : decode cX4_nearestFreeSlot 37 = .ok (.invokevirtual 103, 3) := by decide +kernel
theorem dX4_nearestFreeSlot_40 : decode cX4_nearestFreeSlot 40 = .ok (.ifCond .eq 7, 3) := by decide +kernel
theorem dX4_nearestFreeSlot_43 : decode cX4_nearestFreeSlot 43 = .ok (.iconst 1, 1) := by decide +kernel
theorem dX4_nearestFreeSlot_44 : decode cX4_nearestFreeSlot 44 = .ok (.goto 4, 3) := by decide +kernel
theorem dX4_nearestFreeSlot_47 : decode cX4_nearestFreeSlot 47 = .ok (.iconst 0, 1) := by decide +kernel
theorem dX4_nearestFreeSlot_48 : decode cX4_nearestFreeSlot 48 = .ok (.istore 4, 2) := by decide +kernel
theorem dX4_nearestFreeSlot_50 : decode cX4_nearestFreeSlot 50 = .ok (.iload 4, 2) := by decide +kernel
theorem dX4_nearestFreeSlot_52 : decode cX4_nearestFreeSlot 52 = .ok (.ifCond .eq 20, 3) := by decide +kernel
theorem dX4_nearestFreeSlot_55 : decode cX4_nearestFreeSlot 55 = .ok (.iload_n 2, 1) := by decide +kernel
theorem dX4_nearestFreeSlot_56 : decode cX4_nearestFreeSlot 56 = .ok (.ifCond .lt 14, 3) := by decide +kernel
theorem dX4_nearestFreeSlot_59 : decode cX4_nearestFreeSlot 59 = .ok (.iload_n 3, 1) := by decide +kernel
theorem dX4_nearestFreeSlot_60 : decode cX4_nearestFreeSlot 60 = .ok (.invokestatic 111, 3) := by decide +kernel
theorem dX4_nearestFreeSlot_63 : decode cX4_nearestFreeSlot 63 = .ok (.iload_n 2, 1) := by decide +kernel
theorem dX4_nearestFreeSlot_64 : decode cX4_nearestFreeSlot 64 = .ok (.invokestatic 111, 3) := by decide +kernel
theorem dX4_nearestFreeSlot_67 : decode cX4_nearestFreeSlot 67 = .ok (.if_icmp .ge 5, 3) := by decide +kernel
theorem dX4_nearestFreeSlot_70 : decode cX4_nearestFreeSlot 70 = .ok (.iload_n 3, 1) := by decide +kernel
theorem dX4_nearestFreeSlot_71 : decode cX4_nearestFreeSlot 71 = .ok (.istore_n 2, 1) := by decide +kernel
theorem dX4_nearestFreeSlot_72 : decode cX4_nearestFreeSlot 72 = .ok (.iinc 3 1, 3) := by decide +kernel
theorem dX4_nearestFreeSlot_75 : decode cX4_nearestFreeSlot 75 = .ok (.goto (-60), 3) := by decide +kernel
theorem dX4_nearestFreeSlot_78 : decode cX4_nearestFreeSlot 78 = .ok (.iload_n 2, 1) := by decide +kernel
theorem dX4_nearestFreeSlot_79 : decode cX4_nearestFreeSlot 79 = .ok (.ireturn, 1) := by decide +kernel
set_option maxRecDepth 20000 in
theorem ggX4_pickUnits_X4_isGood : GoodIn wsX4_pickUnits wsX4_isGood := goodIn_r _ [11, 12, 47, 48, 49, 50, 51, 52, 53, 54, 55, 56, 57, 58, 59] (by decide +kernel) (by decide +kernel)
set_option maxRecDepth 20000 in
theorem gX4_pickUnits_X4_isGood : GoodIn wsX4_pickUnits (wsV RX4 90 RX4 yX4_isGood wsX4_isGood) := goodIn_app (goodIn_of _ (by decide +kernel)) ggX4_pickUnits_X4_isGood
set_option maxRecDepth 20000 in
theorem ggX4_pickUnits_X5_isIn : GoodIn wsX4_pickUnits wsX5_isIn := goodIn_r _ [15] (by decide +kernel) (by decide +kernel)
set_option maxRecDepth 20000 in
theorem gX4_pickUnits_X5_isIn_n86 : GoodIn wsX4_pickUnits (wsX5_isIn) := ggX4_pickUnits_X5_isIn
set_option maxRecDepth 20000 in
theorem ggX4_pickUnits_X4_isPlaced : GoodIn wsX4_pickUnits wsX4_isPlaced := goodIn_r _ [19, 3, 20, 21, 22, 23, 47, 48, 49, 50, 51, 52, 53, 54, 55, 56, 57, 58, 59] (by decide +kernel) (by decide +kernel)
set_option maxRecDepth 20000 in
theorem gX4_pickUnits_X4_isPlaced : GoodIn wsX4_pickUnits (wsV RX4 100 RX4 yX4_isPlaced wsX4_isPlaced) := goodIn_app (goodIn_of _ (by decide +kernel)) ggX4_pickUnits_X4_isPlaced
set_option maxRecDepth 20000 in
theorem ggX4_pickUnits_X4_unitsToBring : GoodIn wsX4_pickUnits wsX4_unitsToBring := goodIn_r _ [27, 28, 1, 29, 30, 31, 32, 33, 47, 48, 49, 50, 51, 52, 53, 54, 55, 56, 57, 58, 59] (by decide +kernel) (by decide +kernel)
set_option maxRecDepth 20000 in
theorem gX4_pickUnits_X4_unitsToBring : GoodIn wsX4_pickUnits (wsV RX4 117 RX4 yX4_unitsToBring wsX4_unitsToBring) := goodIn_app (goodIn_of _ (by decide +kernel)) ggX4_pickUnits_X4_unitsToBring
set_option maxRecDepth 20000 in
theorem ggX4_pickUnits_X4_bring : GoodIn wsX4_pickUnits wsX4_bring := goodIn_r _ [37, 38, 2, 3, 29, 1, 6, 39, 40, 41, 10, 42, 43, 44, 22, 45, 46, 47, 48, 49, 50, 51, 52, 53, 54, 55, 56, 57, 58, 59, 60, 61, 62, 63, 64, 65, 66] (by decide +kernel) (by decide +kernel)
set_option maxRecDepth 20000 in
theorem gX4_pickUnits_X4_bring : GoodIn wsX4_pickUnits (wsV RX4 120 RX4 yX4_bring wsX4_bring) := goodIn_app (goodIn_of _ (by decide +kernel)) ggX4_pickUnits_X4_bring
set_option maxRecDepth 20000 in
theorem ggX4_pickUnits_X2_walkTo : GoodIn wsX4_pickUnits wsX2_walkTo := goodIn_r _ [45, 46] (by decide +kernel) (by decide +kernel)
set_option maxRecDepth 20000 in
theorem gX4_pickUnits_X2_walkTo : GoodIn wsX4_pickUnits (va_wsS RX4 111 yX2_walkTo wsX2_walkTo) := goodIn_app (goodIn_of _ (by decide +kernel)) ggX4_pickUnits_X2_walkTo
theorem dX4_pickUnits_0 : decode cX4_pickUnits 0 = .ok (.aload_n 0, 1) := by decide +kernel
theorem dX4_pickUnits_1 : decode cX4_pickUnits 1 = .ok (.iload_n 1, 1) := by decide +kernel
theorem dX4_pickUnits_2 : decode cX4_pickUnits 2 = .ok (.invokevirtual 90, 3) := by decide +kernel
theorem dX4_pickUnits_5 : decode cX4_pickUnits 5 = .ok (.ifCond .eq 14, 3) := by decide +kernel
theorem dX4_pickUnits_8 : decode cX4_pickUnits 8 = .ok (.iload_n 2, 1) := by decide +kernel
theorem dX4_pickUnits_9 : decode cX4_pickUnits 9 = .ok (.iconst 1, 1) := by decide +kernel
theorem dX4_pickUnits_10 : decode cX4_pickUnits 10 = .ok (.sipush 200, 3) := by decide +kernel
theorem dX4_pickUnits_13 : decode cX4_pickUnits 13 = .ok (.invokestatic 86, 3) := by decide +kernel
theorem dX4_pickUnits_16 : decode cX4_pickUnits 16 = .ok (.ifCond .ne 5, 3) := by decide +kernel
theorem dX4_pickUnits_19 : decode cX4_pickUnits 19 = .ok (.iconst (-1), 1) := by decide +kernel
theorem dX4_pickUnits_20 : decode cX4_pickUnits 20 = .ok (.ireturn, 1) := by decide +kernel
theorem dX4_pickUnits_21 : decode cX4_pickUnits 21 = .ok (.aload_n 0, 1) := by decide +kernel
theorem dX4_pickUnits_22 : decode cX4_pickUnits 22 = .ok (.iload_n 1, 1) := by decide +kernel
theorem dX4_pickUnits_23 : decode cX4_pickUnits 23 = .ok (.invokevirtual 100, 3) := by decide +kernel
theorem dX4_pickUnits_26 : decode cX4_pickUnits 26 = .ok (.ifCond .ne 6, 3) := by decide +kernel
theorem dX4_pickUnits_29 : decode cX4_pickUnits 29 = .ok (.bipush (-2), 2) := by decide +kernel
theorem dX4_pickUnits_31 : decode cX4_pickUnits 31 = .ok (.ireturn, 1) := by decide +kernel
theorem dX4_pickUnits_32 : decode cX4_pickUnits 32 = .ok (.aload_n 0, 1) := by decide +kernel
theorem dX4_pickUnits_33 : decode cX4_pickUnits 33 = .ok (.getfield 24, 3) := by decide +kernel
theorem dX4_pickUnits_36 : decode cX4_pickUnits 36 = .ok (.iload_n 1, 1) := by decide +kernel
theorem dX4_pickUnits_37 : decode cX4_pickUnits 37 = .ok (.iaload, 1) := by decide +kernel
theorem dX4_pickUnits_38 : decode cX4_pickUnits 38 = .ok (.iload_n 2, 1) := by decide +kernel
theorem dX4_pickUnits_39 : decode cX4_pickUnits 39 = .ok (.if_icmp .ge 17, 3) := by decide +kernel
theorem dX4_pickUnits_42 : decode cX4_pickUnits 42 = .ok (.aload_n 0, 1) := by decide +kernel
theorem dX4_pickUnits_43 : decode cX4_pickUnits 43 = .ok (.getfield 41, 3) := by decide +kernel
theorem dX4_pickUnits_46 : decode cX4_pickUnits 46 = .ok (.iconst 2, 1) := by decide +kernel
theorem dX4_pickUnits_47 : decode cX4_pickUnits 47 = .ok (.iaload, 1) := by decide +kernel
theorem dX4_pickUnits_48 : decode cX4_pickUnits 48 = .ok (.iconst 1, 1) := by decide +kernel
theorem dX4_pickUnits_49 : decode cX4_pickUnits 49 = .ok (.if_icmp .ne 7, 3) := by decide +kernel
theorem dX4_pickUnits_52 : decode cX4_pickUnits 52 = .ok (.iconst 1, 1) := by decide +kernel
theorem dX4_pickUnits_53 : decode cX4_pickUnits 53 = .ok (.goto 4, 3) := by decide +kernel
theorem dX4_pickUnits_56 : decode cX4_pickUnits 56 = .ok (.iconst 0, 1) := by decide +kernel
theorem dX4_pickUnits_57 : decode cX4_pickUnits 57 = .ok (.istore_n 3, 1) := by decide +kernel
theorem dX4_pickUnits_58 : decode cX4_pickUnits 58 = .ok (.iload_n 3, 1) := by decide +kernel
theorem dX4_pickUnits_59 : decode cX4_pickUnits 59 = .ok (.ifCond .eq 11, 3) := by decide +kernel
theorem dX4_pickUnits_62 : decode cX4_pickUnits 62 = .ok (.aload_n 0, 1) := by decide +kernel
theorem dX4_pickUnits_63 : decode cX4_pickUnits 63 = .ok (.iload_n 1, 1) := by decide +kernel
theorem dX4_pickUnits_64 : decode cX4_pickUnits 64 = .ok (.invokevirtual 117, 3) := by decide +kernel
theorem dX4_pickUnits_67 : decode cX4_pickUnits 67 = .ok (.goto 4, 3) := by decide +kernel
theorem dX4_pickUnits_70 : decode cX4_pickUnits 70 = .ok (.iconst 0, 1) := by decide +kernel
theorem dX4_pickUnits_71 : decode cX4_pickUnits 71 = .ok (.istore 4, 2) := by decide +kernel
theorem dX4_pickUnits_73 : decode cX4_pickUnits 73 = .ok (.aload_n 0, 1) := by decide +kernel
theorem dX4_pickUnits_74 : decode cX4_pickUnits 74 = .ok (.getfield 24, 3) := by decide +kernel
theorem dX4_pickUnits_77 : decode cX4_pickUnits 77 = .ok (.iload_n 1, 1) := by decide +kernel
theorem dX4_pickUnits_78 : decode cX4_pickUnits 78 = .ok (.iaload, 1) := by decide +kernel
theorem dX4_pickUnits_79 : decode cX4_pickUnits 79 = .ok (.iload 4, 2) := by decide +kernel
theorem dX4_pickUnits_81 : decode cX4_pickUnits 81 = .ok (.iadd, 1) := by decide +kernel
theorem dX4_pickUnits_82 : decode cX4_pickUnits 82 = .ok (.iload_n 2, 1) := by decide +kernel
theorem dX4_pickUnits_83 : decode cX4_pickUnits 83 = .ok (.if_icmp .ge 6, 3) := by decide +kernel
theorem dX4_pickUnits_86 : decode cX4_pickUnits 86 = .ok (.bipush (-2), 2) := by decide +kernel
theorem dX4_pickUnits_88 : decode cX4_pickUnits 88 = .ok (.ireturn, 1) := by decide +kernel
theorem dX4_pickUnits_89 : decode cX4_pickUnits 89 = .ok (.aload_n 0, 1) := by decide +kernel
theorem dX4_pickUnits_90 : decode cX4_pickUnits 90 = .ok (.iload_n 1, 1) := by decide +kernel
theorem dX4_pickUnits_91 : decode cX4_pickUnits 91 = .ok (.iload 4, 2) := by decide +kernel
theorem dX4_pickUnits_93 : decode cX4_pickUnits 93 = .ok (.invokevirtual 120, 3) := by decide +kernel
theorem dX4_pickUnits_96 : decode cX4_pickUnits 96 = .ok (.aload_n 0, 1) := by decide +kernel
theorem dX4_pickUnits_97 : decode cX4_pickUnits 97 = .ok (.getfield 21, 3) := by decide +kernel
theorem dX4_pickUnits_100 : decode cX4_pickUnits 100 = .ok (.iload_n 1, 1) := by decide +kernel
theorem dX4_pickUnits_101 : decode cX4_pickUnits 101 = .ok (.iaload, 1) := by decide +kernel
theorem dX4_pickUnits_102 : decode cX4_pickUnits 102 = .ok (.invokestatic 111, 3) := by decide +kernel
theorem dX4_pickUnits_105 : decode cX4_pickUnits 105 = .ok (.iadd, 1) := by decide +kernel
theorem dX4_pickUnits_106 : decode cX4_pickUnits 106 = .ok (.istore 5, 2) := by decide +kernel
theorem dX4_pickUnits_108 : decode cX4_pickUnits 108 = .ok (.aload_n 0, 1) := by decide +kernel
theorem dX4_pickUnits_109 : decode cX4_pickUnits 109 = .ok (.getfield 24, 3) := by decide +kernel
theorem dX4_pickUnits_112 : decode cX4_pickUnits 112 = .ok (.iload_n 1, 1) := by decide +kernel
theorem dX4_pickUnits_113 : decode cX4_pickUnits 113 = .ok (.dup2, 1) := by decide +kernel
theorem dX4_pickUnits_114 : decode cX4_pickUnits 114 = .ok (.iaload, 1) := by decide +kernel
theorem dX4_pickUnits_115 : decode cX4_pickUnits 115 = .ok (.iload_n 2, 1) := by decide +kernel
theorem dX4_pickUnits_116 : decode cX4_pickUnits 116 = .ok (.isub, 1) := by decide +kernel
theorem dX4_pickUnits_117 : decode cX4_pickUnits 117 = .ok (.iastore, 1) := by decide +kernel
theorem dX4_pickUnits_118 : decode cX4_pickUnits 118 = .ok (.aload_n 0, 1) := by decide +kernel
theorem dX4_pickUnits_119 : decode cX4_pickUnits 119 = .ok (.getfield 33, 3) := by decide +kernel
theorem dX4_pickUnits_122 : decode cX4_pickUnits 122 = .ok (.iload_n 1, 1) := by decide +kernel
theorem dX4_pickUnits_123 : decode cX4_pickUnits 123 = .ok (.dup2, 1) := by decide +kernel
theorem dX4_pickUnits_124 : decode cX4_pickUnits 124 = .ok (.iaload, 1) := by decide +kernel
theorem dX4_pickUnits_125 : decode cX4_pickUnits 125 = .ok (.iload_n 2, 1) := by decide +kernel
theorem dX4_pickUnits_126 : decode cX4_pickUnits 126 = .ok (.iadd, 1) := by decide +kernel
theorem dX4_pickUnits_127 : decode cX4_pickUnits 127 = .ok (.iastore, 1) := by decide +kernel
theorem dX4_pickUnits_128 : decode cX4_pickUnits 128 = .ok (.aload_n 0, 1) := by decide +kernel
theorem dX4_pickUnits_129 : decode cX4_pickUnits 129 = .ok (.getfield 30, 3) := by decide +kernel
theorem dX4_pickUnits_132 : decode cX4_pickUnits 132 = .ok (.iload_n 1, 1) := by decide +kernel
theorem dX4_pickUnits_133 : decode cX4_pickUnits 133 = .ok (.dup2, 1) := by decide +kernel
theorem dX4_pickUnits_134 : decode cX4_pickUnits 134 = .ok (.iaload, 1) := by decide +kernel
theorem dX4_pickUnits_135 : decode cX4_pickUnits 135 = .ok (.iconst 1, 1) := by decide +kernel
theorem dX4_pickUnits_136 : decode cX4_pickUnits 136 = .ok (.iadd, 1) := by decide +kernel
theorem dX4_pickUnits_137 : decode cX4_pickUnits 137 = .ok (.iastore, 1) := by decide +kernel
theorem dX4_pickUnits_138 : decode cX4_pickUnits 138 = .ok (.aload_n 0, 1) := by decide +kernel
theorem dX4_pickUnits_139 : decode cX4_pickUnits 139 = .ok (.getfield 47, 3) := by decide +kernel
theorem dX4_pickUnits_142 : decode cX4_pickUnits 142 = .ok (.dup, 1) := by decide +kernel
theorem dX4_pickUnits_143 : decode cX4_pickUnits 143 = .ok (.getfield 123, 3) := by decide +kernel
theorem dX4_pickUnits_146 : decode cX4_pickUnits 146 = .ok (.iconst 1, 1) := by decide +kernel
theorem dX4_pickUnits_147 : decode cX4_pickUnits 147 = .ok (.iadd, 1) := by decide +kernel
theorem dX4_pickUnits_148 : decode cX4_pickUnits 148 = .ok (.putfield 123, 3) := by decide +kernel
theorem dX4_pickUnits_151 : decode cX4_pickUnits 151 = .ok (.aload_n 0, 1) := by decide +kernel
theorem dX4_pickUnits_152 : decode cX4_pickUnits 152 = .ok (.getfield 47, 3) := by decide +kernel
theorem dX4_pickUnits_155 : decode cX4_pickUnits 155 = .ok (.dup, 1) := by decide +kernel
theorem dX4_pickUnits_156 : decode cX4_pickUnits 156 = .ok (.getfield 126, 3) := by decide +kernel
theorem dX4_pickUnits_159 : decode cX4_pickUnits 159 = .ok (.aload_n 0, 1) := by decide +kernel
theorem dX4_pickUnits_160 : decode cX4_pickUnits 160 = .ok (.getfield 21, 3) := by decide +kernel
theorem dX4_pickUnits_163 : decode cX4_pickUnits 163 = .ok (.iload_n 1, 1) := by decide +kernel
theorem dX4_pickUnits_164 : decode cX4_pickUnits 164 = .ok (.iaload, 1) := by decide +kernel
theorem dX4_pickUnits_165 : decode cX4_pickUnits 165 = .ok (.invokestatic 111, 3) := by decide +kernel
theorem dX4_pickUnits_168 : decode cX4_pickUnits 168 = .ok (.iadd, 1) := by decide +kernel
theorem dX4_pickUnits_169 : decode cX4_pickUnits 169 = .ok (.putfield 126, 3) := by decide +kernel
theorem dX4_pickUnits_172 : decode cX4_pickUnits 172 = .ok (.iload 5, 2) := by decide +kernel
theorem dX4_pickUnits_174 : decode cX4_pickUnits 174 = .ok (.ireturn, 1) := by decide +kernel
set_option maxRecDepth 20000 in
theorem ggX4_refillSlot_X4_isGood : GoodIn wsX4_refillSlot wsX4_isGood := goodIn_r _ [5, 6, 42, 43, 44, 45, 46, 47, 48, 49, 50, 51, 52, 53, 54] (by decide +kernel) (by decide +kernel)
set_option maxRecDepth 20000 in
theorem gX4_refillSlot_X4_isGood : GoodIn wsX4_refillSlot (wsV RX4 90 RX4 yX4_isGood wsX4_isGood) := goodIn_app (goodIn_of _ (by decide +kernel)) ggX4_refillSlot_X4_isGood
set_option maxRecDepth 20000 in
theorem ggX4_refillSlot_X4_isPlaced : GoodIn wsX4_refillSlot wsX4_isPlaced := goodIn_r _ [10, 11, 12, 13, 14, 15, 42, 43, 44, 45, 46, 47, 48, 49, 50, 51, 52, 53, 54] (by decide +kernel) (by decide +kernel)
set_option maxRecDepth 20000 in
theorem gX4_refillSlot_X4_isPlaced : GoodIn wsX4_refillSlot (wsV RX4 100 RX4 yX4_isPlaced wsX4_isPlaced) := goodIn_app (goodIn_of _ (by decide +kernel)) ggX4_refillSlot_X4_isPlaced
set_option maxRecDepth 20000 in
theorem ggX4_refillSlot_X4_unitsToBring : GoodIn wsX4_refillSlot wsX4_unitsToBring := goodIn_r _ [19, 20, 21, 22, 23, 24, 25, 26, 42, 43, 44, 45, 46, 47, 48, 49, 50, 51, 52, 53, 54] (by decide +kernel) (by decide +kernel)
set_option maxRecDepth 20000 in
theorem gX4_refillSlot_X4_unitsToBring : GoodIn wsX4_refillSlot (wsV RX4 117 RX4 yX4_unitsToBring wsX4_unitsToBring) := goodIn_app (goodIn_of _ (by decide +kernel)) ggX4_refillSlot_X4_unitsToBring
set_option maxRecDepth 20000 in
theorem ggX4_refillSlot_X4_bring : GoodIn wsX4_refillSlot wsX4_bring := goodIn_r _ [30, 31, 32, 11, 22, 21, 33, 34, 35, 36, 4, 37, 38, 39, 14, 40, 41, 42, 43, 44, 45, 46, 47, 48, 49, 50, 51, 52, 53, 54, 55, 56, 57, 58, 59, 60, 61] (by decide +kernel) (by decide +kernel)
set_option maxRecDepth 20000 in
theorem gX4_refillSlot_X4_bring : GoodIn wsX4_refillSlot (wsV RX4 120 RX4 yX4_bring wsX4_bring) := goodIn_app (goodIn_of _ (by decide +kernel)) ggX4_refillSlot_X4_bring
theorem dX4_refillSlot_0 : decode cX4_refillSlot 0 = .ok (.aload_n 0, 1) := by decide +kernel
theorem dX4_refillSlot_1 : decode cX4_refillSlot 1 = .ok (.iload_n 1, 1) := by decide +kernel
theorem dX4_refillSlot_2 : decode cX4_refillSlot 2 = .ok (.invokevirtual 90, 3) := by decide +kernel
theorem dX4_refillSlot_5 : decode cX4_refillSlot 5 = .ok (.ifCond .ne 5, 3) := by decide +kernel
theorem dX4_refillSlot_8 : decode cX4_refillSlot 8 = .ok (.iconst (-1), 1) := by decide +kernel
theorem dX4_refillSlot_9 : decode cX4_refillSlot 9 = .ok (.ireturn, 1) := by decide +kernel
theorem dX4_refillSlot_10 : decode cX4_refillSlot 10 = .ok (.aload_n 0, 1) := by decide +kernel
theorem dX4_refillSlot_11 : decode cX4_refillSlot 11 = .ok (.iload_n 1, 1) := by decide +kernel
theorem dX4_refillSlot_12 : decode cX4_refillSlot 12 = .ok (.invokevirtual 100, 3) := by decide +kernel
theorem dX4_refillSlot_15 : decode cX4_refillSlot 15 = .ok (.ifCond .eq 12, 3) := by decide +kernel
theorem dX4_refillSlot_18 : decode cX4_refillSlot 18 = .ok (.aload_n 0, 1) := by decide +kernel
theorem dX4_refillSlot_19 : decode cX4_refillSlot 19 = .ok (.iload_n 1, 1) := by decide +kernel
theorem dX4_refillSlot_20 : decode cX4_refillSlot 20 = .ok (.invokevirtual 117, 3) := by decide +kernel
theorem dX4_refillSlot_23 : decode cX4_refillSlot 23 = .ok (.iconst 1, 1) := by decide +kernel
theorem dX4_refillSlot_24 : decode cX4_refillSlot 24 = .ok (.if_icmp .ge 6, 3) := by decide +kernel
theorem dX4_refillSlot_27 : decode cX4_refillSlot 27 = .ok (.bipush (-2), 2) := by decide +kernel
theorem dX4_refillSlot_29 : decode cX4_refillSlot 29 = .ok (.ireturn, 1) := by decide +kernel
theorem dX4_refillSlot_30 : decode cX4_refillSlot 30 = .ok (.aload_n 0, 1) := by decide +kernel
theorem dX4_refillSlot_31 : decode cX4_refillSlot 31 = .ok (.iload_n 1, 1) := by decide +kernel
theorem dX4_refillSlot_32 : decode cX4_refillSlot 32 = .ok (.invokevirtual 117, 3) := by decide +kernel
theorem dX4_refillSlot_35 : decode cX4_refillSlot 35 = .ok (.istore_n 2, 1) := by decide +kernel
theorem dX4_refillSlot_36 : decode cX4_refillSlot 36 = .ok (.aload_n 0, 1) := by decide +kernel
theorem dX4_refillSlot_37 : decode cX4_refillSlot 37 = .ok (.iload_n 1, 1) := by decide +kernel
theorem dX4_refillSlot_38 : decode cX4_refillSlot 38 = .ok (.iload_n 2, 1) := by decide +kernel
theorem dX4_refillSlot_39 : decode cX4_refillSlot 39 = .ok (.invokevirtual 120, 3) := by decide +kernel
theorem dX4_refillSlot_42 : decode cX4_refillSlot 42 = .ok (.pop, 1) := by decide +kernel
theorem dX4_refillSlot_43 : decode cX4_refillSlot 43 = .ok (.iload_n 2, 1) := by decide +kernel
theorem dX4_refillSlot_44 : decode cX4_refillSlot 44 = .ok (.ireturn, 1) := by decide +kernel
theorem dX4_unitsToBring_0 : decode cX4_unitsToBring 0 = .ok (.aload_n 0, 1) := by decide +kernel
theorem dX4_unitsToBring_1 : decode cX4_unitsToBring 1 = .ok (.getfield 15, 3) := by decide +kernel
theorem dX4_unitsToBring_4 : decode cX4_unitsToBring 4 = .ok (.iload_n 1, 1) := by decide +kernel
theorem dX4_unitsToBring_5 : decode cX4_unitsToBring 5 = .ok (.iaload, 1) := by decide +kernel
theorem dX4_unitsToBring_6 : decode cX4_unitsToBring 6 = .ok (.aload_n 0, 1) := by decide +kernel
theorem dX4_unitsToBring_7 : decode cX4_unitsToBring 7 = .ok (.getfield 24, 3) := by decide +kernel
theorem dX4_unitsToBring_10 : decode cX4_unitsToBring 10 = .ok (.iload_n 1, 1) := by decide +kernel
theorem dX4_unitsToBring_11 : decode cX4_unitsToBring 11 = .ok (.iaload, 1) := by decide +kernel
theorem dX4_unitsToBring_12 : decode cX4_unitsToBring 12 = .ok (.isub, 1) := by decide +kernel
theorem dX4_unitsToBring_13 : decode cX4_unitsToBring 13 = .ok (.aload_n 0, 1) := by decide +kernel
theorem dX4_unitsToBring_14 : decode cX4_unitsToBring 14 = .ok (.getfield 27, 3) := by decide +kernel
theorem dX4_unitsToBring_17 : decode cX4_unitsToBring 17 = .ok (.iload_n 1, 1) := by decide +kernel
theorem dX4_unitsToBring_18 : decode cX4_unitsToBring 18 = .ok (.iaload, 1) := by decide +kernel
theorem dX4_unitsToBring_19 : decode cX4_unitsToBring 19 = .ok (.invokestatic 66, 3) := by decide +kernel
theorem dX4_unitsToBring_22 : decode cX4_unitsToBring 22 = .ok (.ireturn, 1) := by decide +kernel
set_option maxRecDepth 20000 in
theorem ggX4_bring_X4_tripsFor : GoodIn wsX4_bring wsX4_tripsFor := goodIn_r _ [11, 2, 17, 18, 19, 20, 21, 22, 23, 24, 25, 26, 27, 28, 29] (by decide +kernel) (by decide +kernel)
set_option maxRecDepth 20000 in
theorem gX4_bring_X4_tripsFor : GoodIn wsX4_bring (wsV RX4 129 RX4 yX4_tripsFor wsX4_tripsFor) := goodIn_app (goodIn_of _ (by decide +kernel)) ggX4_bring_X4_tripsFor
set_option maxRecDepth 20000 in
theorem ggX4_bring_X2_walkTo : GoodIn wsX4_bring wsX2_walkTo := goodIn_r _ [15, 16] (by decide +kernel) (by decide +kernel)
set_option maxRecDepth 20000 in
theorem gX4_bring_X2_walkTo : GoodIn wsX4_bring (va_wsS RX4 111 yX2_walkTo wsX2_walkTo) := goodIn_app (goodIn_of _ (by decide +kernel)) ggX4_bring_X2_walkTo
theorem dX4_bring_0 : decode cX4_bring 0 = .ok (.aload_n 0, 1) := by decide +kernel
theorem dX4_bring_1 : decode cX4_bring 1 = .ok (.iload_n 2, 1) := by decide +kernel
theorem dX4_bring_2 : decode cX4_bring 2 = .ok (.aload_n 0, 1) := by decide +kernel
theorem dX4_bring_3 : decode cX4_bring 3 = .ok (.getfield 9, 3) := by decide +kernel
theorem dX4_bring_6 : decode cX4_bring 6 = .ok (.iload_n 1, 1) := by decide +kernel
theorem dX4_bring_7 : decode cX4_bring 7 = .ok (.iaload, 1) := by decide +kernel
theorem dX4_bring_8 : decode cX4_bring 8 = .ok (.imul, 1) := by decide +kernel
theorem dX4_bring_9 : decode cX4_bring 9 = .ok (.invokevirtual 129, 3) := by decide +kernel
theorem dX4_bring_12 : decode cX4_bring 12 = .ok (.istore_n 3, 1) := by decide +kernel
theorem dX4_bring_13 : decode cX4_bring 13 = .ok (.iload_n 3, 1) := by decide +kernel
theorem dX4_bring_14 : decode cX4_bring 14 = .ok (.aload_n 0, 1) := by decide +kernel
theorem dX4_bring_15 : decode cX4_bring 15 = .ok (.getfield 41, 3) := by decide +kernel
theorem dX4_bring_18 : decode cX4_bring 18 = .ok (.iconst 0, 1) := by decide +kernel
theorem dX4_bring_19 : decode cX4_bring 19 = .ok (.iaload, 1) := by decide +kernel
theorem dX4_bring_20 : decode cX4_bring 20 = .ok (.aload_n 0, 1) := by decide +kernel
theorem dX4_bring_21 : decode cX4_bring 21 = .ok (.getfield 21, 3) := by decide +kernel
theorem dX4_bring_24 : decode cX4_bring 24 = .ok (.iload_n 1, 1) := by decide +kernel
theorem dX4_bring_25 : decode cX4_bring 25 = .ok (.iaload, 1) := by decide +kernel
theorem dX4_bring_26 : decode cX4_bring 26 = .ok (.invokestatic 111, 3) := by decide +kernel
theorem dX4_bring_29 : decode cX4_bring 29 = .ok (.iadd, 1) := by decide +kernel
theorem dX4_bring_30 : decode cX4_bring 30 = .ok (.imul, 1) := by decide +kernel
theorem dX4_bring_31 : decode cX4_bring 31 = .ok (.istore 4, 2) := by decide +kernel
theorem dX4_bring_33 : decode cX4_bring 33 = .ok (.aload_n 0, 1) := by decide +kernel
theorem dX4_bring_34 : decode cX4_bring 34 = .ok (.getfield 27, 3) := by decide +kernel
theorem dX4_bring_37 : decode cX4_bring 37 = .ok (.iload_n 1, 1) := by decide +kernel
theorem dX4_bring_38 : decode cX4_bring 38 = .ok (.dup2, 1) := by decide +kernel
theorem dX4_bring_39 : decode cX4_bring 39 = .ok (.iaload, 1) := by decide +kernel
theorem dX4_bring_40 : decode cX4_bring 40 = .ok (.iload_n 2, 1) := by decide +kernel
theorem dX4_bring_41 : decode cX4_bring 41 = .ok (.isub, 1) := by decide +kernel
theorem dX4_bring_42 : decode cX4_bring 42 = .ok (.iastore, 1) := by decide +kernel
theorem dX4_bring_43 : decode cX4_bring 43 = .ok (.aload_n 0, 1) := by decide +kernel
theorem dX4_bring_44 : decode cX4_bring 44 = .ok (.getfield 24, 3) := by decide +kernel
theorem dX4_bring_47 : decode cX4_bring 47 = .ok (.iload_n 1, 1) := by decide +kernel
theorem dX4_bring_48 : decode cX4_bring 48 = .ok (.dup2, 1) := by decide +kernel
theorem dX4_bring_49 : decode cX4_bring 49 = .ok (.iaload, 1) := by decide +kernel
theorem dX4_bring_50 : decode cX4_bring 50 = .ok (.iload_n 2, 1) := by decide +kernel
theorem dX4_bring_51 : decode cX4_bring 51 = .ok (.iadd, 1) := by decide +kernel
theorem dX4_bring_52 : decode cX4_bring 52 = .ok (.iastore, 1) := by decide +kernel
theorem dX4_bring_53 : decode cX4_bring 53 = .ok (.aload_n 0, 1) := by decide +kernel
theorem dX4_bring_54 : decode cX4_bring 54 = .ok (.getfield 47, 3) := by decide +kernel
theorem dX4_bring_57 : decode cX4_bring 57 = .ok (.dup, 1) := by decide +kernel
theorem dX4_bring_58 : decode cX4_bring 58 = .ok (.getfield 132, 3) := by decide +kernel
theorem dX4_bring_61 : decode cX4_bring 61 = .ok (.iload_n 3, 1) := by decide +kernel
theorem dX4_bring_62 : decode cX4_bring 62 = .ok (.iadd, 1) := by decide +kernel
theorem dX4_bring_63 : decode cX4_bring 63 = .ok (.putfield 132, 3) := by decide +kernel
theorem dX4_bring_66 : decode cX4_bring 66 = .ok (.aload_n 0, 1) := by decide +kernel
theorem dX4_bring_67 : decode cX4_bring 67 = .ok (.getfield 47, 3) := by decide +kernel
theorem dX4_bring_70 : decode cX4_bring 70 = .ok (.dup, 1) := by decide +kernel
theorem dX4_bring_71 : decode cX4_bring 71 = .ok (.getfield 135, 3) := by decide +kernel
theorem dX4_bring_74 : decode cX4_bring 74 = .ok (.iload 4, 2) := by decide +kernel
theorem dX4_bring_76 : decode cX4_bring 76 = .ok (.iadd, 1) := by decide +kernel
theorem dX4_bring_77 : decode cX4_bring 77 = .ok (.putfield 135, 3) := by decide +kernel
theorem dX4_bring_80 : decode cX4_bring 80 = .ok (.iload 4, 2) := by decide +kernel
theorem dX4_bring_82 : decode cX4_bring 82 = .ok (.ireturn, 1) := by decide +kernel
theorem dX4_tripsFor_0 : decode cX4_tripsFor 0 = .ok (.aload_n 0, 1) := by decide +kernel
theorem dX4_tripsFor_1 : decode cX4_tripsFor 1 = .ok (.getfield 41, 3) := by decide +kernel
theorem dX4_tripsFor_4 : decode cX4_tripsFor 4 = .ok (.iconst 1, 1) := by decide +kernel
theorem dX4_tripsFor_5 : decode cX4_tripsFor 5 = .ok (.iaload, 1) := by decide +kernel
theorem dX4_tripsFor_6 : decode cX4_tripsFor 6 = .ok (.istore_n 2, 1) := by decide +kernel
theorem dX4_tripsFor_7 : decode cX4_tripsFor 7 = .ok (.iload_n 2, 1) := by decide +kernel
theorem dX4_tripsFor_8 : decode cX4_tripsFor 8 = .ok (.iconst 1, 1) := by decide +kernel
theorem dX4_tripsFor_9 : decode cX4_tripsFor 9 = .ok (.if_icmp .ge 7, 3) := by decide +kernel
theorem dX4_tripsFor_12 : decode cX4_tripsFor 12 = .ok (.iconst 0, 1) := by decide +kernel
theorem dX4_tripsFor_13 : decode cX4_tripsFor 13 = .ok (.goto 10, 3) := by decide +kernel
theorem dX4_tripsFor_16 : decode cX4_tripsFor 16 = .ok (.iload_n 1, 1) := by decide +kernel
theorem dX4_tripsFor_17 : decode cX4_tripsFor 17 = .ok (.iload_n 2, 1) := by decide +kernel
theorem dX4_tripsFor_18 : decode cX4_tripsFor 18 = .ok (.iadd, 1) := by decide +kernel
theorem dX4_tripsFor_19 : decode cX4_tripsFor 19 = .ok (.iconst 1, 1) := by decide +kernel
theorem dX4_tripsFor_20 : decode cX4_tripsFor 20 = .ok (.isub, 1) := by decide +kernel
theorem dX4_tripsFor_21 : decode cX4_tripsFor 21 = .ok (.iload_n 2, 1) := by decide +kernel
theorem dX4_tripsFor_22 : decode cX4_tripsFor 22 = .ok (.idiv, 1) := by decide +kernel
theorem dX4_tripsFor_23 : decode cX4_tripsFor 23 = .ok (.ireturn, 1) := by decide +kernel
set_option maxRecDepth 20000 in
theorem ggX4_finishWeek_X4_presentSeason : GoodIn wsX4_finishWeek wsX4_presentSeason := goodIn_r _ [13, 1, 18, 19, 20, 21, 22, 23, 24, 25, 26, 27, 28, 29, 30] (by decide +kernel) (by decide +kernel)
set_option maxRecDepth 20000 in
theorem gX4_finishWeek_X4_presentSeason : GoodIn wsX4_finishWeek (wsV RX4 138 RX4 yX4_presentSeason wsX4_presentSeason) := goodIn_app (goodIn_of _ (by decide +kernel)) ggX4_finishWeek_X4_presentSeason
set_option maxRecDepth 20000 in
theorem ggX4_finishWeek_X4_demandOf : GoodIn wsX4_finishWeek wsX4_demandOf := goodIn_r _ [17, 4, 18, 19, 20, 21, 22, 23, 24, 25, 26, 27, 28, 29, 30] (by decide +kernel) (by decide +kernel)
set_option maxRecDepth 20000 in
theorem gX4_finishWeek_X4_demandOf : GoodIn wsX4_finishWeek (wsV RX4 96 RX4 yX4_demandOf wsX4_demandOf) := goodIn_app (goodIn_of _ (by decide +kernel)) ggX4_finishWeek_X4_demandOf
theorem dX4_finishWeek_0 : decode cX4_finishWeek 0 = .ok (.aload_n 0, 1) := by decide +kernel
theorem dX4_finishWeek_1 : decode cX4_finishWeek 1 = .ok (.getfield 63, 3) := by decide +kernel
theorem dX4_finishWeek_4 : decode cX4_finishWeek 4 = .ok (.sipush 1000, 3) := by decide +kernel
theorem dX4_finishWeek_7 : decode cX4_finishWeek 7 = .ok (.if_icmp .lt 6, 3) := by decide +kernel
theorem dX4_finishWeek_10 : decode cX4_finishWeek 10 = .ok (.bipush (-3), 2) := by decide +kernel
theorem dX4_finishWeek_12 : decode cX4_finishWeek 12 = .ok (.ireturn, 1) := by decide +kernel
theorem dX4_finishWeek_13 : decode cX4_finishWeek 13 = .ok (.aload_n 0, 1) := by decide +kernel
theorem dX4_finishWeek_14 : decode cX4_finishWeek 14 = .ok (.invokevirtual 138, 3) := by decide +kernel
theorem dX4_finishWeek_17 : decode cX4_finishWeek 17 = .ok (.istore_n 1, 1) := by decide +kernel
theorem dX4_finishWeek_18 : decode cX4_finishWeek 18 = .ok (.iconst 0, 1) := by decide +kernel
theorem dX4_finishWeek_19 : decode cX4_finishWeek 19 = .ok (.istore_n 2, 1) := by decide +kernel
theorem dX4_finishWeek_20 : decode cX4_finishWeek 20 = .ok (.iload_n 2, 1) := by decide +kernel
theorem dX4_finishWeek_21 : decode cX4_finishWeek 21 = .ok (.aload_n 0, 1) := by decide +kernel
theorem dX4_finishWeek_22 : decode cX4_finishWeek 22 = .ok (.getfield 59, 3) := by decide +kernel
theorem dX4_finishWeek_25 : decode cX4_finishWeek 25 = .ok (.if_icmp .ge 51, 3) := by decide +kernel
theorem dX4_finishWeek_28 : decode cX4_finishWeek 28 = .ok (.iconst 3, 1) := by decide +kernel
theorem dX4_finishWeek_29 : decode cX4_finishWeek 29 = .ok (.aload_n 0, 1) := by decide +kernel
theorem dX4_finishWeek_30 : decode cX4_finishWeek 30 = .ok (.iload_n 2, 1) := by decide +kernel
theorem dX4_finishWeek_31 : decode cX4_finishWeek 31 = .ok (.iload_n 1, 1) := by decide +kernel
theorem dX4_finishWeek_32 : decode cX4_finishWeek 32 = .ok (.invokevirtual 96, 3) := by decide +kernel
theorem dX4_finishWeek_35 : decode cX4_finishWeek 35 = .ok (.imul, 1) := by decide +kernel
theorem dX4_finishWeek_36 : decode cX4_finishWeek 36 = .ok (.aload_n 0, 1) := by decide +kernel
theorem dX4_finishWeek_37 : decode cX4_finishWeek 37 = .ok (.getfield 30, 3) := by decide +kernel
theorem dX4_finishWeek_40 : decode cX4_finishWeek 40 = .ok (.iload_n 2, 1) := by decide +kernel
theorem dX4_finishWeek_41 : decode cX4_finishWeek 41 = .ok (.iaload, 1) := by decide +kernel
theorem dX4_finishWeek_42 : decode cX4_finishWeek 42 = .ok (.iadd, 1) := by decide +kernel
theorem dX4_finishWeek_43 : decode cX4_finishWeek 43 = .ok (.iconst 4, 1) := by decide +kernel
theorem dX4_finishWeek_44 : decode cX4_finishWeek 44 = .ok (.idiv, 1) := by decide +kernel
theorem dX4_finishWeek_45 : decode cX4_finishWeek 45 = .ok (.istore_n 3, 1) := by decide +kernel
theorem dX4_finishWeek_46 : decode cX4_finishWeek 46 = .ok (.aload_n 0, 1) := by decide +kernel
theorem dX4_finishWeek_47 : decode cX4_finishWeek 47 = .ok (.getfield 18, 3) := by decide +kernel
theorem dX4_finishWeek_50 : decode cX4_finishWeek 50 = .ok (.iload_n 2, 1) := by decide +kernel
theorem dX4_finishWeek_51 : decode cX4_finishWeek 51 = .ok (.iconst 4, 1) := by decide +kernel
theorem dX4_finishWeek_52 : decode cX4_finishWeek 52 = .ok (.imul, 1) := by decide +kernel
theorem dX4_finishWeek_53 : decode cX4_finishWeek 53 = .ok (.iload_n 1, 1) := by decide +kernel
theorem dX4_finishWeek_54 : decode cX4_finishWeek 54 = .ok (.iadd, 1) := by decide +kernel
theorem dX4_finishWeek_55 : decode cX4_finishWeek 55 = .ok (.iload_n 3, 1) := by decide +kernel
theorem dX4_finishWeek_56 : decode cX4_finishWeek 56 = .ok (.sipush 999, 3) := by decide +kernel
theorem dX4_finishWeek_59 : decode cX4_finishWeek 59 = .ok (.invokestatic 66, 3) := by decide +kernel
theorem dX4_finishWeek_62 : decode cX4_finishWeek 62 = .ok (.iastore, 1) := by decide +kernel
theorem dX4_finishWeek_63 : decode cX4_finishWeek 63 = .ok (.aload_n 0, 1) := by decide +kernel
theorem dX4_finishWeek_64 : decode cX4_finishWeek 64 = .ok (.getfield 30, 3) := by decide +kernel
theorem dX4_finishWeek_67 : decode cX4_finishWeek 67 = .ok (.iload_n 2, 1) := by decide +kernel
theorem dX4_finishWeek_68 : decode cX4_finishWeek 68 = .ok (.iconst 0, 1) := by decide +kernel
theorem dX4_finishWeek_69 : decode cX4_finishWeek 69 = .ok (.iastore, 1) := by decide +kernel
theorem dX4_finishWeek_70 : decode cX4_finishWeek 70 = .ok (.iinc 2 1, 3) := by decide +kernel
theorem dX4_finishWeek_73 : decode cX4_finishWeek 73 = .ok (.goto (-53), 3) := by decide +kernel
theorem dX4_finishWeek_76 : decode cX4_finishWeek 76 = .ok (.aload_n 0, 1) := by decide +kernel
theorem dX4_finishWeek_77 : decode cX4_finishWeek 77 = .ok (.dup, 1) := by decide +kernel
theorem dX4_finishWeek_78 : decode cX4_finishWeek 78 = .ok (.getfield 63, 3) := by decide +kernel
theorem dX4_finishWeek_81 : decode cX4_finishWeek 81 = .ok (.iconst 1, 1) := by decide +kernel
theorem dX4_finishWeek_82 : decode cX4_finishWeek 82 = .ok (.iadd, 1) := by decide +kernel
theorem dX4_finishWeek_83 : decode cX4_finishWeek 83 = .ok (.putfield 63, 3) := by decide +kernel
theorem dX4_finishWeek_86 : decode cX4_finishWeek 86 = .ok (.aload_n 0, 1) := by decide +kernel
theorem dX4_finishWeek_87 : decode cX4_finishWeek 87 = .ok (.getfield 63, 3) := by decide +kernel
theorem dX4_finishWeek_90 : decode cX4_finishWeek 90 = .ok (.ireturn, 1) := by decide +kernel
set_option maxRecDepth 20000 in
theorem ggX4_moveGood_X4_isGood : GoodIn wsX4_moveGood wsX4_isGood := goodIn_r _ [7, 8, 65, 66, 67, 68, 69, 70, 71, 72, 73, 74, 75, 76, 77] (by decide +kernel) (by decide +kernel)
set_option maxRecDepth 20000 in
theorem gX4_moveGood_X4_isGood : GoodIn wsX4_moveGood (wsV RX4 90 RX4 yX4_isGood wsX4_isGood) := goodIn_app (goodIn_of _ (by decide +kernel)) ggX4_moveGood_X4_isGood
set_option maxRecDepth 20000 in
theorem ggX4_moveGood_X2_isSlot : GoodIn wsX4_moveGood wsX2_isSlot := goodIn_r _ [12] (by decide +kernel) (by decide +kernel)
set_option maxRecDepth 20000 in
theorem gX4_moveGood_X2_isSlot : GoodIn wsX4_moveGood (va_wsS RX4 78 yX2_isSlot wsX2_isSlot) := goodIn_app (goodIn_of _ (by decide +kernel)) ggX4_moveGood_X2_isSlot
set_option maxRecDepth 20000 in
theorem ggX4_moveGood_X4_canGo : GoodIn wsX4_moveGood wsX4_canGo := goodIn_r _ [16, 17, 1, 9, 10, 11, 12, 18, 19, 20, 6, 21, 22, 23, 24, 25, 26, 3, 4, 5, 7, 8, 65, 66, 67, 68, 69, 70, 71, 72, 73, 74, 75, 76, 77] (by decide +kernel) (by decide +kernel)
set_option maxRecDepth 20000 in
theorem gX4_moveGood_X4_canGo : GoodIn wsX4_moveGood (wsV RX4 142 RX4 yX4_canGo wsX4_canGo) := goodIn_app (goodIn_of _ (by decide +kernel)) ggX4_moveGood_X4_canGo
set_option maxRecDepth 20000 in
theorem ggX4_moveGood_X4_goTo : GoodIn wsX4_moveGood wsX4_goTo := goodIn_r _ [30, 31, 17, 1, 32, 33, 34, 6, 35, 36, 37, 38, 39, 40, 41, 42, 43, 44, 45, 3, 4, 5, 7, 8, 46, 47, 11, 48, 49, 50, 51, 52, 53, 22, 54, 55, 56, 57, 58, 59, 60, 61, 62, 63, 64, 65, 66, 67, 68, 69, 70, 71, 72, 73, 74, 75, 76, 77, 78, 79, 80, 81, 82, 83, 84] (by decide +kernel) (by decide +kernel)
set_option maxRecDepth 20000 in
theorem gX4_moveGood_X4_goTo : GoodIn wsX4_moveGood (wsV RX4 146 RX4 yX4_goTo wsX4_goTo) := goodIn_app (goodIn_of _ (by decide +kernel)) ggX4_moveGood_X4_goTo
theorem dX4_moveGood_0 : decode cX4_moveGood 0 = .ok (.aload_n 0, 1) := by decide +kernel
theorem dX4_moveGood_1 : decode cX4_moveGood 1 = .ok (.iload_n 1, 1) := by decide +kernel
theorem dX4_moveGood_2 : decode cX4_moveGood 2 = .ok (.invokevirtual 90, 3) := by decide +kernel
theorem dX4_moveGood_5 : decode cX4_moveGood 5 = .ok (.ifCond .eq 10, 3) := by decide +kernel
theorem dX4_moveGood_8 : decode cX4_moveGood 8 = .ok (.iload_n 2, 1) := by decide +kernel
theorem dX4_moveGood_9 : decode cX4_moveGood 9 = .ok (.invokestatic 78, 3) := by decide +kernel
theorem dX4_moveGood_12 : decode cX4_moveGood 12 = .ok (.ifCond .ne 5, 3) := by decide +kernel
theorem dX4_moveGood_15 : decode cX4_moveGood 15 = .ok (.iconst (-1), 1) := by decide +kernel
theorem dX4_moveGood_16 : decode cX4_moveGood 16 = .ok (.ireturn, 1) := by decide +kernel
theorem dX4_moveGood_17 : decode cX4_moveGood 17 = .ok (.aload_n 0, 1) := by decide +kernel
theorem dX4_moveGood_18 : decode cX4_moveGood 18 = .ok (.aload_n 0, 1) := by decide +kernel
theorem dX4_moveGood_19 : decode cX4_moveGood 19 = .ok (.getfield 38, 3) := by decide +kernel
theorem dX4_moveGood_22 : decode cX4_moveGood 22 = .ok (.iload_n 2, 1) := by decide +kernel
theorem dX4_moveGood_23 : decode cX4_moveGood 23 = .ok (.iaload, 1) := by decide +kernel
theorem dX4_moveGood_24 : decode cX4_moveGood 24 = .ok (.invokevirtual 90, 3) := by decide +kernel
theorem dX4_moveGood_27 : decode cX4_moveGood 27 = .ok (.ifCond .ne 12, 3) := by decide +kernel
theorem dX4_moveGood_30 : decode cX4_moveGood 30 = .ok (.aload_n 0, 1) := by decide +kernel
theorem dX4_moveGood_31 : decode cX4_moveGood 31 = .ok (.iload_n 1, 1) := by decide +kernel
theorem dX4_moveGood_32 : decode cX4_moveGood 32 = .ok (.iload_n 2, 1) := by decide +kernel
theorem dX4_moveGood_33 : decode cX4_moveGood 33 = .ok (.invokevirtual 142, 3) := by decide +kernel
theorem dX4_moveGood_36 : decode cX4_moveGood 36 = .ok (.ifCond .ne 6, 3) := by decide +kernel
theorem dX4_moveGood_39 : decode cX4_moveGood 39 = .ok (.bipush (-2), 2) := by decide +kernel
theorem dX4_moveGood_41 : decode cX4_moveGood 41 = .ok (.ireturn, 1) := by decide +kernel
theorem dX4_moveGood_42 : decode cX4_moveGood 42 = .ok (.ldc 145, 2) := by decide +kernel
theorem dX4_moveGood_44 : decode cX4_moveGood 44 = .ok (.aload_n 0, 1) := by decide +kernel
theorem dX4_moveGood_45 : decode cX4_moveGood 45 = .ok (.iload_n 1, 1) := by decide +kernel
theorem dX4_moveGood_46 : decode cX4_moveGood 46 = .ok (.iload_n 2, 1) := by decide +kernel
theorem dX4_moveGood_47 : decode cX4_moveGood 47 = .ok (.invokevirtual 146, 3) := by decide +kernel
theorem dX4_moveGood_50 : decode cX4_moveGood 50 = .ok (.iadd, 1) := by decide +kernel
theorem dX4_moveGood_51 : decode cX4_moveGood 51 = .ok (.ireturn, 1) := by decide +kernel
set_option maxRecDepth 20000 in
theorem ggX4_exchangeGoods_X4_isGood : GoodIn wsX4_exchangeGoods wsX4_isGood := goodIn_r _ [7, 8, 69, 70, 71, 72, 73, 74, 75, 76, 77, 78, 79, 80, 81] (by decide +kernel) (by decide +kernel)
set_option maxRecDepth 20000 in
theorem gX4_exchangeGoods_X4_isGood : GoodIn wsX4_exchangeGoods (wsV RX4 90 RX4 yX4_isGood wsX4_isGood) := goodIn_app (goodIn_of _ (by decide +kernel)) ggX4_exchangeGoods_X4_isGood
set_option maxRecDepth 20000 in
theorem ggX4_exchangeGoods_X4_isPlaced : GoodIn wsX4_exchangeGoods wsX4_isPlaced := goodIn_r _ [12, 1, 13, 14, 15, 16, 69, 70, 71, 72, 73, 74, 75, 76, 77, 78, 79, 80, 81] (by decide +kernel) (by decide +kernel)
set_option maxRecDepth 20000 in
theorem gX4_exchangeGoods_X4_isPlaced : GoodIn wsX4_exchangeGoods (wsV RX4 100 RX4 yX4_isPlaced wsX4_isPlaced) := goodIn_app (goodIn_of _ (by decide +kernel)) ggX4_exchangeGoods_X4_isPlaced
set_option maxRecDepth 20000 in
theorem ggX4_exchangeGoods_X4_canGo : GoodIn wsX4_exchangeGoods wsX4_canGo := goodIn_r _ [20, 1, 21, 13, 14, 15, 16, 22, 23, 24, 6, 25, 26, 27, 28, 29, 30, 3, 4, 5, 7, 8, 69, 70, 71, 72, 73, 74, 75, 76, 77, 78, 79, 80, 81] (by decide +kernel) (by decide +kernel)
set_option maxRecDepth 20000 in
theorem gX4_exchangeGoods_X4_canGo : GoodIn wsX4_exchangeGoods (wsV RX4 142 RX4 yX4_canGo wsX4_canGo) := goodIn_app (goodIn_of _ (by decide +kernel)) ggX4_exchangeGoods_X4_canGo
set_option maxRecDepth 20000 in
theorem ggX4_exchangeGoods_X4_goTo : GoodIn wsX4_exchangeGoods wsX4_goTo := goodIn_r _ [34, 35, 1, 21, 36, 37, 38, 6, 39, 40, 41, 42, 43, 44, 45, 46, 47, 48, 49, 3, 4, 5, 7, 8, 50, 51, 15, 52, 53, 54, 55, 56, 57, 26, 58, 59, 60, 61, 62, 63, 64, 65, 66, 67, 68, 69, 70, 71, 72, 73, 74, 75, 76, 77, 78, 79, 80, 81, 82, 83, 84, 85, 86, 87, 88] (by decide +kernel) (by decide +kernel)
set_option maxRecDepth 20000 in
theorem gX4_exchangeGoods_X4_goTo : GoodIn wsX4_exchangeGoods (wsV RX4 146 RX4 yX4_goTo wsX4_goTo) := goodIn_app (goodIn_of _ (by decide +kernel)) ggX4_exchangeGoods_X4_goTo
theorem dX4_exchangeGoods_0 : decode cX4_exchangeGoods 0 = .ok (.aload_n 0, 1) := by decide +kernel
theorem dX4_exchangeGoods_1 : decode cX4_exchangeGoods 1 = .ok (.iload_n 1, 1) := by decide +kernel
theorem dX4_exchangeGoods_2 : decode cX4_exchangeGoods 2 = .ok (.invokevirtual 90, 3) := by decide +kernel
theorem dX4_exchangeGoods_5 : decode cX4_exchangeGoods 5 = .ok (.ifCond .eq 16, 3) := by decide +kernel
theorem dX4_exchangeGoods_8 : decode cX4_exchangeGoods 8 = .ok (.aload_n 0, 1) := by decide +kernel
theorem dX4_exchangeGoods_9 : decode cX4_exchangeGoods 9 = .ok (.iload_n 2, 1) := by decide +kernel
theorem dX4_exchangeGoods_10 : decode cX4_exchangeGoods 10 = .ok (.invokevirtual 90, 3) := by decide +kernel
theorem dX4_exchangeGoods_13 : decode cX4_exchangeGoods 13 = .ok (.ifCond .eq 8, 3) := by decide +kernel
theorem dX4_exchangeGoods_16 : decode cX4_exchangeGoods 16 = .ok (.iload_n 1, 1) := by decide +kernel
theorem dX4_exchangeGoods_17 : decode cX4_exchangeGoods 17 = .ok (.iload_n 2, 1) := by decide +kernel
theorem dX4_exchangeGoods_18 : decode cX4_exchangeGoods 18 = .ok (.if_icmp .ne 5, 3) := by decide +kernel
theorem dX4_exchangeGoods_21 : decode cX4_exchangeGoods 21 = .ok (.iconst (-1), 1) := by decide +kernel
theorem dX4_exchangeGoods_22 : decode cX4_exchangeGoods 22 = .ok (.ireturn, 1) := by decide +kernel
theorem dX4_exchangeGoods_23 : decode cX4_exchangeGoods 23 = .ok (.aload_n 0, 1) := by decide +kernel
theorem dX4_exchangeGoods_24 : decode cX4_exchangeGoods 24 = .ok (.iload_n 2, 1) := by decide +kernel
theorem dX4_exchangeGoods_25 : decode cX4_exchangeGoods 25 = .ok (.invokevirtual 100, 3) := by decide +kernel
theorem dX4_exchangeGoods_28 : decode cX4_exchangeGoods 28 = .ok (.ifCond .eq 17, 3) := by decide +kernel
theorem dX4_exchangeGoods_31 : decode cX4_exchangeGoods 31 = .ok (.aload_n 0, 1) := by decide +kernel
theorem dX4_exchangeGoods_32 : decode cX4_exchangeGoods 32 = .ok (.iload_n 1, 1) := by decide +kernel
theorem dX4_exchangeGoods_33 : decode cX4_exchangeGoods 33 = .ok (.aload_n 0, 1) := by decide +kernel
theorem dX4_exchangeGoods_34 : decode cX4_exchangeGoods 34 = .ok (.getfield 21, 3) := by decide +kernel
theorem dX4_exchangeGoods_37 : decode cX4_exchangeGoods 37 = .ok (.iload_n 2, 1) := by decide +kernel
theorem dX4_exchangeGoods_38 : decode cX4_exchangeGoods 38 = .ok (.iaload, 1) := by decide +kernel
theorem dX4_exchangeGoods_39 : decode cX4_exchangeGoods 39 = .ok (.invokevirtual 142, 3) := by decide +kernel
theorem dX4_exchangeGoods_42 : decode cX4_exchangeGoods 42 = .ok (.ifCond .ne 6, 3) := by decide +kernel
theorem dX4_exchangeGoods_45 : decode cX4_exchangeGoods 45 = .ok (.bipush (-2), 2) := by decide +kernel
theorem dX4_exchangeGoods_47 : decode cX4_exchangeGoods 47 = .ok (.ireturn, 1) := by decide +kernel
theorem dX4_exchangeGoods_48 : decode cX4_exchangeGoods 48 = .ok (.ldc 145, 2) := by decide +kernel
theorem dX4_exchangeGoods_50 : decode cX4_exchangeGoods 50 = .ok (.aload_n 0, 1) := by decide +kernel
theorem dX4_exchangeGoods_51 : decode cX4_exchangeGoods 51 = .ok (.iload_n 1, 1) := by decide +kernel
theorem dX4_exchangeGoods_52 : decode cX4_exchangeGoods 52 = .ok (.aload_n 0, 1) := by decide +kernel
theorem dX4_exchangeGoods_53 : decode cX4_exchangeGoods 53 = .ok (.getfield 21, 3) := by decide +kernel
theorem dX4_exchangeGoods_56 : decode cX4_exchangeGoods 56 = .ok (.iload_n 2, 1) := by decide +kernel
theorem dX4_exchangeGoods_57 : decode cX4_exchangeGoods 57 = .ok (.iaload, 1) := by decide +kernel
theorem dX4_exchangeGoods_58 : decode cX4_exchangeGoods 58 = .ok (.invokevirtual 146, 3) := by decide +kernel
theorem dX4_exchangeGoods_61 : decode cX4_exchangeGoods 61 = .ok (.iadd, 1) := by decide +kernel
theorem dX4_exchangeGoods_62 : decode cX4_exchangeGoods 62 = .ok (.ireturn, 1) := by decide +kernel
set_option maxRecDepth 20000 in
theorem ggX4_numberOfChange_X4_isGood : GoodIn wsX4_numberOfChange wsX4_isGood := goodIn_r _ [6, 7, 67, 68, 69, 70, 71, 72, 73, 74, 75, 76, 77, 78, 79] (by decide +kernel) (by decide +kernel)
set_option maxRecDepth 20000 in
theorem gX4_numberOfChange_X4_isGood : GoodIn wsX4_numberOfChange (wsV RX4 90 RX4 yX4_isGood wsX4_isGood) := goodIn_app (goodIn_of _ (by decide +kernel)) ggX4_numberOfChange_X4_isGood
set_option maxRecDepth 20000 in
theorem ggX4_numberOfChange_X2_isSlot : GoodIn wsX4_numberOfChange wsX2_isSlot := goodIn_r _ [11] (by decide +kernel) (by decide +kernel)
set_option maxRecDepth 20000 in
theorem gX4_numberOfChange_X2_isSlot : GoodIn wsX4_numberOfChange (va_wsS RX4 78 yX2_isSlot wsX2_isSlot) := goodIn_app (goodIn_of _ (by decide +kernel)) ggX4_numberOfChange_X2_isSlot
set_option maxRecDepth 20000 in
theorem ggX4_numberOfChange_X5_isIn : GoodIn wsX4_numberOfChange wsX5_isIn := goodIn_r _ [14] (by decide +kernel) (by decide +kernel)
set_option maxRecDepth 20000 in
theorem gX4_numberOfChange_X5_isIn_n86 : GoodIn wsX4_numberOfChange (wsX5_isIn) := ggX4_numberOfChange_X5_isIn
set_option maxRecDepth 20000 in
theorem ggX4_numberOfChange_X4_canGo : GoodIn wsX4_numberOfChange wsX4_canGo := goodIn_r _ [18, 19, 20, 8, 9, 10, 11, 21, 22, 23, 5, 24, 25, 26, 27, 28, 29, 2, 3, 4, 6, 7, 67, 68, 69, 70, 71, 72, 73, 74, 75, 76, 77, 78, 79] (by decide +kernel) (by decide +kernel)
set_option maxRecDepth 20000 in
theorem gX4_numberOfChange_X4_canGo : GoodIn wsX4_numberOfChange (wsV RX4 142 RX4 yX4_canGo wsX4_canGo) := goodIn_app (goodIn_of _ (by decide +kernel)) ggX4_numberOfChange_X4_canGo
set_option maxRecDepth 20000 in
theorem ggX4_numberOfChange_X4_walkOfGoing : GoodIn wsX4_numberOfChange wsX4_walkOfGoing := goodIn_r _ [33, 19, 20, 25, 34, 35, 10, 36, 37, 38, 39, 40, 41, 2, 3, 4, 5, 6, 7, 67, 68, 69, 70, 71, 72, 73, 74, 75, 76, 77, 78, 79] (by decide +kernel) (by decide +kernel)
set_option maxRecDepth 20000 in
theorem gX4_numberOfChange_X4_walkOfGoing : GoodIn wsX4_numberOfChange (wsV RX4 149 RX4 yX4_walkOfGoing wsX4_walkOfGoing) := goodIn_app (goodIn_of _ (by decide +kernel)) ggX4_numberOfChange_X4_walkOfGoing
set_option maxRecDepth 20000 in
theorem ggX4_numberOfChange_X4_worthOfGoing : GoodIn wsX4_numberOfChange wsX4_worthOfGoing := goodIn_r _ [45, 46, 47, 48, 5, 49, 20, 19, 50, 51, 52, 53, 54, 55, 56, 57, 58, 59, 2, 3, 4, 6, 7, 60, 61, 10, 62, 41, 63, 64, 65, 66, 30, 31, 32, 33, 25, 34, 35, 36, 37, 38, 39, 40, 67, 68, 69, 70, 71, 72, 73, 74, 75, 76, 77, 78, 79] (by decide +kernel) (by decide +kernel)
set_option maxRecDepth 20000 in
theorem gX4_numberOfChange_X4_worthOfGoing : GoodIn wsX4_numberOfChange (wsV RX4 152 RX4 yX4_worthOfGoing wsX4_worthOfGoing) := goodIn_app (goodIn_of _ (by decide +kernel)) ggX4_numberOfChange_X4_worthOfGoing
set_option maxRecDepth 20000 in
theorem ggX4_numberOfChange_X4_savedByGoing : GoodIn wsX4_numberOfChange wsX4_savedByGoing := goodIn_r _ [49, 20, 19, 50, 51, 52, 5, 53, 54, 55, 56, 57, 58, 59, 2, 3, 4, 6, 7, 60, 61, 10, 62, 41, 67, 68, 69, 70, 71, 72, 73, 74, 75, 76, 77, 78, 79] (by decide +kernel) (by decide +kernel)
set_option maxRecDepth 20000 in
theorem gX4_numberOfChange_X4_savedByGoing : GoodIn wsX4_numberOfChange (wsV RX4 155 RX4 yX4_savedByGoing wsX4_savedByGoing) := goodIn_app (goodIn_of _ (by decide +kernel)) ggX4_numberOfChange_X4_savedByGoing
theorem dX4_numberOfChange_0 : decode cX4_numberOfChange 0 = .ok (.aload_n 0, 1) := by decide +kernel
theorem dX4_numberOfChange_1 : decode cX4_numberOfChange 1 = .ok (.iload_n 1, 1) := by decide +kernel
theorem dX4_numberOfChange_2 : decode cX4_numberOfChange 2 = .ok (.invokevirtual 90, 3) := by decide +kernel
theorem dX4_numberOfChange_5 : decode cX4_numberOfChange 5 = .ok (.ifCond .eq 19, 3) := by decide +kernel
theorem dX4_numberOfChange_8 : decode cX4_numberOfChange 8 = .ok (.iload_n 2, 1) := by decide +kernel
theorem dX4_numberOfChange_9 : decode cX4_numberOfChange 9 = .ok (.invokestatic 78, 3) := by decide +kernel
theorem dX4_numberOfChange_12 : decode cX4_numberOfChange 12 = .ok (.ifCond .eq 12, 3) := by decide +kernel
theorem dX4_numberOfChange_15 : decode cX4_numberOfChange 15 = .ok (.iload_n 3, 1) := by decide +kernel
theorem dX4_numberOfChange_16 : decode cX4_numberOfChange 16 = .ok (.iconst 0, 1) := by decide +kernel
theorem dX4_numberOfChange_17 : decode cX4_numberOfChange 17 = .ok (.iconst 2, 1) := by decide +kernel
theorem dX4_numberOfChange_18 : decode cX4_numberOfChange 18 = .ok (.invokestatic 86, 3) := by decide +kernel
theorem dX4_numberOfChange_21 : decode cX4_numberOfChange 21 = .ok (.ifCond .ne 5, 3) := by decide +kernel
theorem dX4_numberOfChange_24 : decode cX4_numberOfChange 24 = .ok (.iconst (-1), 1) := by decide +kernel
theorem dX4_numberOfChange_25 : decode cX4_numberOfChange 25 = .ok (.ireturn, 1) := by decide +kernel
theorem dX4_numberOfChange_26 : decode cX4_numberOfChange 26 = .ok (.aload_n 0, 1) := by decide +kernel
theorem dX4_numberOfChange_27 : decode cX4_numberOfChange 27 = .ok (.iload_n 1, 1) := by decide +kernel
theorem dX4_numberOfChange_28 : decode cX4_numberOfChange 28 = .ok (.iload_n 2, 1) := by decide +kernel
theorem dX4_numberOfChange_29 : decode cX4_numberOfChange 29 = .ok (.invokevirtual 142, 3) := by decide +kernel
theorem dX4_numberOfChange_32 : decode cX4_numberOfChange 32 = .ok (.ifCond .ne 6, 3) := by decide +kernel
theorem dX4_numberOfChange_35 : decode cX4_numberOfChange 35 = .ok (.bipush (-2), 2) := by decide +kernel
theorem dX4_numberOfChange_37 : decode cX4_numberOfChange 37 = .ok (.ireturn, 1) := by decide +kernel
theorem dX4_numberOfChange_38 : decode cX4_numberOfChange 38 = .ok (.iload_n 3, 1) := by decide +kernel
theorem dX4_numberOfChange_39 : decode cX4_numberOfChange 39 = .ok (.iconst 2, 1) := by decide +kernel
theorem dX4_numberOfChange_40 : decode cX4_numberOfChange 40 = .ok (.if_icmp .ne 10, 3) := by decide +kernel
theorem dX4_numberOfChange_43 : decode cX4_numberOfChange 43 = .ok (.aload_n 0, 1) := by decide +kernel
theorem dX4_numberOfChange_44 : decode cX4_numberOfChange 44 = .ok (.iload_n 1, 1) := by decide +kernel
theorem dX4_numberOfChange_45 : decode cX4_numberOfChange 45 = .ok (.iload_n 2, 1) := by decide +kernel
theorem dX4_numberOfChange_46 : decode cX4_numberOfChange 46 = .ok (.invokevirtual 149, 3) := by decide +kernel
theorem dX4_numberOfChange_49 : decode cX4_numberOfChange 49 = .ok (.ireturn, 1) := by decide +kernel
theorem dX4_numberOfChange_50 : decode cX4_numberOfChange 50 = .ok (.ldc 145, 2) := by decide +kernel
theorem dX4_numberOfChange_52 : decode cX4_numberOfChange 52 = .ok (.iload_n 3, 1) := by decide +kernel
theorem dX4_numberOfChange_53 : decode cX4_numberOfChange 53 = .ok (.ifCond .ne 12, 3) := by decide +kernel
theorem dX4_numberOfChange_56 : decode cX4_numberOfChange 56 = .ok (.aload_n 0, 1) := by decide +kernel
theorem dX4_numberOfChange_57 : decode cX4_numberOfChange 57 = .ok (.iload_n 1, 1) := by decide +kernel
theorem dX4_numberOfChange_58 : decode cX4_numberOfChange 58 = .ok (.iload_n 2, 1) := by decide +kernel
theorem dX4_numberOfChange_59 : decode cX4_numberOfChange 59 = .ok (.invokevirtual 152, 3) := by decide +kernel
theorem dX4_numberOfChange_62 : decode cX4_numberOfChange 62 = .ok (.goto 9, 3) := by decide +kernel
theorem dX4_numberOfChange_65 : decode cX4_numberOfChange 65 = .ok (.aload_n 0, 1) := by decide +kernel
theorem dX4_numberOfChange_66 : decode cX4_numberOfChange 66 = .ok (.iload_n 1, 1) := by decide +kernel
theorem dX4_numberOfChange_67 : decode cX4_numberOfChange 67 = .ok (.iload_n 2, 1) := by decide +kernel
theorem dX4_numberOfChange_68 : decode cX4_numberOfChange 68 = .ok (.invokevirtual 155, 3) := by decide +kernel
theorem dX4_numberOfChange_71 : decode cX4_numberOfChange 71 = .ok (.iadd, 1) := by decide +kernel
theorem dX4_numberOfChange_72 : decode cX4_numberOfChange 72 = .ok (.ireturn, 1) := by decide +kernel
set_option maxRecDepth 20000 in
theorem ggX4_numberOfBest_X5_isIn : GoodIn wsX4_numberOfBest wsX5_isIn := goodIn_r _ [3] (by decide +kernel) (by decide +kernel)
set_option maxRecDepth 20000 in
theorem gX4_numberOfBest_X5_isIn_n86 : GoodIn wsX4_numberOfBest (wsX5_isIn) := ggX4_numberOfBest_X5_isIn
set_option maxRecDepth 20000 in
theorem ggX4_numberOfBest_X4_bestGoing : GoodIn wsX4_numberOfBest wsX4_bestGoing := goodIn_r _ [8, 9, 10, 11, 12, 7, 13, 14, 15, 16, 17, 18, 19, 20, 21, 22, 23, 24, 25, 26, 27, 28, 29, 30, 31, 32, 33, 34, 35, 36, 37, 38, 39, 40, 41, 42, 43, 44, 45, 46, 47, 48, 49, 50, 51, 52, 53, 54, 55, 56, 57, 58, 59, 60, 61, 62, 63, 64, 65, 66, 67, 68, 69, 70, 71, 72, 73, 74, 75, 76, 77, 78, 79, 80, 81, 82] (by decide +kernel) (by decide +kernel)
set_option maxRecDepth 20000 in
theorem gX4_numberOfBest_X4_bestGoing : GoodIn wsX4_numberOfBest (wsV RX4 158 RX4 yX4_bestGoing wsX4_bestGoing) := goodIn_app (goodIn_of _ (by decide +kernel)) ggX4_numberOfBest_X4_bestGoing
set_option maxRecDepth 20000 in
theorem ggX4_numberOfBest_X4_worthOfGoing : GoodIn wsX4_numberOfBest wsX4_worthOfGoing := goodIn_r _ [36, 37, 38, 39, 7, 40, 15, 14, 41, 42, 43, 44, 45, 46, 47, 48, 49, 50, 29, 30, 31, 32, 9, 51, 52, 18, 53, 54, 55, 56, 57, 58, 59, 60, 61, 62, 24, 63, 64, 65, 66, 67, 68, 69, 70, 71, 72, 73, 74, 75, 76, 77, 78, 79, 80, 81, 82] (by decide +kernel) (by decide +kernel)
set_option maxRecDepth 20000 in
theorem gX4_numberOfBest_X4_worthOfGoing : GoodIn wsX4_numberOfBest (wsV RX4 152 RX4 yX4_worthOfGoing wsX4_worthOfGoing) := goodIn_app (goodIn_of _ (by decide +kernel)) ggX4_numberOfBest_X4_worthOfGoing
theorem dX4_numberOfBest_0 : decode cX4_numberOfBest 0 = .ok (.iload_n 1, 1) := by decide +kernel
theorem dX4_numberOfBest_1 : decode cX4_numberOfBest 1 = .ok (.iconst 0, 1) := by decide +kernel
theorem dX4_numberOfBest_2 : decode cX4_numberOfBest 2 = .ok (.iconst 2, 1) := by decide +kernel
theorem dX4_numberOfBest_3 : decode cX4_numberOfBest 3 = .ok (.invokestatic 86, 3) := by decide +kernel
theorem dX4_numberOfBest_6 : decode cX4_numberOfBest 6 = .ok (.ifCond .ne 5, 3) := by decide +kernel
theorem dX4_numberOfBest_9 : decode cX4_numberOfBest 9 = .ok (.iconst (-1), 1) := by decide +kernel
theorem dX4_numberOfBest_10 : decode cX4_numberOfBest 10 = .ok (.ireturn, 1) := by decide +kernel
theorem dX4_numberOfBest_11 : decode cX4_numberOfBest 11 = .ok (.aload_n 0, 1) := by decide +kernel
theorem dX4_numberOfBest_12 : decode cX4_numberOfBest 12 = .ok (.invokevirtual 158, 3) := by decide +kernel
theorem dX4_numberOfBest_15 : decode cX4_numberOfBest 15 = .ok (.istore_n 2, 1) := by decide +kernel
theorem dX4_numberOfBest_16 : decode cX4_numberOfBest 16 = .ok (.iload_n 2, 1) := by decide +kernel
theorem dX4_numberOfBest_17 : decode cX4_numberOfBest 17 = .ok (.ifCond .ge 6, 3) := by decide +kernel
theorem dX4_numberOfBest_20 : decode cX4_numberOfBest 20 = .ok (.bipush (-4), 2) := by decide +kernel
theorem dX4_numberOfBest_22 : decode cX4_numberOfBest 22 = .ok (.ireturn, 1) := by decide +kernel
theorem dX4_numberOfBest_23 : decode cX4_numberOfBest 23 = .ok (.iload_n 2, 1) := by decide +kernel
theorem dX4_numberOfBest_24 : decode cX4_numberOfBest 24 = .ok (.bipush 60, 2) := by decide +kernel
theorem dX4_numberOfBest_26 : decode cX4_numberOfBest 26 = .ok (.idiv, 1) := by decide +kernel
theorem dX4_numberOfBest_27 : decode cX4_numberOfBest 27 = .ok (.istore_n 3, 1) := by decide +kernel
theorem dX4_numberOfBest_28 : decode cX4_numberOfBest 28 = .ok (.iload_n 2, 1) := by decide +kernel
theorem dX4_numberOfBest_29 : decode cX4_numberOfBest 29 = .ok (.bipush 60, 2) := by decide +kernel
theorem dX4_numberOfBest_31 : decode cX4_numberOfBest 31 = .ok (.irem, 1) := by decide +kernel
theorem dX4_numberOfBest_32 : decode cX4_numberOfBest 32 = .ok (.istore 4, 2) := by decide +kernel
theorem dX4_numberOfBest_34 : decode cX4_numberOfBest 34 = .ok (.iload_n 1, 1) := by decide +kernel
theorem dX4_numberOfBest_35 : decode cX4_numberOfBest 35 = .ok (.ifCond .ne 5, 3) := by decide +kernel
theorem dX4_numberOfBest_38 : decode cX4_numberOfBest 38 = .ok (.iload_n 3, 1) := by decide +kernel
theorem dX4_numberOfBest_39 : decode cX4_numberOfBest 39 = .ok (.ireturn, 1) := by decide +kernel
theorem dX4_numberOfBest_40 : decode cX4_numberOfBest 40 = .ok (.iload_n 1, 1) := by decide +kernel
theorem dX4_numberOfBest_41 : decode cX4_numberOfBest 41 = .ok (.iconst 1, 1) := by decide +kernel
theorem dX4_numberOfBest_42 : decode cX4_numberOfBest 42 = .ok (.if_icmp .ne 8, 3) := by decide +kernel
theorem dX4_numberOfBest_45 : decode cX4_numberOfBest 45 = .ok (.iload 4, 2) := by decide +kernel
theorem dX4_numberOfBest_47 : decode cX4_numberOfBest 47 = .ok (.goto 10, 3) := by decide +kernel
theorem dX4_numberOfBest_50 : decode cX4_numberOfBest 50 = .ok (.aload_n 0, 1) := by decide +kernel
theorem dX4_numberOfBest_51 : decode cX4_numberOfBest 51 = .ok (.iload_n 3, 1) := by decide +kernel
theorem dX4_numberOfBest_52 : decode cX4_numberOfBest 52 = .ok (.iload 4, 2) := by decide +kernel
theorem dX4_numberOfBest_54 : decode cX4_numberOfBest 54 = .ok (.invokevirtual 152, 3) := by decide +kernel
theorem dX4_numberOfBest_57 : decode cX4_numberOfBest 57 = .ok (.ireturn, 1) := by decide +kernel
set_option maxRecDepth 20000 in
theorem ggX4_doBest_X5_isIn : GoodIn wsX4_doBest wsX5_isIn := goodIn_r _ [3] (by decide +kernel) (by decide +kernel)
set_option maxRecDepth 20000 in
theorem gX4_doBest_X5_isIn_n86 : GoodIn wsX4_doBest (wsX5_isIn) := ggX4_doBest_X5_isIn
set_option maxRecDepth 20000 in
theorem ggX4_doBest_X4_bestGoing : GoodIn wsX4_doBest wsX4_bestGoing := goodIn_r _ [8, 9, 10, 11, 12, 7, 13, 14, 15, 16, 17, 18, 19, 20, 21, 22, 23, 24, 25, 26, 27, 28, 29, 30, 31, 32, 33, 34, 35, 36, 37, 38, 39, 40, 41, 42, 43, 44, 45, 46, 47, 48, 49, 50, 51, 52, 53, 54, 55, 56, 57, 58, 59, 60, 61, 62, 63, 64, 65, 66, 67, 68, 69, 79, 80, 81, 82, 83, 84, 85, 86, 87, 88, 89, 90, 91] (by decide +kernel) (by decide +kernel)
set_option maxRecDepth 20000 in
theorem gX4_doBest_X4_bestGoing : GoodIn wsX4_doBest (wsV RX4 158 RX4 yX4_bestGoing wsX4_bestGoing) := goodIn_app (goodIn_of _ (by decide +kernel)) ggX4_doBest_X4_bestGoing
set_option maxRecDepth 20000 in
theorem ggX4_doBest_X4_goTo : GoodIn wsX4_doBest wsX4_goTo := goodIn_r _ [73, 74, 14, 15, 37, 38, 39, 7, 40, 41, 42, 43, 44, 45, 46, 47, 48, 49, 50, 29, 30, 31, 32, 9, 51, 52, 18, 53, 54, 59, 60, 61, 62, 24, 63, 64, 65, 66, 67, 68, 69, 75, 76, 77, 78, 79, 80, 81, 82, 83, 84, 85, 86, 87, 88, 89, 90, 91, 92, 93, 94, 95, 96, 97, 98] (by decide +kernel) (by decide +kernel)
set_option maxRecDepth 20000 in
theorem gX4_doBest_X4_goTo : GoodIn wsX4_doBest (wsV RX4 146 RX4 yX4_goTo wsX4_goTo) := goodIn_app (goodIn_of _ (by decide +kernel)) ggX4_doBest_X4_goTo
theorem dX4_doBest_0 : decode cX4_doBest 0 = .ok (.iload_n 1, 1) := by decide +kernel
theorem dX4_doBest_1 : decode cX4_doBest 1 = .ok (.iconst 1, 1) := by decide +kernel
theorem dX4_doBest_2 : decode cX4_doBest 2 = .ok (.bipush 10, 2) := by decide +kernel
theorem dX4_doBest_4 : decode cX4_doBest 4 = .ok (.invokestatic 86, 3) := by decide +kernel
theorem dX4_doBest_7 : decode cX4_doBest 7 = .ok (.ifCond .ne 5, 3) := by decide +kernel
theorem dX4_doBest_10 : decode cX4_doBest 10 = .ok (.iconst (-1), 1) := by decide +kernel
theorem dX4_doBest_11 : decode cX4_doBest 11 = .ok (.ireturn, 1) := by decide +kernel
theorem dX4_doBest_12 : decode cX4_doBest 12 = .ok (.iconst 0, 1) := by decide +kernel
theorem dX4_doBest_13 : decode cX4_doBest 13 = .ok (.istore_n 2, 1) := by decide +kernel
theorem dX4_doBest_14 : decode cX4_doBest 14 = .ok (.aload_n 0, 1) := by decide +kernel
theorem dX4_doBest_15 : decode cX4_doBest 15 = .ok (.invokevirtual 158, 3) := by decide +kernel
theorem dX4_doBest_18 : decode cX4_doBest 18 = .ok (.istore_n 3, 1) := by decide +kernel
theorem dX4_doBest_19 : decode cX4_doBest 19 = .ok (.iload_n 2, 1) := by decide +kernel
theorem dX4_doBest_20 : decode cX4_doBest 20 = .ok (.iload_n 1, 1) := by decide +kernel
theorem dX4_doBest_21 : decode cX4_doBest 21 = .ok (.if_icmp .ge 31, 3) := by decide +kernel
theorem dX4_doBest_24 : decode cX4_doBest 24 = .ok (.iload_n 3, 1) := by decide +kernel
theorem dX4_doBest_25 : decode cX4_doBest 25 = .ok (.ifCond .lt 27, 3) := by decide +kernel
theorem dX4_doBest_28 : decode cX4_doBest 28 = .ok (.aload_n 0, 1) := by decide +kernel
theorem dX4_doBest_29 : decode cX4_doBest 29 = .ok (.iload_n 3, 1) := by decide +kernel
theorem dX4_doBest_30 : decode cX4_doBest 30 = .ok (.bipush 60, 2) := by decide +kernel
theorem dX4_doBest_32 : decode cX4_doBest 32 = .ok (.idiv, 1) := by decide +kernel
theorem dX4_doBest_33 : decode cX4_doBest 33 = .ok (.iload_n 3, 1) := by decide +kernel
theorem dX4_doBest_34 : decode cX4_doBest 34 = .ok (.bipush 60, 2) := by decide +kernel
theorem dX4_doBest_36 : decode cX4_doBest 36 = .ok (.irem, 1) := by decide +kernel
theorem dX4_doBest_37 : decode cX4_doBest 37 = .ok (.invokevirtual 146, 3) := by decide +kernel
theorem dX4_doBest_40 : decode cX4_doBest 40 = .ok (.pop, 1) := by decide +kernel
theorem dX4_doBest_41 : decode cX4_doBest 41 = .ok (.iinc 2 1, 3) := by decide +kernel
theorem dX4_doBest_44 : decode cX4_doBest 44 = .ok (.aload_n 0, 1) := by decide +kernel
theorem dX4_doBest_45 : decode cX4_doBest 45 = .ok (.invokevirtual 158, 3) := by decide +kernel
theorem dX4_doBest_48 : decode cX4_doBest 48 = .ok (.istore_n 3, 1) := by decide +kernel
theorem dX4_doBest_49 : decode cX4_doBest 49 = .ok (.goto (-30), 3) := by decide +kernel
theorem dX4_doBest_52 : decode cX4_doBest 52 = .ok (.iload_n 2, 1) := by decide +kernel
theorem dX4_doBest_53 : decode cX4_doBest 53 = .ok (.ifCond .ne 8, 3) := by decide +kernel
theorem dX4_doBest_56 : decode cX4_doBest 56 = .ok (.bipush (-4), 2) := by decide +kernel
theorem dX4_doBest_58 : decode cX4_doBest 58 = .ok (.goto 4, 3) := by decide +kernel
theorem dX4_doBest_61 : decode cX4_doBest 61 = .ok (.iload_n 2, 1) := by decide +kernel
theorem dX4_doBest_62 : decode cX4_doBest 62 = .ok (.ireturn, 1) := by decide +kernel
set_option maxRecDepth 20000 in
theorem ggX4_bestGoing_X4_canGo : GoodIn wsX4_bestGoing wsX4_canGo := goodIn_r _ [6, 7, 8, 9, 10, 11, 12, 13, 14, 15, 5, 16, 17, 18, 19, 20, 21, 22, 23, 24, 25, 1, 63, 64, 65, 66, 67, 68, 69, 70, 71, 72, 73, 74, 75] (by decide +kernel) (by decide +kernel)
set_option maxRecDepth 20000 in
theorem gX4_bestGoing_X4_canGo : GoodIn wsX4_bestGoing (wsV RX4 142 RX4 yX4_canGo wsX4_canGo) := goodIn_app (goodIn_of _ (by decide +kernel)) ggX4_bestGoing_X4_canGo
set_option maxRecDepth 20000 in
theorem ggX4_bestGoing_X4_worthOfGoing : GoodIn wsX4_bestGoing wsX4_worthOfGoing := goodIn_r _ [29, 30, 31, 32, 5, 33, 8, 7, 34, 35, 36, 37, 38, 39, 40, 41, 42, 43, 22, 23, 24, 25, 1, 44, 45, 11, 46, 47, 48, 49, 50, 51, 52, 53, 54, 55, 17, 56, 57, 58, 59, 60, 61, 62, 63, 64, 65, 66, 67, 68, 69, 70, 71, 72, 73, 74, 75] (by decide +kernel) (by decide +kernel)
set_option maxRecDepth 20000 in
theorem gX4_bestGoing_X4_worthOfGoing : GoodIn wsX4_bestGoing (wsV RX4 152 RX4 yX4_worthOfGoing wsX4_worthOfGoing) := goodIn_app (goodIn_of _ (by decide +kernel)) ggX4_bestGoing_X4_worthOfGoing
theorem dX4_bestGoing_0 : decode cX4_bestGoing 0 = .ok (.bipush (-4), 2) := by decide +kernel
theorem dX4_bestGoing_2 : decode cX4_bestGoing 2 = .ok (.istore_n 1, 1) := by decide +kernel
theorem dX4_bestGoing_3 : decode cX4_bestGoing 3 = .ok (.iconst 0, 1) := by decide +kernel
theorem dX4_bestGoing_4 : decode cX4_bestGoing 4 = .ok (.istore_n 2, 1) := by decide +kernel
theorem dX4_bestGoing_5 : decode cX4_bestGoing 5 = .ok (.iconst 0, 1) := by decide +kernel
theorem dX4_bestGoing_6 : decode cX4_bestGoing 6 = .ok (.istore_n 3, 1) := by decide +kernel
theorem dX4_bestGoing_7 : decode cX4_bestGoing 7 = .ok (.iload_n 3, 1) := by decide +kernel
theorem dX4_bestGoing_8 : decode cX4_bestGoing 8 = .ok (.aload_n 0, 1) := by decide +kernel
theorem dX4_bestGoing_9 : decode cX4_bestGoing 9 = .ok (.getfield 59, 3) := by decide +kernel
theorem dX4_bestGoing_12 : decode cX4_bestGoing 12 = .ok (.if_icmp .ge 62, 3) := by decide +kernel
theorem dX4_bestGoing_15 : decode cX4_bestGoing 15 = .ok (.iconst 0, 1) := by decide +kernel
theorem dX4_bestGoing_16 : decode cX4_bestGoing 16 = .ok (.istore 4, 2) := by decide +kernel
theorem dX4_bestGoing_18 : decode cX4_bestGoing 18 = .ok (.iload 4, 2) := by decide +kernel
theorem dX4_bestGoing_20 : decode cX4_bestGoing 20 = .ok (.bipush 60, 2) := by decide +kernel
theorem dX4_bestGoing_22 : decode cX4_bestGoing 22 = .ok (.if_icmp .ge 46, 3) := by decide +kernel
theorem dX4_bestGoing_25 : decode cX4_bestGoing 25 = .ok (.aload_n 0, 1) := by decide +kernel
theorem dX4_bestGoing_26 : decode cX4_bestGoing 26 = .ok (.iload_n 3, 1) := by decide +kernel
theorem dX4_bestGoing_27 : decode cX4_bestGoing 27 = .ok (.iload 4, 2) := by decide +kernel
theorem dX4_bestGoing_29 : decode cX4_bestGoing 29 = .ok (.invokevirtual 142, 3) := by decide +kernel
theorem dX4_bestGoing_32 : decode cX4_bestGoing 32 = .ok (.ifCond .eq 30, 3) := by decide +kernel
theorem dX4_bestGoing_35 : decode cX4_bestGoing 35 = .ok (.aload_n 0, 1) := by decide +kernel
theorem dX4_bestGoing_36 : decode cX4_bestGoing 36 = .ok (.iload_n 3, 1) := by decide +kernel
theorem dX4_bestGoing_37 : decode cX4_bestGoing 37 = .ok (.iload 4, 2) := by decide +kernel
theorem dX4_bestGoing_39 : decode cX4_bestGoing 39 = .ok (.invokevirtual 152, 3) := by decide +kernel
theorem dX4_bestGoing_42 : decode cX4_bestGoing 42 = .ok (.iload_n 2, 1) := by decide +kernel
theorem dX4_bestGoing_43 : decode cX4_bestGoing 43 = .ok (.if_icmp .le 19, 3) := by decide +kernel
theorem dX4_bestGoing_46 : decode cX4_bestGoing 46 = .ok (.aload_n 0, 1) := by decide +kernel
theorem dX4_bestGoing_47 : decode cX4_bestGoing 47 = .ok (.iload_n 3, 1) := by decide +kernel
theorem dX4_bestGoing_48 : decode cX4_bestGoing 48 = .ok (.iload 4, 2) := by decide +kernel
theorem dX4_bestGoing_50 : decode cX4_bestGoing 50 = .ok (.invokevirtual 152, 3) := by decide +kernel
theorem dX4_bestGoing_53 : decode cX4_bestGoing 53 = .ok (.istore_n 2, 1) := by decide +kernel
theorem dX4_bestGoing_54 : decode cX4_bestGoing 54 = .ok (.iload_n 3, 1) := by decide +kernel
theorem dX4_bestGoing_55 : decode cX4_bestGoing 55 = .ok (.bipush 60, 2) := by decide +kernel
theorem dX4_bestGoing_57 : decode cX4_bestGoing 57 = .ok (.imul, 1) := by decide +kernel
theorem dX4_bestGoing_58 : decode cX4_bestGoing 58 = .ok (.iload 4, 2) := by decide +kernel
theorem dX4_bestGoing_60 : decode cX4_bestGoing 60 = .ok (.iadd, 1) := by decide +kernel
theorem dX4_bestGoing_61 : decode cX4_bestGoing 61 = .ok (.istore_n 1, 1) := by decide +kernel
theorem dX4_bestGoing_62 : decode cX4_bestGoing 62 = .ok (.iinc 4 1, 3) := by decide +kernel
theorem dX4_bestGoing_65 : decode cX4_bestGoing 65 = .ok (.goto (-47), 3) := by decide +kernel
theorem dX4_bestGoing_68 : decode cX4_bestGoing 68 = .ok (.iinc 3 1, 3) := by decide +kernel
theorem dX4_bestGoing_71 : decode cX4_bestGoing 71 = .ok (.goto (-64), 3) := by decide +kernel
theorem dX4_bestGoing_74 : decode cX4_bestGoing 74 = .ok (.iload_n 1, 1) := by decide +kernel
theorem dX4_bestGoing_75 : decode cX4_bestGoing 75 = .ok (.ireturn, 1) := by decide +kernel
set_option maxRecDepth 20000 in
theorem ggX4_canGo_X2_isSlot : GoodIn wsX4_canGo wsX2_isSlot := goodIn_r _ [6] (by decide +kernel) (by decide +kernel)
set_option maxRecDepth 20000 in
theorem gX4_canGo_X2_isSlot : GoodIn wsX4_canGo (va_wsS RX4 78 yX2_isSlot wsX2_isSlot) := goodIn_app (goodIn_of _ (by decide +kernel)) ggX4_canGo_X2_isSlot
set_option maxRecDepth 20000 in
theorem ggX4_canGo_X4_bears : GoodIn wsX4_canGo wsX4_bears := goodIn_r _ [11, 12, 13, 14, 5, 15, 16, 22, 23, 24, 25, 26, 27, 28, 29, 30, 31, 32, 33, 34] (by decide +kernel) (by decide +kernel)
set_option maxRecDepth 20000 in
theorem gX4_canGo_X4_bears : GoodIn wsX4_canGo (wsV RX4 103 RX4 yX4_bears wsX4_bears) := goodIn_app (goodIn_of _ (by decide +kernel)) ggX4_canGo_X4_bears
set_option maxRecDepth 20000 in
theorem ggX4_canGo_X4_isGood : GoodIn wsX4_canGo wsX4_isGood := goodIn_r _ [20, 21, 22, 23, 24, 25, 26, 27, 28, 29, 30, 31, 32, 33, 34] (by decide +kernel) (by decide +kernel)
set_option maxRecDepth 20000 in
theorem gX4_canGo_X4_isGood : GoodIn wsX4_canGo (wsV RX4 90 RX4 yX4_isGood wsX4_isGood) := goodIn_app (goodIn_of _ (by decide +kernel)) ggX4_canGo_X4_isGood
theorem dX4_canGo_0 : decode cX4_canGo 0 = .ok (.aload_n 0, 1) := by decide +kernel
theorem dX4_canGo_1 : decode cX4_canGo 1 = .ok (.getfield 21, 3) := by decide +kernel
theorem dX4_canGo_4 : decode cX4_canGo 4 = .ok (.iload_n 1, 1) := by decide +kernel
theorem dX4_canGo_5 : decode cX4_canGo 5 = .ok (.iaload, 1) := by decide +kernel
theorem dX4_canGo_6 : decode cX4_canGo 6 = .ok (.istore_n 3, 1) := by decide +kernel
theorem dX4_canGo_7 : decode cX4_canGo 7 = .ok (.iload_n 3, 1) := by decide +kernel
theorem dX4_canGo_8 : decode cX4_canGo 8 = .ok (.invokestatic 78, 3) := by decide +kernel
theorem dX4_canGo_11 : decode cX4_canGo 11 = .ok (.ifCond .eq 17, 3) := by decide +kernel
theorem dX4_canGo_14 : decode cX4_canGo 14 = .ok (.iload_n 3, 1) := by decide +kernel
theorem dX4_canGo_15 : decode cX4_canGo 15 = .ok (.iload_n 2, 1) := by decide +kernel
theorem dX4_canGo_16 : decode cX4_canGo 16 = .ok (.if_icmp .eq 12, 3) := by decide +kernel
theorem dX4_canGo_19 : decode cX4_canGo 19 = .ok (.aload_n 0, 1) := by decide +kernel
theorem dX4_canGo_20 : decode cX4_canGo 20 = .ok (.iload_n 2, 1) := by decide +kernel
theorem dX4_canGo_21 : decode cX4_canGo 21 = .ok (.iload_n 1, 1) := by decide +kernel
theorem dX4_canGo_22 : decode cX4_canGo 22 = .ok (.invokevirtual 103, 3) := by decide +kernel
theorem dX4_canGo_25 : decode cX4_canGo 25 = .ok (.ifCond .ne 5, 3) := by decide +kernel
theorem dX4_canGo_28 : decode cX4_canGo 28 = .ok (.iconst 0, 1) := by decide +kernel
theorem dX4_canGo_29 : decode cX4_canGo 29 = .ok (.ireturn, 1) := by decide +kernel
theorem dX4_canGo_30 : decode cX4_canGo 30 = .ok (.aload_n 0, 1) := by decide +kernel
theorem dX4_canGo_31 : decode cX4_canGo 31 = .ok (.getfield 38, 3) := by decide +kernel
theorem dX4_canGo_34 : decode cX4_canGo 34 = .ok (.iload_n 2, 1) := by decide +kernel
theorem dX4_canGo_35 : decode cX4_canGo 35 = .ok (.iaload, 1) := by decide +kernel
theorem dX4_canGo_36 : decode cX4_canGo 36 = .ok (.istore 4, 2) := by decide +kernel
theorem dX4_canGo_38 : decode cX4_canGo 38 = .ok (.aload_n 0, 1) := by decide +kernel
theorem dX4_canGo_39 : decode cX4_canGo 39 = .ok (.iload 4, 2) := by decide +kernel
theorem dX4_canGo_41 : decode cX4_canGo 41 = .ok (.invokevirtual 90, 3) := by decide +kernel
theorem dX4_canGo_44 : decode cX4_canGo 44 = .ok (.ifCond .eq 13, 3) := by decide +kernel
theorem dX4_canGo_47 : decode cX4_canGo 47 = .ok (.aload_n 0, 1) := by decide +kernel
theorem dX4_canGo_48 : decode cX4_canGo 48 = .ok (.iload_n 3, 1) := by decide +kernel
theorem dX4_canGo_49 : decode cX4_canGo 49 = .ok (.iload 4, 2) := by decide +kernel
theorem dX4_canGo_51 : decode cX4_canGo 51 = .ok (.invokevirtual 103, 3) := by decide +kernel
theorem dX4_canGo_54 : decode cX4_canGo 54 = .ok (.ifCond .eq 7, 3) := by decide +kernel
theorem dX4_canGo_57 : decode cX4_canGo 57 = .ok (.iconst 1, 1) := by decide +kernel
theorem dX4_canGo_58 : decode cX4_canGo 58 = .ok (.goto 4, 3) := by decide +kernel
theorem dX4_canGo_61 : decode cX4_canGo 61 = .ok (.iconst 0, 1) := by decide +kernel
theorem dX4_canGo_62 : decode cX4_canGo 62 = .ok (.ireturn, 1) := by decide +kernel
set_option maxRecDepth 20000 in
theorem ggX4_savedByGoing_X4_presentSeason : GoodIn wsX4_savedByGoing wsX4_presentSeason := goodIn_r _ [7, 8, 24, 25, 26, 27, 28, 29, 30, 31, 32, 33, 34, 35, 36] (by decide +kernel) (by decide +kernel)
set_option maxRecDepth 20000 in
theorem gX4_savedByGoing_X4_presentSeason : GoodIn wsX4_savedByGoing (wsV RX4 138 RX4 yX4_presentSeason wsX4_presentSeason) := goodIn_app (goodIn_of _ (by decide +kernel)) ggX4_savedByGoing_X4_presentSeason
set_option maxRecDepth 20000 in
theorem ggX4_savedByGoing_X4_demandOf : GoodIn wsX4_savedByGoing wsX4_demandOf := goodIn_r _ [12, 13, 24, 25, 26, 27, 28, 29, 30, 31, 32, 33, 34, 35, 36] (by decide +kernel) (by decide +kernel)
set_option maxRecDepth 20000 in
theorem gX4_savedByGoing_X4_demandOf : GoodIn wsX4_savedByGoing (wsV RX4 96 RX4 yX4_demandOf wsX4_demandOf) := goodIn_app (goodIn_of _ (by decide +kernel)) ggX4_savedByGoing_X4_demandOf
set_option maxRecDepth 20000 in
theorem ggX4_savedByGoing_X4_isGood : GoodIn wsX4_savedByGoing wsX4_isGood := goodIn_r _ [17, 18, 24, 25, 26, 27, 28, 29, 30, 31, 32, 33, 34, 35, 36] (by decide +kernel) (by decide +kernel)
set_option maxRecDepth 20000 in
theorem gX4_savedByGoing_X4_isGood : GoodIn wsX4_savedByGoing (wsV RX4 90 RX4 yX4_isGood wsX4_isGood) := goodIn_app (goodIn_of _ (by decide +kernel)) ggX4_savedByGoing_X4_isGood
set_option maxRecDepth 20000 in
theorem ggX4_savedByGoing_X2_walkTo : GoodIn wsX4_savedByGoing wsX2_walkTo := goodIn_r _ [22, 23] (by decide +kernel) (by decide +kernel)
set_option maxRecDepth 20000 in
theorem gX4_savedByGoing_X2_walkTo : GoodIn wsX4_savedByGoing (va_wsS RX4 111 yX2_walkTo wsX2_walkTo) := goodIn_app (goodIn_of _ (by decide +kernel)) ggX4_savedByGoing_X2_walkTo
theorem dX4_savedByGoing_0 : decode cX4_savedByGoing 0 = .ok (.aload_n 0, 1) := by decide +kernel
theorem dX4_savedByGoing_1 : decode cX4_savedByGoing 1 = .ok (.iload_n 1, 1) := by decide +kernel
theorem dX4_savedByGoing_2 : decode cX4_savedByGoing 2 = .ok (.aload_n 0, 1) := by decide +kernel
theorem dX4_savedByGoing_3 : decode cX4_savedByGoing 3 = .ok (.invokevirtual 138, 3) := by decide +kernel
theorem dX4_savedByGoing_6 : decode cX4_savedByGoing 6 = .ok (.invokevirtual 96, 3) := by decide +kernel
theorem dX4_savedByGoing_9 : decode cX4_savedByGoing 9 = .ok (.istore_n 3, 1) := by decide +kernel
theorem dX4_savedByGoing_10 : decode cX4_savedByGoing 10 = .ok (.aload_n 0, 1) := by decide +kernel
theorem dX4_savedByGoing_11 : decode cX4_savedByGoing 11 = .ok (.getfield 38, 3) := by decide +kernel
theorem dX4_savedByGoing_14 : decode cX4_savedByGoing 14 = .ok (.iload_n 2, 1) := by decide +kernel
theorem dX4_savedByGoing_15 : decode cX4_savedByGoing 15 = .ok (.iaload, 1) := by decide +kernel
theorem dX4_savedByGoing_16 : decode cX4_savedByGoing 16 = .ok (.istore 4, 2) := by decide +kernel
theorem dX4_savedByGoing_18 : decode cX4_savedByGoing 18 = .ok (.aload_n 0, 1) := by decide +kernel
theorem dX4_savedByGoing_19 : decode cX4_savedByGoing 19 = .ok (.iload 4, 2) := by decide +kernel
theorem dX4_savedByGoing_21 : decode cX4_savedByGoing 21 = .ok (.invokevirtual 90, 3) := by decide +kernel
theorem dX4_savedByGoing_24 : decode cX4_savedByGoing 24 = .ok (.ifCond .eq 16, 3) := by decide +kernel
theorem dX4_savedByGoing_27 : decode cX4_savedByGoing 27 = .ok (.iload_n 3, 1) := by decide +kernel
theorem dX4_savedByGoing_28 : decode cX4_savedByGoing 28 = .ok (.aload_n 0, 1) := by decide +kernel
theorem dX4_savedByGoing_29 : decode cX4_savedByGoing 29 = .ok (.iload 4, 2) := by decide +kernel
theorem dX4_savedByGoing_31 : decode cX4_savedByGoing 31 = .ok (.aload_n 0, 1) := by decide +kernel
theorem dX4_savedByGoing_32 : decode cX4_savedByGoing 32 = .ok (.invokevirtual 138, 3) := by decide +kernel
theorem dX4_savedByGoing_35 : decode cX4_savedByGoing 35 = .ok (.invokevirtual 96, 3) := by decide +kernel
theorem dX4_savedByGoing_38 : decode cX4_savedByGoing 38 = .ok (.isub, 1) := by decide +kernel
theorem dX4_savedByGoing_39 : decode cX4_savedByGoing 39 = .ok (.istore_n 3, 1) := by decide +kernel
theorem dX4_savedByGoing_40 : decode cX4_savedByGoing 40 = .ok (.iload_n 3, 1) := by decide +kernel
theorem dX4_savedByGoing_41 : decode cX4_savedByGoing 41 = .ok (.aload_n 0, 1) := by decide +kernel
theorem dX4_savedByGoing_42 : decode cX4_savedByGoing 42 = .ok (.getfield 21, 3) := by decide +kernel
theorem dX4_savedByGoing_45 : decode cX4_savedByGoing 45 = .ok (.iload_n 1, 1) := by decide +kernel
theorem dX4_savedByGoing_46 : decode cX4_savedByGoing 46 = .ok (.iaload, 1) := by decide +kernel
theorem dX4_savedByGoing_47 : decode cX4_savedByGoing 47 = .ok (.invokestatic 111, 3) := by decide +kernel
theorem dX4_savedByGoing_50 : decode cX4_savedByGoing 50 = .ok (.iload_n 2, 1) := by decide +kernel
theorem dX4_savedByGoing_51 : decode cX4_savedByGoing 51 = .ok (.invokestatic 111, 3) := by decide +kernel
theorem dX4_savedByGoing_54 : decode cX4_savedByGoing 54 = .ok (.isub, 1) := by decide +kernel
theorem dX4_savedByGoing_55 : decode cX4_savedByGoing 55 = .ok (.imul, 1) := by decide +kernel
theorem dX4_savedByGoing_56 : decode cX4_savedByGoing 56 = .ok (.ireturn, 1) := by decide +kernel
set_option maxRecDepth 20000 in
theorem ggX4_walkOfGoing_X2_wayBetween : GoodIn wsX4_walkOfGoing wsX2_wayBetween := goodIn_r _ [7, 8, 9, 10, 11, 12] (by decide +kernel) (by decide +kernel)
set_option maxRecDepth 20000 in
theorem gX4_walkOfGoing_X2_wayBetween : GoodIn wsX4_walkOfGoing (va_wsS RX4 161 yX2_wayBetween wsX2_wayBetween) := goodIn_app (goodIn_of _ (by decide +kernel)) ggX4_walkOfGoing_X2_wayBetween
set_option maxRecDepth 20000 in
theorem ggX4_walkOfGoing_X4_isGood : GoodIn wsX4_walkOfGoing wsX4_isGood := goodIn_r _ [17, 18, 19, 20, 21, 22, 23, 24, 25, 26, 27, 28, 29, 30, 31] (by decide +kernel) (by decide +kernel)
set_option maxRecDepth 20000 in
theorem gX4_walkOfGoing_X4_isGood : GoodIn wsX4_walkOfGoing (wsV RX4 90 RX4 yX4_isGood wsX4_isGood) := goodIn_app (goodIn_of _ (by decide +kernel)) ggX4_walkOfGoing_X4_isGood
theorem dX4_walkOfGoing_0 : decode cX4_walkOfGoing 0 = .ok (.aload_n 0, 1) := by decide +kernel
theorem dX4_walkOfGoing_1 : decode cX4_walkOfGoing 1 = .ok (.getfield 21, 3) := by decide +kernel
theorem dX4_walkOfGoing_4 : decode cX4_walkOfGoing 4 = .ok (.iload_n 1, 1) := by decide +kernel
theorem dX4_walkOfGoing_5 : decode cX4_walkOfGoing 5 = .ok (.iaload, 1) := by decide +kernel
theorem dX4_walkOfGoing_6 : decode cX4_walkOfGoing 6 = .ok (.iload_n 2, 1) := by decide +kernel
theorem dX4_walkOfGoing_7 : decode cX4_walkOfGoing 7 = .ok (.invokestatic 161, 3) := by decide +kernel
theorem dX4_walkOfGoing_10 : decode cX4_walkOfGoing 10 = .ok (.istore_n 3, 1) := by decide +kernel
theorem dX4_walkOfGoing_11 : decode cX4_walkOfGoing 11 = .ok (.aload_n 0, 1) := by decide +kernel
theorem dX4_walkOfGoing_12 : decode cX4_walkOfGoing 12 = .ok (.getfield 38, 3) := by decide +kernel
theorem dX4_walkOfGoing_15 : decode cX4_walkOfGoing 15 = .ok (.iload_n 2, 1) := by decide +kernel
theorem dX4_walkOfGoing_16 : decode cX4_walkOfGoing 16 = .ok (.iaload, 1) := by decide +kernel
theorem dX4_walkOfGoing_17 : decode cX4_walkOfGoing 17 = .ok (.istore 4, 2) := by decide +kernel
theorem dX4_walkOfGoing_19 : decode cX4_walkOfGoing 19 = .ok (.aload_n 0, 1) := by decide +kernel
theorem dX4_walkOfGoing_20 : decode cX4_walkOfGoing 20 = .ok (.iload 4, 2) := by decide +kernel
theorem dX4_walkOfGoing_22 : decode cX4_walkOfGoing 22 = .ok (.invokevirtual 90, 3) := by decide +kernel
theorem dX4_walkOfGoing_25 : decode cX4_walkOfGoing 25 = .ok (.ifCond .eq 15, 3) := by decide +kernel
theorem dX4_walkOfGoing_28 : decode cX4_walkOfGoing 28 = .ok (.iload_n 3, 1) := by decide +kernel
theorem dX4_walkOfGoing_29 : decode cX4_walkOfGoing 29 = .ok (.aload_n 0, 1) := by decide +kernel
theorem dX4_walkOfGoing_30 : decode cX4_walkOfGoing 30 = .ok (.getfield 9, 3) := by decide +kernel
theorem dX4_walkOfGoing_33 : decode cX4_walkOfGoing 33 = .ok (.iload 4, 2) := by decide +kernel
theorem dX4_walkOfGoing_35 : decode cX4_walkOfGoing 35 = .ok (.iaload, 1) := by decide +kernel
theorem dX4_walkOfGoing_36 : decode cX4_walkOfGoing 36 = .ok (.iadd, 1) := by decide +kernel
theorem dX4_walkOfGoing_37 : decode cX4_walkOfGoing 37 = .ok (.goto 4, 3) := by decide +kernel
theorem dX4_walkOfGoing_40 : decode cX4_walkOfGoing 40 = .ok (.iconst 0, 1) := by decide +kernel
theorem dX4_walkOfGoing_41 : decode cX4_walkOfGoing 41 = .ok (.istore 5, 2) := by decide +kernel
theorem dX4_walkOfGoing_43 : decode cX4_walkOfGoing 43 = .ok (.iload_n 3, 1) := by decide +kernel
theorem dX4_walkOfGoing_44 : decode cX4_walkOfGoing 44 = .ok (.aload_n 0, 1) := by decide +kernel
theorem dX4_walkOfGoing_45 : decode cX4_walkOfGoing 45 = .ok (.getfield 9, 3) := by decide +kernel
theorem dX4_walkOfGoing_48 : decode cX4_walkOfGoing 48 = .ok (.iload_n 1, 1) := by decide +kernel
theorem dX4_walkOfGoing_49 : decode cX4_walkOfGoing 49 = .ok (.iaload, 1) := by decide +kernel
theorem dX4_walkOfGoing_50 : decode cX4_walkOfGoing 50 = .ok (.iadd, 1) := by decide +kernel
theorem dX4_walkOfGoing_51 : decode cX4_walkOfGoing 51 = .ok (.iload 5, 2) := by decide +kernel
theorem dX4_walkOfGoing_53 : decode cX4_walkOfGoing 53 = .ok (.iadd, 1) := by decide +kernel
theorem dX4_walkOfGoing_54 : decode cX4_walkOfGoing 54 = .ok (.ireturn, 1) := by decide +kernel
set_option maxRecDepth 20000 in
theorem ggX4_worthOfGoing_X4_savedByGoing : GoodIn wsX4_worthOfGoing wsX4_savedByGoing := goodIn_r _ [5, 6, 7, 8, 9, 10, 4, 11, 12, 13, 14, 15, 16, 17, 18, 19, 20, 21, 22, 23, 24, 25, 26, 27, 44, 45, 46, 47, 48, 49, 50, 51, 52, 53, 54, 55, 56] (by decide +kernel) (by decide +kernel)
set_option maxRecDepth 20000 in
theorem gX4_worthOfGoing_X4_savedByGoing : GoodIn wsX4_worthOfGoing (wsV RX4 155 RX4 yX4_savedByGoing wsX4_savedByGoing) := goodIn_app (goodIn_of _ (by decide +kernel)) ggX4_worthOfGoing_X4_savedByGoing
set_option maxRecDepth 20000 in
theorem ggX4_worthOfGoing_X4_weeksLeft : GoodIn wsX4_worthOfGoing wsX4_weeksLeft := goodIn_r _ [31, 12, 44, 45, 46, 47, 48, 49, 50, 51, 52, 53, 54, 55, 56] (by decide +kernel) (by decide +kernel)
set_option maxRecDepth 20000 in
theorem gX4_worthOfGoing_X4_weeksLeft : GoodIn wsX4_worthOfGoing (wsV RX4 164 RX4 yX4_weeksLeft wsX4_weeksLeft) := goodIn_app (goodIn_of _ (by decide +kernel)) ggX4_worthOfGoing_X4_weeksLeft
set_option maxRecDepth 20000 in
theorem ggX4_worthOfGoing_X4_walkOfGoing : GoodIn wsX4_worthOfGoing wsX4_walkOfGoing := goodIn_r _ [35, 7, 6, 36, 37, 38, 25, 39, 40, 41, 42, 43, 27, 18, 19, 20, 4, 21, 22, 44, 45, 46, 47, 48, 49, 50, 51, 52, 53, 54, 55, 56] (by decide +kernel) (by decide +kernel)
set_option maxRecDepth 20000 in
theorem gX4_worthOfGoing_X4_walkOfGoing : GoodIn wsX4_worthOfGoing (wsV RX4 149 RX4 yX4_walkOfGoing wsX4_walkOfGoing) := goodIn_app (goodIn_of _ (by decide +kernel)) ggX4_worthOfGoing_X4_walkOfGoing
theorem dX4_worthOfGoing_0 : decode cX4_worthOfGoing 0 = .ok (.aload_n 0, 1) := by decide +kernel
theorem dX4_worthOfGoing_1 : decode cX4_worthOfGoing 1 = .ok (.iload_n 1, 1) := by decide +kernel
theorem dX4_worthOfGoing_2 : decode cX4_worthOfGoing 2 = .ok (.iload_n 2, 1) := by decide +kernel
theorem dX4_worthOfGoing_3 : decode cX4_worthOfGoing 3 = .ok (.invokevirtual 155, 3) := by decide +kernel
theorem dX4_worthOfGoing_6 : decode cX4_worthOfGoing 6 = .ok (.aload_n 0, 1) := by decide +kernel
theorem dX4_worthOfGoing_7 : decode cX4_worthOfGoing 7 = .ok (.invokevirtual 164, 3) := by decide +kernel
theorem dX4_worthOfGoing_10 : decode cX4_worthOfGoing 10 = .ok (.imul, 1) := by decide +kernel
theorem dX4_worthOfGoing_11 : decode cX4_worthOfGoing 11 = .ok (.aload_n 0, 1) := by decide +kernel
theorem dX4_worthOfGoing_12 : decode cX4_worthOfGoing 12 = .ok (.iload_n 1, 1) := by decide +kernel
theorem dX4_worthOfGoing_13 : decode cX4_worthOfGoing 13 = .ok (.iload_n 2, 1) := by decide +kernel
theorem dX4_worthOfGoing_14 : decode cX4_worthOfGoing 14 = .ok (.invokevirtual 149, 3) := by decide +kernel
theorem dX4_worthOfGoing_17 : decode cX4_worthOfGoing 17 = .ok (.isub, 1) := by decide +kernel
theorem dX4_worthOfGoing_18 : decode cX4_worthOfGoing 18 = .ok (.ireturn, 1) := by decide +kernel
set_option maxRecDepth 20000 in
theorem ggX4_goTo_X4_savedByGoing : GoodIn wsX4_goTo wsX4_savedByGoing := goodIn_r _ [8, 3, 2, 9, 10, 11, 7, 12, 13, 14, 15, 16, 17, 18, 19, 20, 21, 22, 23, 24, 25, 26, 27, 28, 45, 46, 47, 48, 49, 50, 51, 52, 53, 54, 55, 56, 57] (by decide +kernel) (by decide +kernel)
set_option maxRecDepth 20000 in
theorem gX4_goTo_X4_savedByGoing : GoodIn wsX4_goTo (wsV RX4 155 RX4 yX4_savedByGoing wsX4_savedByGoing) := goodIn_app (goodIn_of _ (by decide +kernel)) ggX4_goTo_X4_savedByGoing
set_option maxRecDepth 20000 in
theorem ggX4_goTo_X4_walkOfGoing : GoodIn wsX4_goTo wsX4_walkOfGoing := goodIn_r _ [32, 2, 3, 33, 34, 35, 26, 36, 37, 38, 39, 40, 28, 19, 20, 21, 7, 22, 23, 45, 46, 47, 48, 49, 50, 51, 52, 53, 54, 55, 56, 57] (by decide +kernel) (by decide +kernel)
set_option maxRecDepth 20000 in
theorem gX4_goTo_X4_walkOfGoing : GoodIn wsX4_goTo (wsV RX4 149 RX4 yX4_walkOfGoing wsX4_walkOfGoing) := goodIn_app (goodIn_of _ (by decide +kernel)) ggX4_goTo_X4_walkOfGoing
set_option maxRecDepth 20000 in
theorem ggX4_goTo_X4_isGood : GoodIn wsX4_goTo wsX4_isGood := goodIn_r _ [22, 23, 45, 46, 47, 48, 49, 50, 51, 52, 53, 54, 55, 56, 57] (by decide +kernel) (by decide +kernel)
set_option maxRecDepth 20000 in
theorem gX4_goTo_X4_isGood : GoodIn wsX4_goTo (wsV RX4 90 RX4 yX4_isGood wsX4_isGood) := goodIn_app (goodIn_of _ (by decide +kernel)) ggX4_goTo_X4_isGood
set_option maxRecDepth 20000 in
theorem ggX4_goTo_X4_standIn : GoodIn wsX4_goTo wsX4_standIn := goodIn_r _ [44, 2, 3, 45, 46, 47, 48, 49, 50, 51, 52, 53, 54, 55, 56, 57] (by decide +kernel) (by decide +kernel)
set_option maxRecDepth 20000 in
theorem gX4_goTo_X4_standIn : GoodIn wsX4_goTo (wsV RX4 107 RX4 yX4_standIn wsX4_standIn) := goodIn_app (goodIn_of _ (by decide +kernel)) ggX4_goTo_X4_standIn
theorem dX4_goTo_0 : decode cX4_goTo 0 = .ok (.aload_n 0, 1) := by decide +kernel
theorem dX4_goTo_1 : decode cX4_goTo 1 = .ok (.iload_n 1, 1) := by decide +kernel
theorem dX4_goTo_2 : decode cX4_goTo 2 = .ok (.iload_n 2, 1) := by decide +kernel
theorem dX4_goTo_3 : decode cX4_goTo 3 = .ok (.invokevirtual 155, 3) := by decide +kernel
theorem dX4_goTo_6 : decode cX4_goTo 6 = .ok (.istore_n 3, 1) := by decide +kernel
theorem dX4_goTo_7 : decode cX4_goTo 7 = .ok (.aload_n 0, 1) := by decide +kernel
theorem dX4_goTo_8 : decode cX4_goTo 8 = .ok (.getfield 47, 3) := by decide +kernel
theorem dX4_goTo_11 : decode cX4_goTo 11 = .ok (.dup, 1) := by decide +kernel
theorem dX4_goTo_12 : decode cX4_goTo 12 = .ok (.getfield 167, 3) := by decide +kernel
theorem dX4_goTo_15 : decode cX4_goTo 15 = .ok (.iconst 1, 1) := by decide +kernel
theorem dX4_goTo_16 : decode cX4_goTo 16 = .ok (.iadd, 1) := by decide +kernel
theorem dX4_goTo_17 : decode cX4_goTo 17 = .ok (.putfield 167, 3) := by decide +kernel
theorem dX4_goTo_20 : decode cX4_goTo 20 = .ok (.aload_n 0, 1) := by decide +kernel
theorem dX4_goTo_21 : decode cX4_goTo 21 = .ok (.getfield 47, 3) := by decide +kernel
theorem dX4_goTo_24 : decode cX4_goTo 24 = .ok (.dup, 1) := by decide +kernel
theorem dX4_goTo_25 : decode cX4_goTo 25 = .ok (.getfield 170, 3) := by decide +kernel
theorem dX4_goTo_28 : decode cX4_goTo 28 = .ok (.aload_n 0, 1) := by decide +kernel
theorem dX4_goTo_29 : decode cX4_goTo 29 = .ok (.iload_n 1, 1) := by decide +kernel
theorem dX4_goTo_30 : decode cX4_goTo 30 = .ok (.iload_n 2, 1) := by decide +kernel
theorem dX4_goTo_31 : decode cX4_goTo 31 = .ok (.invokevirtual 149, 3) := by decide +kernel
theorem dX4_goTo_34 : decode cX4_goTo 34 = .ok (.iadd, 1) := by decide +kernel
theorem dX4_goTo_35 : decode cX4_goTo 35 = .ok (.putfield 170, 3) := by decide +kernel
theorem dX4_goTo_38 : decode cX4_goTo 38 = .ok (.aload_n 0, 1) := by decide +kernel
theorem dX4_goTo_39 : decode cX4_goTo 39 = .ok (.getfield 47, 3) := by decide +kernel
theorem dX4_goTo_42 : decode cX4_goTo 42 = .ok (.dup, 1) := by decide +kernel
theorem dX4_goTo_43 : decode cX4_goTo 43 = .ok (.getfield 173, 3) := by decide +kernel
theorem dX4_goTo_46 : decode cX4_goTo 46 = .ok (.iload_n 3, 1) := by decide +kernel
theorem dX4_goTo_47 : decode cX4_goTo 47 = .ok (.iadd, 1) := by decide +kernel
theorem dX4_goTo_48 : decode cX4_goTo 48 = .ok (.putfield 173, 3) := by decide +kernel
theorem dX4_goTo_51 : decode cX4_goTo 51 = .ok (.aload_n 0, 1) := by decide +kernel
theorem dX4_goTo_52 : decode cX4_goTo 52 = .ok (.getfield 21, 3) := by decide +kernel
theorem dX4_goTo_55 : decode cX4_goTo 55 = .ok (.iload_n 1, 1) := by decide +kernel
theorem dX4_goTo_56 : decode cX4_goTo 56 = .ok (.iaload, 1) := by decide +kernel
theorem dX4_goTo_57 : decode cX4_goTo 57 = .ok (.istore 4, 2) := by decide +kernel
theorem dX4_goTo_59 : decode cX4_goTo 59 = .ok (.aload_n 0, 1) := by decide +kernel
theorem dX4_goTo_60 : decode cX4_goTo 60 = .ok (.getfield 38, 3) := by decide +kernel
theorem dX4_goTo_63 : decode cX4_goTo 63 = .ok (.iload_n 2, 1) := by decide +kernel
theorem dX4_goTo_64 : decode cX4_goTo 64 = .ok (.iaload, 1) := by decide +kernel
theorem dX4_goTo_65 : decode cX4_goTo 65 = .ok (.istore 5, 2) := by decide +kernel
theorem dX4_goTo_67 : decode cX4_goTo 67 = .ok (.aload_n 0, 1) := by decide +kernel
theorem dX4_goTo_68 : decode cX4_goTo 68 = .ok (.getfield 38, 3) := by decide +kernel
theorem dX4_goTo_71 : decode cX4_goTo 71 = .ok (.iload 4, 2) := by decide +kernel
theorem dX4_goTo_73 : decode cX4_goTo 73 = .ok (.iconst (-1), 1) := by decide +kernel
theorem dX4_goTo_74 : decode cX4_goTo 74 = .ok (.iastore, 1) := by decide +kernel
theorem dX4_goTo_75 : decode cX4_goTo 75 = .ok (.aload_n 0, 1) := by decide +kernel
theorem dX4_goTo_76 : decode cX4_goTo 76 = .ok (.iload 5, 2) := by decide +kernel
theorem dX4_goTo_78 : decode cX4_goTo 78 = .ok (.invokevirtual 90, 3) := by decide +kernel
theorem dX4_goTo_81 : decode cX4_goTo 81 = .ok (.ifCond .eq 11, 3) := by decide +kernel
theorem dX4_goTo_84 : decode cX4_goTo 84 = .ok (.aload_n 0, 1) := by decide +kernel
theorem dX4_goTo_85 : decode cX4_goTo 85 = .ok (.iload 5, 2) := by decide +kernel
theorem dX4_goTo_87 : decode cX4_goTo 87 = .ok (.iload 4, 2) := by decide +kernel
theorem dX4_goTo_89 : decode cX4_goTo 89 = .ok (.invokevirtual 107, 3) := by decide +kernel
theorem dX4_goTo_92 : decode cX4_goTo 92 = .ok (.aload_n 0, 1) := by decide +kernel
theorem dX4_goTo_93 : decode cX4_goTo 93 = .ok (.iload_n 1, 1) := by decide +kernel
theorem dX4_goTo_94 : decode cX4_goTo 94 = .ok (.iload_n 2, 1) := by decide +kernel
theorem dX4_goTo_95 : decode cX4_goTo 95 = .ok (.invokevirtual 107, 3) := by decide +kernel
theorem dX4_goTo_98 : decode cX4_goTo 98 = .ok (.iload_n 3, 1) := by decide +kernel
theorem dX4_goTo_99 : decode cX4_goTo 99 = .ok (.ireturn, 1) := by decide +kernel
set_option maxRecDepth 20000 in
theorem ggX4_weeklyWalk_X4_isPlaced : GoodIn wsX4_weeklyWalk wsX4_isPlaced := goodIn_r _ [7, 2, 8, 9, 10, 11, 21, 22, 23, 24, 25, 26, 27, 28, 29, 30, 31, 32, 33] (by decide +kernel) (by decide +kernel)
set_option maxRecDepth 20000 in
theorem gX4_weeklyWalk_X4_isPlaced : GoodIn wsX4_weeklyWalk (wsV RX4 100 RX4 yX4_isPlaced wsX4_isPlaced) := goodIn_app (goodIn_of _ (by decide +kernel)) ggX4_weeklyWalk_X4_isPlaced
set_option maxRecDepth 20000 in
theorem ggX4_weeklyWalk_X4_demandOf : GoodIn wsX4_weeklyWalk wsX4_demandOf := goodIn_r _ [15, 16, 21, 22, 23, 24, 25, 26, 27, 28, 29, 30, 31, 32, 33] (by decide +kernel) (by decide +kernel)
set_option maxRecDepth 20000 in
theorem gX4_weeklyWalk_X4_demandOf : GoodIn wsX4_weeklyWalk (wsV RX4 96 RX4 yX4_demandOf wsX4_demandOf) := goodIn_app (goodIn_of _ (by decide +kernel)) ggX4_weeklyWalk_X4_demandOf
set_option maxRecDepth 20000 in
theorem ggX4_weeklyWalk_X2_walkTo : GoodIn wsX4_weeklyWalk wsX2_walkTo := goodIn_r _ [19, 20] (by decide +kernel) (by decide +kernel)
set_option maxRecDepth 20000 in
theorem gX4_weeklyWalk_X2_walkTo : GoodIn wsX4_weeklyWalk (va_wsS RX4 111 yX2_walkTo wsX2_walkTo) := goodIn_app (goodIn_of _ (by decide +kernel)) ggX4_weeklyWalk_X2_walkTo
theorem dX4_weeklyWalk_0 : decode cX4_weeklyWalk 0 = .ok (.iconst 0, 1) := by decide +kernel
theorem dX4_weeklyWalk_1 : decode cX4_weeklyWalk 1 = .ok (.istore_n 2, 1) := by decide +kernel
theorem dX4_weeklyWalk_2 : decode cX4_weeklyWalk 2 = .ok (.iconst 0, 1) := by decide +kernel
theorem dX4_weeklyWalk_3 : decode cX4_weeklyWalk 3 = .ok (.istore_n 3, 1) := by decide +kernel
theorem dX4_weeklyWalk_4 : decode cX4_weeklyWalk 4 = .ok (.iload_n 3, 1) := by decide +kernel
theorem dX4_weeklyWalk_5 : decode cX4_weeklyWalk 5 = .ok (.aload_n 0, 1) := by decide +kernel
theorem dX4_weeklyWalk_6 : decode cX4_weeklyWalk 6 = .ok (.getfield 59, 3) := by decide +kernel
theorem dX4_weeklyWalk_9 : decode cX4_weeklyWalk 9 = .ok (.if_icmp .ge 36, 3) := by decide +kernel
theorem dX4_weeklyWalk_12 : decode cX4_weeklyWalk 12 = .ok (.aload_n 0, 1) := by decide +kernel
theorem dX4_weeklyWalk_13 : decode cX4_weeklyWalk 13 = .ok (.iload_n 3, 1) := by decide +kernel
theorem dX4_weeklyWalk_14 : decode cX4_weeklyWalk 14 = .ok (.invokevirtual 100, 3) := by decide +kernel
theorem dX4_weeklyWalk_17 : decode cX4_weeklyWalk 17 = .ok (.ifCond .eq 22, 3) := by decide +kernel
theorem dX4_weeklyWalk_20 : decode cX4_weeklyWalk 20 = .ok (.iload_n 2, 1) := by decide +kernel
theorem dX4_weeklyWalk_21 : decode cX4_weeklyWalk 21 = .ok (.aload_n 0, 1) := by decide +kernel
theorem dX4_weeklyWalk_22 : decode cX4_weeklyWalk 22 = .ok (.iload_n 3, 1) := by decide +kernel
theorem dX4_weeklyWalk_23 : decode cX4_weeklyWalk 23 = .ok (.iload_n 1, 1) := by decide +kernel
theorem dX4_weeklyWalk_24 : decode cX4_weeklyWalk 24 = .ok (.invokevirtual 96, 3) := by decide +kernel
theorem dX4_weeklyWalk_27 : decode cX4_weeklyWalk 27 = .ok (.aload_n 0, 1) := by decide +kernel
theorem dX4_weeklyWalk_28 : decode cX4_weeklyWalk 28 = .ok (.getfield 21, 3) := by decide +kernel
theorem dX4_weeklyWalk_31 : decode cX4_weeklyWalk 31 = .ok (.iload_n 3, 1) := by decide +kernel
theorem dX4_weeklyWalk_32 : decode cX4_weeklyWalk 32 = .ok (.iaload, 1) := by decide +kernel
theorem dX4_weeklyWalk_33 : decode cX4_weeklyWalk 33 = .ok (.invokestatic 111, 3) := by decide +kernel
theorem dX4_weeklyWalk_36 : decode cX4_weeklyWalk 36 = .ok (.imul, 1) := by decide +kernel
theorem dX4_weeklyWalk_37 : decode cX4_weeklyWalk 37 = .ok (.iadd, 1) := by decide +kernel
theorem dX4_weeklyWalk_38 : decode cX4_weeklyWalk 38 = .ok (.istore_n 2, 1) := by decide +kernel
theorem dX4_weeklyWalk_39 : decode cX4_weeklyWalk 39 = .ok (.iinc 3 1, 3) := by decide +kernel
theorem dX4_weeklyWalk_42 : decode cX4_weeklyWalk 42 = .ok (.goto (-38), 3) := by decide +kernel
theorem dX4_weeklyWalk_45 : decode cX4_weeklyWalk 45 = .ok (.iload_n 2, 1) := by decide +kernel
theorem dX4_weeklyWalk_46 : decode cX4_weeklyWalk 46 = .ok (.ireturn, 1) := by decide +kernel
set_option maxRecDepth 20000 in
theorem ggX4_shortestWalk_X4_isPlaced : GoodIn wsX4_shortestWalk wsX4_isPlaced := goodIn_r _ [7, 2, 8, 9, 10, 11, 34, 35, 36, 37, 38, 39, 40, 41, 42, 43, 44, 45, 46] (by decide +kernel) (by decide +kernel)
set_option maxRecDepth 20000 in
theorem gX4_shortestWalk_X4_isPlaced : GoodIn wsX4_shortestWalk (wsV RX4 100 RX4 yX4_isPlaced wsX4_isPlaced) := goodIn_app (goodIn_of _ (by decide +kernel)) ggX4_shortestWalk_X4_isPlaced
set_option maxRecDepth 20000 in
theorem ggX4_shortestWalk_X4_demandOf : GoodIn wsX4_shortestWalk wsX4_demandOf := goodIn_r _ [15, 16, 34, 35, 36, 37, 38, 39, 40, 41, 42, 43, 44, 45, 46] (by decide +kernel) (by decide +kernel)
set_option maxRecDepth 20000 in
theorem gX4_shortestWalk_X4_demandOf : GoodIn wsX4_shortestWalk (wsV RX4 96 RX4 yX4_demandOf wsX4_demandOf) := goodIn_app (goodIn_of _ (by decide +kernel)) ggX4_shortestWalk_X4_demandOf
set_option maxRecDepth 20000 in
theorem ggX4_shortestWalk_X3_insert : GoodIn wsX4_shortestWalk wsX3_insert := goodIn_r _ [21, 22, 23, 32, 33] (by decide +kernel) (by decide +kernel)
set_option maxRecDepth 20000 in
theorem gX4_shortestWalk_X3_insert : GoodIn wsX4_shortestWalk (wsV RX4 181 RX3 yX3_insert wsX3_insert) := goodIn_app (goodIn_of _ (by decide +kernel)) ggX4_shortestWalk_X3_insert
set_option maxRecDepth 20000 in
theorem ggX4_shortestWalk_X2_walkTo : GoodIn wsX4_shortestWalk wsX2_walkTo := goodIn_r _ [26, 27] (by decide +kernel) (by decide +kernel)
set_option maxRecDepth 20000 in
theorem gX4_shortestWalk_X2_walkTo : GoodIn wsX4_shortestWalk (va_wsS RX4 111 yX2_walkTo wsX2_walkTo) := goodIn_app (goodIn_of _ (by decide +kernel)) ggX4_shortestWalk_X2_walkTo
set_option maxRecDepth 20000 in
theorem ggX4_shortestWalk_X3_valueAt : GoodIn wsX4_shortestWalk wsX3_valueAt := goodIn_r _ [31, 22, 23, 32, 33] (by decide +kernel) (by decide +kernel)
set_option maxRecDepth 20000 in
theorem gX4_shortestWalk_X3_valueAt : GoodIn wsX4_shortestWalk (wsV RX4 185 RX3 yX3_valueAt wsX3_valueAt) := goodIn_app (goodIn_of _ (by decide +kernel)) ggX4_shortestWalk_X3_valueAt
theorem dX4_shortestWalk_0 : decode cX4_shortestWalk 0 = .ok (.aload_n 2, 1) := by decide +kernel
theorem dX4_shortestWalk_1 : decode cX4_shortestWalk 1 = .ok (.iconst 0, 1) := by decide +kernel
theorem dX4_shortestWalk_2 : decode cX4_shortestWalk 2 = .ok (.putfield 176, 3) := by decide +kernel
theorem dX4_shortestWalk_5 : decode cX4_shortestWalk 5 = .ok (.aload_n 3, 1) := by decide +kernel
theorem dX4_shortestWalk_6 : decode cX4_shortestWalk 6 = .ok (.iconst 0, 1) := by decide +kernel
theorem dX4_shortestWalk_7 : decode cX4_shortestWalk 7 = .ok (.putfield 176, 3) := by decide +kernel
theorem dX4_shortestWalk_10 : decode cX4_shortestWalk 10 = .ok (.iconst 0, 1) := by decide +kernel
theorem dX4_shortestWalk_11 : decode cX4_shortestWalk 11 = .ok (.istore 4, 2) := by decide +kernel
theorem dX4_shortestWalk_13 : decode cX4_shortestWalk 13 = .ok (.iload 4, 2) := by decide +kernel
theorem dX4_shortestWalk_15 : decode cX4_shortestWalk 15 = .ok (.aload_n 0, 1) := by decide +kernel
theorem dX4_shortestWalk_16 : decode cX4_shortestWalk 16 = .ok (.getfield 59, 3) := by decide +kernel
theorem dX4_shortestWalk_19 : decode cX4_shortestWalk 19 = .ok (.if_icmp .ge 43, 3) := by decide +kernel
theorem dX4_shortestWalk_22 : decode cX4_shortestWalk 22 = .ok (.aload_n 0, 1) := by decide +kernel
theorem dX4_shortestWalk_23 : decode cX4_shortestWalk 23 = .ok (.iload 4, 2) := by decide +kernel
theorem dX4_shortestWalk_25 : decode cX4_shortestWalk 25 = .ok (.invokevirtual 100, 3) := by decide +kernel
theorem dX4_shortestWalk_28 : decode cX4_shortestWalk 28 = .ok (.ifCond .eq 28, 3) := by decide +kernel
theorem dX4_shortestWalk_31 : decode cX4_shortestWalk 31 = .ok (.aload_n 2, 1) := by decide +kernel
theorem dX4_shortestWalk_32 : decode cX4_shortestWalk 32 = .ok (.aload_n 0, 1) := by decide +kernel
theorem dX4_shortestWalk_33 : decode cX4_shortestWalk 33 = .ok (.iload 4, 2) := by decide +kernel
theorem dX4_shortestWalk_35 : decode cX4_shortestWalk 35 = .ok (.iload_n 1, 1) := by decide +kernel
theorem dX4_shortestWalk_36 : decode cX4_shortestWalk 36 = .ok (.invokevirtual 96, 3) := by decide +kernel
theorem dX4_shortestWalk_39 : decode cX4_shortestWalk 39 = .ok (.invokevirtual 181, 3) := by decide +kernel
theorem dX4_shortestWalk_42 : decode cX4_shortestWalk 42 = .ok (.aload_n 3, 1) := by decide +kernel
theorem dX4_shortestWalk_43 : decode cX4_shortestWalk 43 = .ok (.aload_n 0, 1) := by decide +kernel
theorem dX4_shortestWalk_44 : decode cX4_shortestWalk 44 = .ok (.getfield 21, 3) := by decide +kernel
theorem dX4_shortestWalk_47 : decode cX4_shortestWalk 47 = .ok (.iload 4, 2) := by decide +kernel
theorem dX4_shortestWalk_49 : decode cX4_shortestWalk 49 = .ok (.iaload, 1) := by decide +kernel
theorem dX4_shortestWalk_50 : decode cX4_shortestWalk 50 = .ok (.invokestatic 111, 3) := by decide +kernel
theorem dX4_shortestWalk_53 : decode cX4_shortestWalk 53 = .ok (.invokevirtual 181, 3) := by decide +kernel
theorem dX4_shortestWalk_56 : decode cX4_shortestWalk 56 = .ok (.iinc 4 1, 3) := by decide +kernel
theorem dX4_shortestWalk_59 : decode cX4_shortestWalk 59 = .ok (.goto (-46), 3) := by decide +kernel
theorem dX4_shortestWalk_62 : decode cX4_shortestWalk 62 = .ok (.iconst 0, 1) := by decide +kernel
theorem dX4_shortestWalk_63 : decode cX4_shortestWalk 63 = .ok (.istore 4, 2) := by decide +kernel
theorem dX4_shortestWalk_65 : decode cX4_shortestWalk 65 = .ok (.iconst 0, 1) := by decide +kernel
theorem dX4_shortestWalk_66 : decode cX4_shortestWalk 66 = .ok (.istore 5, 2) := by decide +kernel
theorem dX4_shortestWalk_68 : decode cX4_shortestWalk 68 = .ok (.iload 5, 2) := by decide +kernel
theorem dX4_shortestWalk_70 : decode cX4_shortestWalk 70 = .ok (.aload_n 2, 1) := by decide +kernel
theorem dX4_shortestWalk_71 : decode cX4_shortestWalk 71 = .ok (.getfield 176, 3) := by decide +kernel
theorem dX4_shortestWalk_74 : decode cX4_shortestWalk 74 = .ok (.if_icmp .ge 34, 3) := by decide +kernel
theorem dX4_shortestWalk_77 : decode cX4_shortestWalk 77 = .ok (.iload 4, 2) := by decide +kernel
theorem dX4_shortestWalk_79 : decode cX4_shortestWalk 79 = .ok (.aload_n 2, 1) := by decide +kernel
theorem dX4_shortestWalk_80 : decode cX4_shortestWalk 80 = .ok (.iload 5, 2) := by decide +kernel
theorem dX4_shortestWalk_82 : decode cX4_shortestWalk 82 = .ok (.invokevirtual 185, 3) := by decide +kernel
theorem dX4_shortestWalk_85 : decode cX4_shortestWalk 85 = .ok (.aload_n 3, 1) := by decide +kernel
theorem dX4_shortestWalk_86 : decode cX4_shortestWalk 86 = .ok (.aload_n 3, 1) := by decide +kernel
theorem dX4_shortestWalk_87 : decode cX4_shortestWalk 87 = .ok (.getfield 176, 3) := by decide +kernel
theorem dX4_shortestWalk_90 : decode cX4_shortestWalk 90 = .ok (.iconst 1, 1) := by decide +kernel
theorem dX4_shortestWalk_91 : decode cX4_shortestWalk 91 = .ok (.isub, 1) := by decide +kernel
theorem dX4_shortestWalk_92 : decode cX4_shortestWalk 92 = .ok (.iload 5, 2) := by decide +kernel
theorem dX4_shortestWalk_94 : decode cX4_shortestWalk 94 = .ok (.isub, 1) := by decide +kernel
theorem dX4_shortestWalk_95 : decode cX4_shortestWalk 95 = .ok (.invokevirtual 185, 3) := by decide +kernel
theorem dX4_shortestWalk_98 : decode cX4_shortestWalk 98 = .ok (.imul, 1) := by decide +kernel
theorem dX4_shortestWalk_99 : decode cX4_shortestWalk 99 = .ok (.iadd, 1) := by decide +kernel
theorem dX4_shortestWalk_100 : decode cX4_shortestWalk 100 = .ok (.istore 4, 2) := by decide +kernel
theorem dX4_shortestWalk_102 : decode cX4_shortestWalk 102 = .ok (.iinc 5 1, 3) := by decide +kernel
theorem dX4_shortestWalk_105 : decode cX4_shortestWalk 105 = .ok (.goto (-37), 3) := by decide +kernel
theorem dX4_shortestWalk_108 : decode cX4_shortestWalk 108 = .ok (.iload 4, 2) := by decide +kernel
theorem dX4_shortestWalk_110 : decode cX4_shortestWalk 110 = .ok (.ireturn, 1) := by decide +kernel
set_option maxRecDepth 20000 in
theorem ggX4_numberOfAccount_X4_presentSeason : GoodIn wsX4_numberOfAccount wsX4_presentSeason := goodIn_r _ [7, 8, 32, 33, 34, 35, 36, 37, 38, 39, 40, 41, 42, 43, 44] (by decide +kernel) (by decide +kernel)
set_option maxRecDepth 20000 in
theorem gX4_numberOfAccount_X4_presentSeason : GoodIn wsX4_numberOfAccount (wsV RX4 138 RX4 yX4_presentSeason wsX4_presentSeason) := goodIn_app (goodIn_of _ (by decide +kernel)) ggX4_numberOfAccount_X4_presentSeason
set_option maxRecDepth 20000 in
theorem ggX4_numberOfAccount_X4_weeklyWalk : GoodIn wsX4_numberOfAccount wsX4_weeklyWalk := goodIn_r _ [12, 13, 14, 15, 16, 17, 6, 18, 19, 20, 21, 22, 23, 24, 25, 26, 27, 28, 29, 30, 31, 32, 33, 34, 35, 36, 37, 38, 39, 40, 41, 42, 43, 44] (by decide +kernel) (by decide +kernel)
set_option maxRecDepth 20000 in
theorem gX4_numberOfAccount_X4_weeklyWalk : GoodIn wsX4_numberOfAccount (wsV RX4 188 RX4 yX4_weeklyWalk wsX4_weeklyWalk) := goodIn_app (goodIn_of _ (by decide +kernel)) ggX4_numberOfAccount_X4_weeklyWalk
theorem dX4_numberOfAccount_0 : decode cX4_numberOfAccount 0 = .ok (.iload_n 1, 1) := by decide +kernel
theorem dX4_numberOfAccount_1 : decode cX4_numberOfAccount 1 = .ok (.tableswitch 126 0 7 #[47, 55, 63, 71, 79, 90, 110, 118], 47) := by decide +kernel
theorem dX4_numberOfAccount_48 : decode cX4_numberOfAccount 48 = .ok (.aload_n 0, 1) := by decide +kernel
theorem dX4_numberOfAccount_49 : decode cX4_numberOfAccount 49 = .ok (.getfield 47, 3) := by decide +kernel
theorem dX4_numberOfAccount_52 : decode cX4_numberOfAccount 52 = .ok (.getfield 126, 3) := by decide +kernel
theorem dX4_numberOfAccount_55 : decode cX4_numberOfAccount 55 = .ok (.ireturn, 1) := by decide +kernel
theorem dX4_numberOfAccount_56 : decode cX4_numberOfAccount 56 = .ok (.aload_n 0, 1) := by decide +kernel
theorem dX4_numberOfAccount_57 : decode cX4_numberOfAccount 57 = .ok (.getfield 47, 3) := by decide +kernel
theorem dX4_numberOfAccount_60 : decode cX4_numberOfAccount 60 = .ok (.getfield 135, 3) := by decide +kernel
theorem dX4_numberOfAccount_63 : decode cX4_numberOfAccount 63 = .ok (.ireturn, 1) := by decide +kernel
theorem dX4_numberOfAccount_64 : decode cX4_numberOfAccount 64 = .ok (.aload_n 0, 1) := by decide +kernel
theorem dX4_numberOfAccount_65 : decode cX4_numberOfAccount 65 = .ok (.getfield 47, 3) := by decide +kernel
theorem dX4_numberOfAccount_68 : decode cX4_numberOfAccount 68 = .ok (.getfield 170, 3) := by decide +kernel
theorem dX4_numberOfAccount_71 : decode cX4_numberOfAccount 71 = .ok (.ireturn, 1) := by decide +kernel
theorem dX4_numberOfAccount_72 : decode cX4_numberOfAccount 72 = .ok (.aload_n 0, 1) := by decide +kernel
theorem dX4_numberOfAccount_73 : decode cX4_numberOfAccount 73 = .ok (.getfield 47, 3) := by decide +kernel
theorem dX4_numberOfAccount_76 : decode cX4_numberOfAccount 76 = .ok (.getfield 132, 3) := by decide +kernel
theorem dX4_numberOfAccount_79 : decode cX4_numberOfAccount 79 = .ok (.ireturn, 1) := by decide +kernel
theorem dX4_numberOfAccount_80 : decode cX4_numberOfAccount 80 = .ok (.ldc 145, 2) := by decide +kernel
theorem dX4_numberOfAccount_82 : decode cX4_numberOfAccount 82 = .ok (.aload_n 0, 1) := by decide +kernel
theorem dX4_numberOfAccount_83 : decode cX4_numberOfAccount 83 = .ok (.getfield 47, 3) := by decide +kernel
theorem dX4_numberOfAccount_86 : decode cX4_numberOfAccount 86 = .ok (.getfield 173, 3) := by decide +kernel
theorem dX4_numberOfAccount_89 : decode cX4_numberOfAccount 89 = .ok (.iadd, 1) := by decide +kernel
theorem dX4_numberOfAccount_90 : decode cX4_numberOfAccount 90 = .ok (.ireturn, 1) := by decide +kernel
theorem dX4_numberOfAccount_91 : decode cX4_numberOfAccount 91 = .ok (.ldc 145, 2) := by decide +kernel
theorem dX4_numberOfAccount_93 : decode cX4_numberOfAccount 93 = .ok (.aload_n 0, 1) := by decide +kernel
theorem dX4_numberOfAccount_94 : decode cX4_numberOfAccount 94 = .ok (.aload_n 0, 1) := by decide +kernel
theorem dX4_numberOfAccount_95 : decode cX4_numberOfAccount 95 = .ok (.invokevirtual 138, 3) := by decide +kernel
theorem dX4_numberOfAccount_98 : decode cX4_numberOfAccount 98 = .ok (.invokevirtual 188, 3) := by decide +kernel
theorem dX4_numberOfAccount_101 : decode cX4_numberOfAccount 101 = .ok (.iadd, 1) := by decide +kernel
theorem dX4_numberOfAccount_102 : decode cX4_numberOfAccount 102 = .ok (.aload_n 0, 1) := by decide +kernel
theorem dX4_numberOfAccount_103 : decode cX4_numberOfAccount 103 = .ok (.getfield 47, 3) := by decide +kernel
theorem dX4_numberOfAccount_106 : decode cX4_numberOfAccount 106 = .ok (.getfield 173, 3) := by decide +kernel
theorem dX4_numberOfAccount_109 : decode cX4_numberOfAccount 109 = .ok (.iadd, 1) := by decide +kernel
theorem dX4_numberOfAccount_110 : decode cX4_numberOfAccount 110 = .ok (.ireturn, 1) := by decide +kernel
theorem dX4_numberOfAccount_111 : decode cX4_numberOfAccount 111 = .ok (.aload_n 0, 1) := by decide +kernel
theorem dX4_numberOfAccount_112 : decode cX4_numberOfAccount 112 = .ok (.getfield 47, 3) := by decide +kernel
theorem dX4_numberOfAccount_115 : decode cX4_numberOfAccount 115 = .ok (.getfield 167, 3) := by decide +kernel
theorem dX4_numberOfAccount_118 : decode cX4_numberOfAccount 118 = .ok (.ireturn, 1) := by decide +kernel
theorem dX4_numberOfAccount_119 : decode cX4_numberOfAccount 119 = .ok (.aload_n 0, 1) := by decide +kernel
theorem dX4_numberOfAccount_120 : decode cX4_numberOfAccount 120 = .ok (.getfield 47, 3) := by decide +kernel
theorem dX4_numberOfAccount_123 : decode cX4_numberOfAccount 123 = .ok (.getfield 123, 3) := by decide +kernel
theorem dX4_numberOfAccount_126 : decode cX4_numberOfAccount 126 = .ok (.ireturn, 1) := by decide +kernel
theorem dX4_numberOfAccount_127 : decode cX4_numberOfAccount 127 = .ok (.iconst (-1), 1) := by decide +kernel
theorem dX4_numberOfAccount_128 : decode cX4_numberOfAccount 128 = .ok (.ireturn, 1) := by decide +kernel
set_option maxRecDepth 20000 in
theorem ggX4_numberOfWarehouse_X4_placedGoods : GoodIn wsX4_numberOfWarehouse wsX4_placedGoods := goodIn_r _ [10, 1, 3, 11, 12, 13, 9, 14, 15, 16, 17, 18, 19, 32, 33, 34, 35, 36, 37, 38, 39, 40, 41, 42, 43, 44] (by decide +kernel) (by decide +kernel)
set_option maxRecDepth 20000 in
theorem gX4_numberOfWarehouse_X4_placedGoods : GoodIn wsX4_numberOfWarehouse (wsV RX4 191 RX4 yX4_placedGoods wsX4_placedGoods) := goodIn_app (goodIn_of _ (by decide +kernel)) ggX4_numberOfWarehouse_X4_placedGoods
set_option maxRecDepth 20000 in
theorem ggX4_numberOfWarehouse_X4_presentSeason : GoodIn wsX4_numberOfWarehouse wsX4_presentSeason := goodIn_r _ [23, 2, 32, 33, 34, 35, 36, 37, 38, 39, 40, 41, 42, 43, 44] (by decide +kernel) (by decide +kernel)
set_option maxRecDepth 20000 in
theorem gX4_numberOfWarehouse_X4_presentSeason : GoodIn wsX4_numberOfWarehouse (wsV RX4 138 RX4 yX4_presentSeason wsX4_presentSeason) := goodIn_app (goodIn_of _ (by decide +kernel)) ggX4_numberOfWarehouse_X4_presentSeason
set_option maxRecDepth 20000 in
theorem ggX4_numberOfWarehouse_X4_weeksLeft : GoodIn wsX4_numberOfWarehouse wsX4_weeksLeft := goodIn_r _ [27, 2, 32, 33, 34, 35, 36, 37, 38, 39, 40, 41, 42, 43, 44] (by decide +kernel) (by decide +kernel)
set_option maxRecDepth 20000 in
theorem gX4_numberOfWarehouse_X4_weeksLeft : GoodIn wsX4_numberOfWarehouse (wsV RX4 164 RX4 yX4_weeksLeft wsX4_weeksLeft) := goodIn_app (goodIn_of _ (by decide +kernel)) ggX4_numberOfWarehouse_X4_weeksLeft
set_option maxRecDepth 20000 in
theorem ggX4_numberOfWarehouse_X4_sumOf : GoodIn wsX4_numberOfWarehouse wsX4_sumOf := goodIn_r _ [31, 1, 32, 33, 34, 35, 36, 37, 38, 39, 40, 41, 42, 43, 44] (by decide +kernel) (by decide +kernel)
set_option maxRecDepth 20000 in
theorem gX4_numberOfWarehouse_X4_sumOf : GoodIn wsX4_numberOfWarehouse (wsV RX4 195 RX4 yX4_sumOf wsX4_sumOf) := goodIn_app (goodIn_of _ (by decide +kernel)) ggX4_numberOfWarehouse_X4_sumOf
theorem dX4_numberOfWarehouse_0 : decode cX4_numberOfWarehouse 0 = .ok (.iload_n 1, 1) := by decide +kernel
theorem dX4_numberOfWarehouse_1 : decode cX4_numberOfWarehouse 1 = .ok (.tableswitch 167 0 22 #[107, 112, 118, 123, 128, 133, 142, 151, 167, 167, 167, 167, 167, 167, 167, 167, 167, 167, 167, 167, 157, 157, 157], 107) := by decide +kernel
theorem dX4_numberOfWarehouse_108 : decode cX4_numberOfWarehouse 108 = .ok (.aload_n 0, 1) := by decide +kernel
theorem dX4_numberOfWarehouse_109 : decode cX4_numberOfWarehouse 109 = .ok (.getfield 59, 3) := by decide +kernel
theorem dX4_numberOfWarehouse_112 : decode cX4_numberOfWarehouse 112 = .ok (.ireturn, 1) := by decide +kernel
theorem dX4_numberOfWarehouse_113 : decode cX4_numberOfWarehouse 113 = .ok (.aload_n 0, 1) := by decide +kernel
theorem dX4_numberOfWarehouse_114 : decode cX4_numberOfWarehouse 114 = .ok (.iconst 0, 1) := by decide +kernel
theorem dX4_numberOfWarehouse_115 : decode cX4_numberOfWarehouse 115 = .ok (.invokevirtual 191, 3) := by decide +kernel
theorem dX4_numberOfWarehouse_118 : decode cX4_numberOfWarehouse 118 = .ok (.ireturn, 1) := by decide +kernel
theorem dX4_numberOfWarehouse_119 : decode cX4_numberOfWarehouse 119 = .ok (.aload_n 0, 1) := by decide +kernel
theorem dX4_numberOfWarehouse_120 : decode cX4_numberOfWarehouse 120 = .ok (.getfield 63, 3) := by decide +kernel
theorem dX4_numberOfWarehouse_123 : decode cX4_numberOfWarehouse 123 = .ok (.ireturn, 1) := by decide +kernel
theorem dX4_numberOfWarehouse_124 : decode cX4_numberOfWarehouse 124 = .ok (.aload_n 0, 1) := by decide +kernel
theorem dX4_numberOfWarehouse_125 : decode cX4_numberOfWarehouse 125 = .ok (.invokevirtual 138, 3) := by decide +kernel
theorem dX4_numberOfWarehouse_128 : decode cX4_numberOfWarehouse 128 = .ok (.ireturn, 1) := by decide +kernel
theorem dX4_numberOfWarehouse_129 : decode cX4_numberOfWarehouse 129 = .ok (.aload_n 0, 1) := by decide +kernel
theorem dX4_numberOfWarehouse_130 : decode cX4_numberOfWarehouse 130 = .ok (.invokevirtual 164, 3) := by decide +kernel
theorem dX4_numberOfWarehouse_133 : decode cX4_numberOfWarehouse 133 = .ok (.ireturn, 1) := by decide +kernel
theorem dX4_numberOfWarehouse_134 : decode cX4_numberOfWarehouse 134 = .ok (.aload_n 0, 1) := by decide +kernel
theorem dX4_numberOfWarehouse_135 : decode cX4_numberOfWarehouse 135 = .ok (.aload_n 0, 1) := by decide +kernel
theorem dX4_numberOfWarehouse_136 : decode cX4_numberOfWarehouse 136 = .ok (.getfield 24, 3) := by decide +kernel
theorem dX4_numberOfWarehouse_139 : decode cX4_numberOfWarehouse 139 = .ok (.invokevirtual 195, 3) := by decide +kernel
theorem dX4_numberOfWarehouse_142 : decode cX4_numberOfWarehouse 142 = .ok (.ireturn, 1) := by decide +kernel
theorem dX4_numberOfWarehouse_143 : decode cX4_numberOfWarehouse 143 = .ok (.aload_n 0, 1) := by decide +kernel
theorem dX4_numberOfWarehouse_144 : decode cX4_numberOfWarehouse 144 = .ok (.aload_n 0, 1) := by decide +kernel
theorem dX4_numberOfWarehouse_145 : decode cX4_numberOfWarehouse 145 = .ok (.getfield 27, 3) := by decide +kernel
theorem dX4_numberOfWarehouse_148 : decode cX4_numberOfWarehouse 148 = .ok (.invokevirtual 195, 3) := by decide +kernel
theorem dX4_numberOfWarehouse_151 : decode cX4_numberOfWarehouse 151 = .ok (.ireturn, 1) := by decide +kernel
theorem dX4_numberOfWarehouse_152 : decode cX4_numberOfWarehouse 152 = .ok (.aload_n 0, 1) := by decide +kernel
theorem dX4_numberOfWarehouse_153 : decode cX4_numberOfWarehouse 153 = .ok (.iconst 1, 1) := by decide +kernel
theorem dX4_numberOfWarehouse_154 : decode cX4_numberOfWarehouse 154 = .ok (.invokevirtual 191, 3) := by decide +kernel
theorem dX4_numberOfWarehouse_157 : decode cX4_numberOfWarehouse 157 = .ok (.ireturn, 1) := by decide +kernel
theorem dX4_numberOfWarehouse_158 : decode cX4_numberOfWarehouse 158 = .ok (.aload_n 0, 1) := by decide +kernel
theorem dX4_numberOfWarehouse_159 : decode cX4_numberOfWarehouse 159 = .ok (.getfield 41, 3) := by decide +kernel
theorem dX4_numberOfWarehouse_162 : decode cX4_numberOfWarehouse 162 = .ok (.iload_n 1, 1) := by decide +kernel
theorem dX4_numberOfWarehouse_163 : decode cX4_numberOfWarehouse 163 = .ok (.bipush 20, 2) := by decide +kernel
theorem dX4_numberOfWarehouse_165 : decode cX4_numberOfWarehouse 165 = .ok (.isub, 1) := by decide +kernel
theorem dX4_numberOfWarehouse_166 : decode cX4_numberOfWarehouse 166 = .ok (.iaload, 1) := by decide +kernel
theorem dX4_numberOfWarehouse_167 : decode cX4_numberOfWarehouse 167 = .ok (.ireturn, 1) := by decide +kernel
theorem dX4_numberOfWarehouse_168 : decode cX4_numberOfWarehouse 168 = .ok (.iconst (-1), 1) := by decide +kernel
theorem dX4_numberOfWarehouse_169 : decode cX4_numberOfWarehouse 169 = .ok (.ireturn, 1) := by decide +kernel
set_option maxRecDepth 20000 in
theorem ggX4_placedGoods_X4_isPlaced : GoodIn wsX4_placedGoods wsX4_isPlaced := goodIn_r _ [7, 8, 9, 10, 11, 12, 13, 14, 15, 16, 17, 18, 19, 20, 21, 22, 23, 24, 25] (by decide +kernel) (by decide +kernel)
set_option maxRecDepth 20000 in
theorem gX4_placedGoods_X4_isPlaced : GoodIn wsX4_placedGoods (wsV RX4 100 RX4 yX4_isPlaced wsX4_isPlaced) := goodIn_app (goodIn_of _ (by decide +kernel)) ggX4_placedGoods_X4_isPlaced
theorem dX4_placedGoods_0 : decode cX4_placedGoods 0 = .ok (.iconst 0, 1) := by decide +kernel
theorem dX4_placedGoods_1 : decode cX4_placedGoods 1 = .ok (.istore_n 2, 1) := by decide +kernel
theorem dX4_placedGoods_2 : decode cX4_placedGoods 2 = .ok (.iconst 0, 1) := by decide +kernel
theorem dX4_placedGoods_3 : decode cX4_placedGoods 3 = .ok (.istore_n 3, 1) := by decide +kernel
theorem dX4_placedGoods_4 : decode cX4_placedGoods 4 = .ok (.iload_n 3, 1) := by decide +kernel
theorem dX4_placedGoods_5 : decode cX4_placedGoods 5 = .ok (.aload_n 0, 1) := by decide +kernel
theorem dX4_placedGoods_6 : decode cX4_placedGoods 6 = .ok (.getfield 59, 3) := by decide +kernel
theorem dX4_placedGoods_9 : decode cX4_placedGoods 9 = .ok (.if_icmp .ge 33, 3) := by decide +kernel
theorem dX4_placedGoods_12 : decode cX4_placedGoods 12 = .ok (.aload_n 0, 1) := by decide +kernel
theorem dX4_placedGoods_13 : decode cX4_placedGoods 13 = .ok (.iload_n 3, 1) := by decide +kernel
theorem dX4_placedGoods_14 : decode cX4_placedGoods 14 = .ok (.invokevirtual 100, 3) := by decide +kernel
theorem dX4_placedGoods_17 : decode cX4_placedGoods 17 = .ok (.ifCond .eq 19, 3) := by decide +kernel
theorem dX4_placedGoods_20 : decode cX4_placedGoods 20 = .ok (.iload_n 1, 1) := by decide +kernel
theorem dX4_placedGoods_21 : decode cX4_placedGoods 21 = .ok (.ifCond .eq 12, 3) := by decide +kernel
theorem dX4_placedGoods_24 : decode cX4_placedGoods 24 = .ok (.aload_n 0, 1) := by decide +kernel
theorem dX4_placedGoods_25 : decode cX4_placedGoods 25 = .ok (.getfield 24, 3) := by decide +kernel
theorem dX4_placedGoods_28 : decode cX4_placedGoods 28 = .ok (.iload_n 3, 1) := by decide +kernel
theorem dX4_placedGoods_29 : decode cX4_placedGoods 29 = .ok (.iaload, 1) := by decide +kernel
theorem dX4_placedGoods_30 : decode cX4_placedGoods 30 = .ok (.ifCond .ne 6, 3) := by decide +kernel
theorem dX4_placedGoods_33 : decode cX4_placedGoods 33 = .ok (.iinc 2 1, 3) := by decide +kernel
theorem dX4_placedGoods_36 : decode cX4_placedGoods 36 = .ok (.iinc 3 1, 3) := by decide +kernel
theorem dX4_placedGoods_39 : decode cX4_placedGoods 39 = .ok (.goto (-35), 3) := by decide +kernel
theorem dX4_placedGoods_42 : decode cX4_placedGoods 42 = .ok (.iload_n 2, 1) := by decide +kernel
theorem dX4_placedGoods_43 : decode cX4_placedGoods 43 = .ok (.ireturn, 1) := by decide +kernel
theorem dX4_sumOf_0 : decode cX4_sumOf 0 = .ok (.iconst 0, 1) := by decide +kernel
theorem dX4_sumOf_1 : decode cX4_sumOf 1 = .ok (.istore_n 2, 1) := by decide +kernel
theorem dX4_sumOf_2 : decode cX4_sumOf 2 = .ok (.iconst 0, 1) := by decide +kernel
theorem dX4_sumOf_3 : decode cX4_sumOf 3 = .ok (.istore_n 3, 1) := by decide +kernel
theorem dX4_sumOf_4 : decode cX4_sumOf 4 = .ok (.iload_n 3, 1) := by decide +kernel
theorem dX4_sumOf_5 : decode cX4_sumOf 5 = .ok (.aload_n 0, 1) := by decide +kernel
theorem dX4_sumOf_6 : decode cX4_sumOf 6 = .ok (.getfield 59, 3) := by decide +kernel
theorem dX4_sumOf_9 : decode cX4_sumOf 9 = .ok (.if_icmp .ge 21, 3) := by decide +kernel
theorem dX4_sumOf_12 : decode cX4_sumOf 12 = .ok (.iload_n 3, 1) := by decide +kernel
theorem dX4_sumOf_13 : decode cX4_sumOf 13 = .ok (.aload_n 1, 1) := by decide +kernel
theorem dX4_sumOf_14 : decode cX4_sumOf 14 = .ok (.arraylength, 1) := by decide +kernel
theorem dX4_sumOf_15 : decode cX4_sumOf 15 = .ok (.if_icmp .ge 15, 3) := by decide +kernel
theorem dX4_sumOf_18 : decode cX4_sumOf 18 = .ok (.iload_n 2, 1) := by decide +kernel
theorem dX4_sumOf_19 : decode cX4_sumOf 19 = .ok (.aload_n 1, 1) := by decide +kernel
theorem dX4_sumOf_20 : decode cX4_sumOf 20 = .ok (.iload_n 3, 1) := by decide +kernel
theorem dX4_sumOf_21 : decode cX4_sumOf 21 = .ok (.iaload, 1) := by decide +kernel
theorem dX4_sumOf_22 : decode cX4_sumOf 22 = .ok (.iadd, 1) := by decide +kernel
theorem dX4_sumOf_23 : decode cX4_sumOf 23 = .ok (.istore_n 2, 1) := by decide +kernel
theorem dX4_sumOf_24 : decode cX4_sumOf 24 = .ok (.iinc 3 1, 3) := by decide +kernel
theorem dX4_sumOf_27 : decode cX4_sumOf 27 = .ok (.goto (-23), 3) := by decide +kernel
theorem dX4_sumOf_30 : decode cX4_sumOf 30 = .ok (.iload_n 2, 1) := by decide +kernel
theorem dX4_sumOf_31 : decode cX4_sumOf 31 = .ok (.ireturn, 1) := by decide +kernel
set_option maxRecDepth 20000 in
theorem ggX4_changeSetting_X5_isIn : GoodIn wsX4_changeSetting wsX5_isIn := goodIn_r _ [6] (by decide +kernel) (by decide +kernel)
set_option maxRecDepth 20000 in
theorem gX4_changeSetting_X5_isIn_n86 : GoodIn wsX4_changeSetting (wsX5_isIn) := ggX4_changeSetting_X5_isIn
theorem dX4_changeSetting_0 : decode cX4_changeSetting 0 = .ok (.iload_n 1, 1) := by decide +kernel
theorem dX4_changeSetting_1 : decode cX4_changeSetting 1 = .ok (.iconst 0, 1) := by decide +kernel
theorem dX4_changeSetting_2 : decode cX4_changeSetting 2 = .ok (.iconst 2, 1) := by decide +kernel
theorem dX4_changeSetting_3 : decode cX4_changeSetting 3 = .ok (.invokestatic 86, 3) := by decide +kernel
theorem dX4_changeSetting_6 : decode cX4_changeSetting 6 = .ok (.ifCond .eq 20, 3) := by decide +kernel
theorem dX4_changeSetting_9 : decode cX4_changeSetting 9 = .ok (.iload_n 2, 1) := by decide +kernel
theorem dX4_changeSetting_10 : decode cX4_changeSetting 10 = .ok (.getstatic 199, 3) := by decide +kernel
theorem dX4_changeSetting_13 : decode cX4_changeSetting 13 = .ok (.iload_n 1, 1) := by decide +kernel
theorem dX4_changeSetting_14 : decode cX4_changeSetting 14 = .ok (.iaload, 1) := by decide +kernel
theorem dX4_changeSetting_15 : decode cX4_changeSetting 15 = .ok (.getstatic 202, 3) := by decide +kernel
theorem dX4_changeSetting_18 : decode cX4_changeSetting 18 = .ok (.iload_n 1, 1) := by decide +kernel
theorem dX4_changeSetting_19 : decode cX4_changeSetting 19 = .ok (.iaload, 1) := by decide +kernel
theorem dX4_changeSetting_20 : decode cX4_changeSetting 20 = .ok (.invokestatic 86, 3) := by decide +kernel
theorem dX4_changeSetting_23 : decode cX4_changeSetting 23 = .ok (.ifCond .ne 5, 3) := by decide +kernel
theorem dX4_changeSetting_26 : decode cX4_changeSetting 26 = .ok (.iconst (-1), 1) := by decide +kernel
theorem dX4_changeSetting_27 : decode cX4_changeSetting 27 = .ok (.ireturn, 1) := by decide +kernel
theorem dX4_changeSetting_28 : decode cX4_changeSetting 28 = .ok (.aload_n 0, 1) := by decide +kernel
theorem dX4_changeSetting_29 : decode cX4_changeSetting 29 = .ok (.getfield 41, 3) := by decide +kernel
theorem dX4_changeSetting_32 : decode cX4_changeSetting 32 = .ok (.iload_n 1, 1) := by decide +kernel
theorem dX4_changeSetting_33 : decode cX4_changeSetting 33 = .ok (.iaload, 1) := by decide +kernel
theorem dX4_changeSetting_34 : decode cX4_changeSetting 34 = .ok (.istore_n 3, 1) := by decide +kernel
theorem dX4_changeSetting_35 : decode cX4_changeSetting 35 = .ok (.aload_n 0, 1) := by decide +kernel
theorem dX4_changeSetting_36 : decode cX4_changeSetting 36 = .ok (.getfield 41, 3) := by decide +kernel
theorem dX4_changeSetting_39 : decode cX4_changeSetting 39 = .ok (.iload_n 1, 1) := by decide +kernel
theorem dX4_changeSetting_40 : decode cX4_changeSetting 40 = .ok (.iload_n 2, 1) := by decide +kernel
theorem dX4_changeSetting_41 : decode cX4_changeSetting 41 = .ok (.iastore, 1) := by decide +kernel
theorem dX4_changeSetting_42 : decode cX4_changeSetting 42 = .ok (.iload_n 3, 1) := by decide +kernel
theorem dX4_changeSetting_43 : decode cX4_changeSetting 43 = .ok (.ireturn, 1) := by decide +kernel
