theorem dX0_init_0 : decode cX0_init 0 = .ok (.aload_n 0, 1) := by decide +kernel
theorem dX0_init_1 : decode cX0_init 1 = .ok (.invokespecial 1, 3) := by decide +kernel
theorem dX0_init_4 : decode cX0_init 4 = .ok (.return_, 1) := by decide +kernel
theorem dX0_copyFrom_0 : decode cX0_copyFrom 0 = .ok (.aload_n 0, 1) := by decide +kernel
theorem dX0_copyFrom_1 : decode cX0_copyFrom 1 = .ok (.aload_n 1, 1) := by decide +kernel
theorem dX0_copyFrom_2 : decode cX0_copyFrom 2 = .ok (.getfield 7, 3) := by decide +kernel
theorem dX0_copyFrom_5 : decode cX0_copyFrom 5 = .ok (.putfield 7, 3) := by decide +kernel
theorem dX0_copyFrom_8 : decode cX0_copyFrom 8 = .ok (.aload_n 0, 1) := by decide +kernel
theorem dX0_copyFrom_9 : decode cX0_copyFrom 9 = .ok (.aload_n 1, 1) := by decide +kernel
theorem dX0_copyFrom_10 : decode cX0_copyFrom 10 = .ok (.getfield 13, 3) := by decide +kernel
theorem dX0_copyFrom_13 : decode cX0_copyFrom 13 = .ok (.putfield 13, 3) := by decide +kernel
theorem dX0_copyFrom_16 : decode cX0_copyFrom 16 = .ok (.aload_n 0, 1) := by decide +kernel
theorem dX0_copyFrom_17 : decode cX0_copyFrom 17 = .ok (.aload_n 1, 1) := by decide +kernel
theorem dX0_copyFrom_18 : decode cX0_copyFrom 18 = .ok (.getfield 16, 3) := by decide +kernel
theorem dX0_copyFrom_21 : decode cX0_copyFrom 21 = .ok (.putfield 16, 3) := by decide +kernel
theorem dX0_copyFrom_24 : decode cX0_copyFrom 24 = .ok (.aload_n 0, 1) := by decide +kernel
theorem dX0_copyFrom_25 : decode cX0_copyFrom 25 = .ok (.aload_n 1, 1) := by decide +kernel
theorem dX0_copyFrom_26 : decode cX0_copyFrom 26 = .ok (.getfield 19, 3) := by decide +kernel
theorem dX0_copyFrom_29 : decode cX0_copyFrom 29 = .ok (.putfield 19, 3) := by decide +kernel
theorem dX0_copyFrom_32 : decode cX0_copyFrom 32 = .ok (.aload_n 0, 1) := by decide +kernel
theorem dX0_copyFrom_33 : decode cX0_copyFrom 33 = .ok (.aload_n 1, 1) := by decide +kernel
theorem dX0_copyFrom_34 : decode cX0_copyFrom 34 = .ok (.getfield 22, 3) := by decide +kernel
theorem dX0_copyFrom_37 : decode cX0_copyFrom 37 = .ok (.putfield 22, 3) := by decide +kernel
theorem dX0_copyFrom_40 : decode cX0_copyFrom 40 = .ok (.aload_n 0, 1) := by decide +kernel
theorem dX0_copyFrom_41 : decode cX0_copyFrom 41 = .ok (.aload_n 1, 1) := by decide +kernel
theorem dX0_copyFrom_42 : decode cX0_copyFrom 42 = .ok (.getfield 25, 3) := by decide +kernel
theorem dX0_copyFrom_45 : decode cX0_copyFrom 45 = .ok (.putfield 25, 3) := by decide +kernel
theorem dX0_copyFrom_48 : decode cX0_copyFrom 48 = .ok (.aload_n 0, 1) := by decide +kernel
theorem dX0_copyFrom_49 : decode cX0_copyFrom 49 = .ok (.aload_n 1, 1) := by decide +kernel
theorem dX0_copyFrom_50 : decode cX0_copyFrom 50 = .ok (.getfield 28, 3) := by decide +kernel
theorem dX0_copyFrom_53 : decode cX0_copyFrom 53 = .ok (.putfield 28, 3) := by decide +kernel
theorem dX0_copyFrom_56 : decode cX0_copyFrom 56 = .ok (.return_, 1) := by decide +kernel
theorem dX1_init_0 : decode cX1_init 0 = .ok (.aload_n 0, 1) := by decide +kernel
theorem dX1_init_1 : decode cX1_init 1 = .ok (.invokespecial 3, 3) := by decide +kernel
theorem dX1_init_4 : decode cX1_init 4 = .ok (.aload_n 0, 1) := by decide +kernel
theorem dX1_init_5 : decode cX1_init 5 = .ok (.bipush 60, 2) := by decide +kernel
theorem dX1_init_7 : decode cX1_init 7 = .ok (.newarray .char, 2) := by decide +kernel
theorem dX1_init_9 : decode cX1_init 9 = .ok (.putfield 9, 3) := by decide +kernel
theorem dX1_init_12 : decode cX1_init 12 = .ok (.return_, 1) := by decide +kernel
set_option maxRecDepth 20000 in
theorem ggX1_append_X5_isIn : GoodIn wsX1_append wsX5_isIn := goodIn_r _ [5] (by decide +kernel) (by decide +kernel)
set_option maxRecDepth 20000 in
theorem gX1_append_X5_isIn_n15 : GoodIn wsX1_append (wsX5_isIn) := ggX1_append_X5_isIn
theorem dX1_append_0 : decode cX1_append 0 = .ok (.iload_n 1, 1) := by decide +kernel
theorem dX1_append_1 : decode cX1_append 1 = .ok (.bipush 32, 2) := by decide +kernel
theorem dX1_append_3 : decode cX1_append 3 = .ok (.bipush 126, 2) := by decide +kernel
theorem dX1_append_5 : decode cX1_append 5 = .ok (.invokestatic 15, 3) := by decide +kernel
theorem dX1_append_8 : decode cX1_append 8 = .ok (.ifCond .ne 5, 3) := by decide +kernel
theorem dX1_append_11 : decode cX1_append 11 = .ok (.iconst (-1), 1) := by decide +kernel
theorem dX1_append_12 : decode cX1_append 12 = .ok (.ireturn, 1) := by decide +kernel
theorem dX1_append_13 : decode cX1_append 13 = .ok (.aload_n 0, 1) := by decide +kernel
theorem dX1_append_14 : decode cX1_append 14 = .ok (.getfield 19, 3) := by decide +kernel
theorem dX1_append_17 : decode cX1_append 17 = .ok (.bipush 60, 2) := by decide +kernel
theorem dX1_append_19 : decode cX1_append 19 = .ok (.if_icmp .lt 6, 3) := by decide +kernel
theorem dX1_append_22 : decode cX1_append 22 = .ok (.bipush (-3), 2) := by decide +kernel
theorem dX1_append_24 : decode cX1_append 24 = .ok (.ireturn, 1) := by decide +kernel
theorem dX1_append_25 : decode cX1_append 25 = .ok (.aload_n 0, 1) := by decide +kernel
theorem dX1_append_26 : decode cX1_append 26 = .ok (.getfield 9, 3) := by decide +kernel
theorem dX1_append_29 : decode cX1_append 29 = .ok (.aload_n 0, 1) := by decide +kernel
theorem dX1_append_30 : decode cX1_append 30 = .ok (.getfield 19, 3) := by decide +kernel
theorem dX1_append_33 : decode cX1_append 33 = .ok (.iload_n 1, 1) := by decide +kernel
theorem dX1_append_34 : decode cX1_append 34 = .ok (.i2c, 1) := by decide +kernel
theorem dX1_append_35 : decode cX1_append 35 = .ok (.castore, 1) := by decide +kernel
theorem dX1_append_36 : decode cX1_append 36 = .ok (.aload_n 0, 1) := by decide +kernel
theorem dX1_append_37 : decode cX1_append 37 = .ok (.dup, 1) := by decide +kernel
theorem dX1_append_38 : decode cX1_append 38 = .ok (.getfield 19, 3) := by decide +kernel
theorem dX1_append_41 : decode cX1_append 41 = .ok (.iconst 1, 1) := by decide +kernel
theorem dX1_append_42 : decode cX1_append 42 = .ok (.iadd, 1) := by decide +kernel
theorem dX1_append_43 : decode cX1_append 43 = .ok (.putfield 19, 3) := by decide +kernel
theorem dX1_append_46 : decode cX1_append 46 = .ok (.aload_n 0, 1) := by decide +kernel
theorem dX1_append_47 : decode cX1_append 47 = .ok (.getfield 19, 3) := by decide +kernel
theorem dX1_append_50 : decode cX1_append 50 = .ok (.ireturn, 1) := by decide +kernel
theorem dX1_startReading_0 : decode cX1_startReading 0 = .ok (.aload_n 0, 1) := by decide +kernel
theorem dX1_startReading_1 : decode cX1_startReading 1 = .ok (.iconst 0, 1) := by decide +kernel
theorem dX1_startReading_2 : decode cX1_startReading 2 = .ok (.putfield 23, 3) := by decide +kernel
theorem dX1_startReading_5 : decode cX1_startReading 5 = .ok (.return_, 1) := by decide +kernel
theorem dX1_isAtEnd_0 : decode cX1_isAtEnd 0 = .ok (.aload_n 0, 1) := by decide +kernel
theorem dX1_isAtEnd_1 : decode cX1_isAtEnd 1 = .ok (.getfield 23, 3) := by decide +kernel
theorem dX1_isAtEnd_4 : decode cX1_isAtEnd 4 = .ok (.aload_n 0, 1) := by decide +kernel
theorem dX1_isAtEnd_5 : decode cX1_isAtEnd 5 = .ok (.getfield 19, 3) := by decide +kernel
theorem dX1_isAtEnd_8 : decode cX1_isAtEnd 8 = .ok (.if_icmp .lt 7, 3) := by decide +kernel
theorem dX1_isAtEnd_11 : decode cX1_isAtEnd 11 = .ok (.iconst 1, 1) := by decide +kernel
theorem dX1_isAtEnd_12 : decode cX1_isAtEnd 12 = .ok (.goto 4, 3) := by decide +kernel
theorem dX1_isAtEnd_15 : decode cX1_isAtEnd 15 = .ok (.iconst 0, 1) := by decide +kernel
theorem dX1_isAtEnd_16 : decode cX1_isAtEnd 16 = .ok (.ireturn, 1) := by decide +kernel
set_option maxRecDepth 20000 in
theorem ggX1_readOrder_X1_nextSign : GoodIn wsX1_readOrder wsX1_nextSign := goodIn_r _ [8, 2, 9, 10, 27, 28, 29, 30, 31, 32] (by decide +kernel) (by decide +kernel)
set_option maxRecDepth 20000 in
theorem gX1_readOrder_X1_nextSign : GoodIn wsX1_readOrder (wsV RX1 26 RX1 yX1_nextSign wsX1_nextSign) := goodIn_app (goodIn_of _ (by decide +kernel)) ggX1_readOrder_X1_nextSign
set_option maxRecDepth 20000 in
theorem ggX1_readOrder_X1_readSign : GoodIn wsX1_readOrder wsX1_readSign := goodIn_r _ [14, 2, 4, 5, 6, 7, 8, 9, 10, 27, 28, 29, 30, 31, 32] (by decide +kernel) (by decide +kernel)
set_option maxRecDepth 20000 in
theorem gX1_readOrder_X1_readSign : GoodIn wsX1_readOrder (wsV RX1 33 RX1 yX1_readSign wsX1_readSign) := goodIn_app (goodIn_of _ (by decide +kernel)) ggX1_readOrder_X1_readSign
set_option maxRecDepth 20000 in
theorem ggX1_readOrder_X1_readNumber : GoodIn wsX1_readOrder wsX1_readNumber := goodIn_r _ [18, 2, 4, 5, 6, 7, 8, 9, 10, 19, 20, 21, 27, 28, 29, 30, 31, 32] (by decide +kernel) (by decide +kernel)
set_option maxRecDepth 20000 in
theorem gX1_readOrder_X1_readNumber : GoodIn wsX1_readOrder (wsV RX1 37 RX1 yX1_readNumber wsX1_readNumber) := goodIn_app (goodIn_of _ (by decide +kernel)) ggX1_readOrder_X1_readNumber
set_option maxRecDepth 20000 in
theorem ggX1_readOrder_X1_readTwoNumbers : GoodIn wsX1_readOrder wsX1_readTwoNumbers := goodIn_r _ [25, 3, 26, 15, 16, 17, 7, 18, 2, 4, 5, 6, 8, 9, 10, 19, 20, 21, 11, 12, 13, 14, 27, 28, 29, 30, 31, 32] (by decide +kernel) (by decide +kernel)
set_option maxRecDepth 20000 in
theorem gX1_readOrder_X1_readTwoNumbers : GoodIn wsX1_readOrder (wsV RX1 44 RX1 yX1_readTwoNumbers wsX1_readTwoNumbers) := goodIn_app (goodIn_of _ (by decide +kernel)) ggX1_readOrder_X1_readTwoNumbers
theorem dX1_readOrder_0 : decode cX1_readOrder 0 = .ok (.aload_n 0, 1) := by decide +kernel
theorem dX1_readOrder_1 : decode cX1_readOrder 1 = .ok (.aload_n 0, 1) := by decide +kernel
theorem dX1_readOrder_2 : decode cX1_readOrder 2 = .ok (.invokevirtual 26, 3) := by decide +kernel
theorem dX1_readOrder_5 : decode cX1_readOrder 5 = .ok (.putfield 30, 3) := by decide +kernel
theorem dX1_readOrder_8 : decode cX1_readOrder 8 = .ok (.aload_n 0, 1) := by decide +kernel
theorem dX1_readOrder_9 : decode cX1_readOrder 9 = .ok (.dup, 1) := by decide +kernel
theorem dX1_readOrder_10 : decode cX1_readOrder 10 = .ok (.getfield 23, 3) := by decide +kernel
theorem dX1_readOrder_13 : decode cX1_readOrder 13 = .ok (.iconst 1, 1) := by decide +kernel
theorem dX1_readOrder_14 : decode cX1_readOrder 14 = .ok (.iadd, 1) := by decide +kernel
theorem dX1_readOrder_15 : decode cX1_readOrder 15 = .ok (.putfield 23, 3) := by decide +kernel
theorem dX1_readOrder_18 : decode cX1_readOrder 18 = .ok (.aload_n 0, 1) := by decide +kernel
theorem dX1_readOrder_19 : decode cX1_readOrder 19 = .ok (.getfield 30, 3) := by decide +kernel
theorem dX1_readOrder_22 : decode cX1_readOrder 22 = .ok (.tableswitch 121 109 120 #[99, 121, 121, 99, 121, 69, 121, 121, 121, 121, 62, 99], 62) := by decide +kernel
theorem dX1_readOrder_84 : decode cX1_readOrder 84 = .ok (.aload_n 0, 1) := by decide +kernel
theorem dX1_readOrder_85 : decode cX1_readOrder 85 = .ok (.bipush 59, 2) := by decide +kernel
theorem dX1_readOrder_87 : decode cX1_readOrder 87 = .ok (.invokevirtual 33, 3) := by decide +kernel
theorem dX1_readOrder_90 : decode cX1_readOrder 90 = .ok (.ireturn, 1) := by decide +kernel
theorem dX1_readOrder_91 : decode cX1_readOrder 91 = .ok (.aload_n 0, 1) := by decide +kernel
theorem dX1_readOrder_92 : decode cX1_readOrder 92 = .ok (.aload_n 0, 1) := by decide +kernel
theorem dX1_readOrder_93 : decode cX1_readOrder 93 = .ok (.invokevirtual 37, 3) := by decide +kernel
theorem dX1_readOrder_96 : decode cX1_readOrder 96 = .ok (.putfield 41, 3) := by decide +kernel
theorem dX1_readOrder_99 : decode cX1_readOrder 99 = .ok (.aload_n 0, 1) := by decide +kernel
theorem dX1_readOrder_100 : decode cX1_readOrder 100 = .ok (.getfield 41, 3) := by decide +kernel
theorem dX1_readOrder_103 : decode cX1_readOrder 103 = .ok (.ifCond .lt 16, 3) := by decide +kernel
theorem dX1_readOrder_106 : decode cX1_readOrder 106 = .ok (.aload_n 0, 1) := by decide +kernel
theorem dX1_readOrder_107 : decode cX1_readOrder 107 = .ok (.bipush 59, 2) := by decide +kernel
theorem dX1_readOrder_109 : decode cX1_readOrder 109 = .ok (.invokevirtual 33, 3) := by decide +kernel
theorem dX1_readOrder_112 : decode cX1_readOrder 112 = .ok (.ifCond .eq 7, 3) := by decide +kernel
theorem dX1_readOrder_115 : decode cX1_readOrder 115 = .ok (.iconst 1, 1) := by decide +kernel
theorem dX1_readOrder_116 : decode cX1_readOrder 116 = .ok (.goto 4, 3) := by decide +kernel
theorem dX1_readOrder_119 : decode cX1_readOrder 119 = .ok (.iconst 0, 1) := by decide +kernel
theorem dX1_readOrder_120 : decode cX1_readOrder 120 = .ok (.ireturn, 1) := by decide +kernel
theorem dX1_readOrder_121 : decode cX1_readOrder 121 = .ok (.aload_n 0, 1) := by decide +kernel
theorem dX1_readOrder_122 : decode cX1_readOrder 122 = .ok (.invokevirtual 44, 3) := by decide +kernel
theorem dX1_readOrder_125 : decode cX1_readOrder 125 = .ok (.ifCond .eq 16, 3) := by decide +kernel
theorem dX1_readOrder_128 : decode cX1_readOrder 128 = .ok (.aload_n 0, 1) := by decide +kernel
theorem dX1_readOrder_129 : decode cX1_readOrder 129 = .ok (.bipush 59, 2) := by decide +kernel
theorem dX1_readOrder_131 : decode cX1_readOrder 131 = .ok (.invokevirtual 33, 3) := by decide +kernel
theorem dX1_readOrder_134 : decode cX1_readOrder 134 = .ok (.ifCond .eq 7, 3) := by decide +kernel
theorem dX1_readOrder_137 : decode cX1_readOrder 137 = .ok (.iconst 1, 1) := by decide +kernel
theorem dX1_readOrder_138 : decode cX1_readOrder 138 = .ok (.goto 4, 3) := by decide +kernel
theorem dX1_readOrder_141 : decode cX1_readOrder 141 = .ok (.iconst 0, 1) := by decide +kernel
theorem dX1_readOrder_142 : decode cX1_readOrder 142 = .ok (.ireturn, 1) := by decide +kernel
theorem dX1_readOrder_143 : decode cX1_readOrder 143 = .ok (.iconst 0, 1) := by decide +kernel
theorem dX1_readOrder_144 : decode cX1_readOrder 144 = .ok (.ireturn, 1) := by decide +kernel
set_option maxRecDepth 20000 in
theorem ggX1_readTwoNumbers_X1_readNumber : GoodIn wsX1_readTwoNumbers wsX1_readNumber := goodIn_r _ [7, 8, 9, 10, 11, 6, 12, 13, 14, 15, 16, 17, 22, 23, 24, 25, 26, 27] (by decide +kernel) (by decide +kernel)
set_option maxRecDepth 20000 in
theorem gX1_readTwoNumbers_X1_readNumber : GoodIn wsX1_readTwoNumbers (wsV RX1 37 RX1 yX1_readNumber wsX1_readNumber) := goodIn_app (goodIn_of _ (by decide +kernel)) ggX1_readTwoNumbers_X1_readNumber
set_option maxRecDepth 20000 in
theorem ggX1_readTwoNumbers_X1_readSign : GoodIn wsX1_readTwoNumbers wsX1_readSign := goodIn_r _ [21, 8, 9, 10, 11, 6, 12, 13, 14, 22, 23, 24, 25, 26, 27] (by decide +kernel) (by decide +kernel)
set_option maxRecDepth 20000 in
theorem gX1_readTwoNumbers_X1_readSign : GoodIn wsX1_readTwoNumbers (wsV RX1 33 RX1 yX1_readSign wsX1_readSign) := goodIn_app (goodIn_of _ (by decide +kernel)) ggX1_readTwoNumbers_X1_readSign
theorem dX1_readTwoNumbers_0 : decode cX1_readTwoNumbers 0 = .ok (.aload_n 0, 1) := by decide +kernel
theorem dX1_readTwoNumbers_1 : decode cX1_readTwoNumbers 1 = .ok (.aload_n 0, 1) := by decide +kernel
theorem dX1_readTwoNumbers_2 : decode cX1_readTwoNumbers 2 = .ok (.invokevirtual 37, 3) := by decide +kernel
theorem dX1_readTwoNumbers_5 : decode cX1_readTwoNumbers 5 = .ok (.putfield 41, 3) := by decide +kernel
theorem dX1_readTwoNumbers_8 : decode cX1_readTwoNumbers 8 = .ok (.aload_n 0, 1) := by decide +kernel
theorem dX1_readTwoNumbers_9 : decode cX1_readTwoNumbers 9 = .ok (.getfield 41, 3) := by decide +kernel
theorem dX1_readTwoNumbers_12 : decode cX1_readTwoNumbers 12 = .ok (.ifCond .lt 12, 3) := by decide +kernel
theorem dX1_readTwoNumbers_15 : decode cX1_readTwoNumbers 15 = .ok (.aload_n 0, 1) := by decide +kernel
theorem dX1_readTwoNumbers_16 : decode cX1_readTwoNumbers 16 = .ok (.bipush 44, 2) := by decide +kernel
theorem dX1_readTwoNumbers_18 : decode cX1_readTwoNumbers 18 = .ok (.invokevirtual 33, 3) := by decide +kernel
theorem dX1_readTwoNumbers_21 : decode cX1_readTwoNumbers 21 = .ok (.ifCond .ne 5, 3) := by decide +kernel
theorem dX1_readTwoNumbers_24 : decode cX1_readTwoNumbers 24 = .ok (.iconst 0, 1) := by decide +kernel
theorem dX1_readTwoNumbers_25 : decode cX1_readTwoNumbers 25 = .ok (.ireturn, 1) := by decide +kernel
theorem dX1_readTwoNumbers_26 : decode cX1_readTwoNumbers 26 = .ok (.aload_n 0, 1) := by decide +kernel
theorem dX1_readTwoNumbers_27 : decode cX1_readTwoNumbers 27 = .ok (.aload_n 0, 1) := by decide +kernel
theorem dX1_readTwoNumbers_28 : decode cX1_readTwoNumbers 28 = .ok (.invokevirtual 37, 3) := by decide +kernel
theorem dX1_readTwoNumbers_31 : decode cX1_readTwoNumbers 31 = .ok (.putfield 48, 3) := by decide +kernel
theorem dX1_readTwoNumbers_34 : decode cX1_readTwoNumbers 34 = .ok (.aload_n 0, 1) := by decide +kernel
theorem dX1_readTwoNumbers_35 : decode cX1_readTwoNumbers 35 = .ok (.getfield 48, 3) := by decide +kernel
theorem dX1_readTwoNumbers_38 : decode cX1_readTwoNumbers 38 = .ok (.ifCond .lt 7, 3) := by decide +kernel
theorem dX1_readTwoNumbers_41 : decode cX1_readTwoNumbers 41 = .ok (.iconst 1, 1) := by decide +kernel
theorem dX1_readTwoNumbers_42 : decode cX1_readTwoNumbers 42 = .ok (.goto 4, 3) := by decide +kernel
theorem dX1_readTwoNumbers_45 : decode cX1_readTwoNumbers 45 = .ok (.iconst 0, 1) := by decide +kernel
theorem dX1_readTwoNumbers_46 : decode cX1_readTwoNumbers 46 = .ok (.ireturn, 1) := by decide +kernel
set_option maxRecDepth 20000 in
theorem ggX1_readNumber_X1_nextSign : GoodIn wsX1_readNumber wsX1_nextSign := goodIn_r _ [6, 1, 7, 8, 12, 13, 14, 15, 16, 17] (by decide +kernel) (by decide +kernel)
set_option maxRecDepth 20000 in
theorem gX1_readNumber_X1_nextSign : GoodIn wsX1_readNumber (wsV RX1 26 RX1 yX1_nextSign wsX1_nextSign) := goodIn_app (goodIn_of _ (by decide +kernel)) ggX1_readNumber_X1_nextSign
set_option maxRecDepth 20000 in
theorem ggX1_readNumber_X1_isDigit : GoodIn wsX1_readNumber wsX1_isDigit := goodIn_r _ [11] (by decide +kernel) (by decide +kernel)
set_option maxRecDepth 20000 in
theorem gX1_readNumber_X1_isDigit : GoodIn wsX1_readNumber (va_wsS RX1 51 yX1_isDigit wsX1_isDigit) := goodIn_app (goodIn_of _ (by decide +kernel)) ggX1_readNumber_X1_isDigit
theorem dX1_readNumber_0 : decode cX1_readNumber 0 = .ok (.iconst 0, 1) := by decide +kernel
theorem dX1_readNumber_1 : decode cX1_readNumber 1 = .ok (.istore_n 1, 1) := by decide +kernel
theorem dX1_readNumber_2 : decode cX1_readNumber 2 = .ok (.iconst 0, 1) := by decide +kernel
theorem dX1_readNumber_3 : decode cX1_readNumber 3 = .ok (.istore_n 2, 1) := by decide +kernel
theorem dX1_readNumber_4 : decode cX1_readNumber 4 = .ok (.iload_n 2, 1) := by decide +kernel
theorem dX1_readNumber_5 : decode cX1_readNumber 5 = .ok (.iconst 3, 1) := by decide +kernel
theorem dX1_readNumber_6 : decode cX1_readNumber 6 = .ok (.if_icmp .ge 42, 3) := by decide +kernel
theorem dX1_readNumber_9 : decode cX1_readNumber 9 = .ok (.aload_n 0, 1) := by decide +kernel
theorem dX1_readNumber_10 : decode cX1_readNumber 10 = .ok (.invokevirtual 26, 3) := by decide +kernel
theorem dX1_readNumber_13 : decode cX1_readNumber 13 = .ok (.invokestatic 51, 3) := by decide +kernel
theorem dX1_readNumber_16 : decode cX1_readNumber 16 = .ok (.ifCond .eq 32, 3) := by decide +kernel
theorem dX1_readNumber_19 : decode cX1_readNumber 19 = .ok (.bipush 10, 2) := by decide +kernel
theorem dX1_readNumber_21 : decode cX1_readNumber 21 = .ok (.iload_n 1, 1) := by decide +kernel
theorem dX1_readNumber_22 : decode cX1_readNumber 22 = .ok (.imul, 1) := by decide +kernel
theorem dX1_readNumber_23 : decode cX1_readNumber 23 = .ok (.aload_n 0, 1) := by decide +kernel
theorem dX1_readNumber_24 : decode cX1_readNumber 24 = .ok (.invokevirtual 26, 3) := by decide +kernel
theorem dX1_readNumber_27 : decode cX1_readNumber 27 = .ok (.bipush 48, 2) := by decide +kernel
theorem dX1_readNumber_29 : decode cX1_readNumber 29 = .ok (.isub, 1) := by decide +kernel
theorem dX1_readNumber_30 : decode cX1_readNumber 30 = .ok (.iadd, 1) := by decide +kernel
theorem dX1_readNumber_31 : decode cX1_readNumber 31 = .ok (.istore_n 1, 1) := by decide +kernel
theorem dX1_readNumber_32 : decode cX1_readNumber 32 = .ok (.iinc 2 1, 3) := by decide +kernel
theorem dX1_readNumber_35 : decode cX1_readNumber 35 = .ok (.aload_n 0, 1) := by decide +kernel
theorem dX1_readNumber_36 : decode cX1_readNumber 36 = .ok (.dup, 1) := by decide +kernel
theorem dX1_readNumber_37 : decode cX1_readNumber 37 = .ok (.getfield 23, 3) := by decide +kernel
theorem dX1_readNumber_40 : decode cX1_readNumber 40 = .ok (.iconst 1, 1) := by decide +kernel
theorem dX1_readNumber_41 : decode cX1_readNumber 41 = .ok (.iadd, 1) := by decide +kernel
theorem dX1_readNumber_42 : decode cX1_readNumber 42 = .ok (.putfield 23, 3) := by decide +kernel
theorem dX1_readNumber_45 : decode cX1_readNumber 45 = .ok (.goto (-41), 3) := by decide +kernel
theorem dX1_readNumber_48 : decode cX1_readNumber 48 = .ok (.iload_n 2, 1) := by decide +kernel
theorem dX1_readNumber_49 : decode cX1_readNumber 49 = .ok (.ifCond .ne 7, 3) := by decide +kernel
theorem dX1_readNumber_52 : decode cX1_readNumber 52 = .ok (.iconst (-1), 1) := by decide +kernel
theorem dX1_readNumber_53 : decode cX1_readNumber 53 = .ok (.goto 4, 3) := by decide +kernel
theorem dX1_readNumber_56 : decode cX1_readNumber 56 = .ok (.iload_n 1, 1) := by decide +kernel
theorem dX1_readNumber_57 : decode cX1_readNumber 57 = .ok (.ireturn, 1) := by decide +kernel
set_option maxRecDepth 20000 in
theorem ggX1_readSign_X1_nextSign : GoodIn wsX1_readSign wsX1_nextSign := goodIn_r _ [6, 1, 7, 8, 9, 10, 11, 12, 13, 14] (by decide +kernel) (by decide +kernel)
set_option maxRecDepth 20000 in
theorem gX1_readSign_X1_nextSign : GoodIn wsX1_readSign (wsV RX1 26 RX1 yX1_nextSign wsX1_nextSign) := goodIn_app (goodIn_of _ (by decide +kernel)) ggX1_readSign_X1_nextSign
theorem dX1_readSign_0 : decode cX1_readSign 0 = .ok (.aload_n 0, 1) := by decide +kernel
theorem dX1_readSign_1 : decode cX1_readSign 1 = .ok (.invokevirtual 26, 3) := by decide +kernel
theorem dX1_readSign_4 : decode cX1_readSign 4 = .ok (.iload_n 1, 1) := by decide +kernel
theorem dX1_readSign_5 : decode cX1_readSign 5 = .ok (.if_icmp .eq 5, 3) := by decide +kernel
theorem dX1_readSign_8 : decode cX1_readSign 8 = .ok (.iconst 0, 1) := by decide +kernel
theorem dX1_readSign_9 : decode cX1_readSign 9 = .ok (.ireturn, 1) := by decide +kernel
theorem dX1_readSign_10 : decode cX1_readSign 10 = .ok (.aload_n 0, 1) := by decide +kernel
theorem dX1_readSign_11 : decode cX1_readSign 11 = .ok (.dup, 1) := by decide +kernel
theorem dX1_readSign_12 : decode cX1_readSign 12 = .ok (.getfield 23, 3) := by decide +kernel
theorem dX1_readSign_15 : decode cX1_readSign 15 = .ok (.iconst 1, 1) := by decide +kernel
theorem dX1_readSign_16 : decode cX1_readSign 16 = .ok (.iadd, 1) := by decide +kernel
theorem dX1_readSign_17 : decode cX1_readSign 17 = .ok (.putfield 23, 3) := by decide +kernel
theorem dX1_readSign_20 : decode cX1_readSign 20 = .ok (.iconst 1, 1) := by decide +kernel
theorem dX1_readSign_21 : decode cX1_readSign 21 = .ok (.ireturn, 1) := by decide +kernel
theorem dX1_nextSign_0 : decode cX1_nextSign 0 = .ok (.aload_n 0, 1) := by decide +kernel
theorem dX1_nextSign_1 : decode cX1_nextSign 1 = .ok (.getfield 23, 3) := by decide +kernel
theorem dX1_nextSign_4 : decode cX1_nextSign 4 = .ok (.ifCond .lt 35, 3) := by decide +kernel
theorem dX1_nextSign_7 : decode cX1_nextSign 7 = .ok (.aload_n 0, 1) := by decide +kernel
theorem dX1_nextSign_8 : decode cX1_nextSign 8 = .ok (.getfield 23, 3) := by decide +kernel
theorem dX1_nextSign_11 : decode cX1_nextSign 11 = .ok (.aload_n 0, 1) := by decide +kernel
theorem dX1_nextSign_12 : decode cX1_nextSign 12 = .ok (.getfield 19, 3) := by decide +kernel
theorem dX1_nextSign_15 : decode cX1_nextSign 15 = .ok (.if_icmp .ge 24, 3) := by decide +kernel
theorem dX1_nextSign_18 : decode cX1_nextSign 18 = .ok (.aload_n 0, 1) := by decide +kernel
theorem dX1_nextSign_19 : decode cX1_nextSign 19 = .ok (.getfield 23, 3) := by decide +kernel
theorem dX1_nextSign_22 : decode cX1_nextSign 22 = .ok (.bipush 60, 2) := by decide +kernel
theorem dX1_nextSign_24 : decode cX1_nextSign 24 = .ok (.if_icmp .ge 15, 3) := by decide +kernel
theorem dX1_nextSign_27 : decode cX1_nextSign 27 = .ok (.aload_n 0, 1) := by decide +kernel
theorem dX1_nextSign_28 : decode cX1_nextSign 28 = .ok (.getfield 9, 3) := by decide +kernel
theorem dX1_nextSign_31 : decode cX1_nextSign 31 = .ok (.aload_n 0, 1) := by decide +kernel
theorem dX1_nextSign_32 : decode cX1_nextSign 32 = .ok (.getfield 23, 3) := by decide +kernel
theorem dX1_nextSign_35 : decode cX1_nextSign 35 = .ok (.caload, 1) := by decide +kernel
theorem dX1_nextSign_36 : decode cX1_nextSign 36 = .ok (.goto 5, 3) := by decide +kernel
theorem dX1_nextSign_39 : decode cX1_nextSign 39 = .ok (.bipush 32, 2) := by decide +kernel
theorem dX1_nextSign_41 : decode cX1_nextSign 41 = .ok (.ireturn, 1) := by decide +kernel
theorem dX1_isDigit_0 : decode cX1_isDigit 0 = .ok (.iload_n 0, 1) := by decide +kernel
theorem dX1_isDigit_1 : decode cX1_isDigit 1 = .ok (.bipush 48, 2) := by decide +kernel
theorem dX1_isDigit_3 : decode cX1_isDigit 3 = .ok (.if_icmp .lt 13, 3) := by decide +kernel
theorem dX1_isDigit_6 : decode cX1_isDigit 6 = .ok (.iload_n 0, 1) := by decide +kernel
theorem dX1_isDigit_7 : decode cX1_isDigit 7 = .ok (.bipush 57, 2) := by decide +kernel
theorem dX1_isDigit_9 : decode cX1_isDigit 9 = .ok (.if_icmp .gt 7, 3) := by decide +kernel
theorem dX1_isDigit_12 : decode cX1_isDigit 12 = .ok (.iconst 1, 1) := by decide +kernel
theorem dX1_isDigit_13 : decode cX1_isDigit 13 = .ok (.goto 4, 3) := by decide +kernel
theorem dX1_isDigit_16 : decode cX1_isDigit 16 = .ok (.iconst 0, 1) := by decide +kernel
theorem dX1_isDigit_17 : decode cX1_isDigit 17 = .ok (.ireturn, 1) := by decide +kernel
theorem dX2_isSlot_0 : decode cX2_isSlot 0 = .ok (.iload_n 0, 1) := by decide +kernel
theorem dX2_isSlot_1 : decode cX2_isSlot 1 = .ok (.ifCond .lt 13, 3) := by decide +kernel
theorem dX2_isSlot_4 : decode cX2_isSlot 4 = .ok (.iload_n 0, 1) := by decide +kernel
theorem dX2_isSlot_5 : decode cX2_isSlot 5 = .ok (.bipush 60, 2) := by decide +kernel
theorem dX2_isSlot_7 : decode cX2_isSlot 7 = .ok (.if_icmp .ge 7, 3) := by decide +kernel
theorem dX2_isSlot_10 : decode cX2_isSlot 10 = .ok (.iconst 1, 1) := by decide +kernel
theorem dX2_isSlot_11 : decode cX2_isSlot 11 = .ok (.goto 4, 3) := by decide +kernel
theorem dX2_isSlot_14 : decode cX2_isSlot 14 = .ok (.iconst 0, 1) := by decide +kernel
theorem dX2_isSlot_15 : decode cX2_isSlot 15 = .ok (.ireturn, 1) := by decide +kernel
theorem dX2_walkTo_0 : decode cX2_walkTo 0 = .ok (.iload_n 0, 1) := by decide +kernel
theorem dX2_walkTo_1 : decode cX2_walkTo 1 = .ok (.ifCond .lt 9, 3) := by decide +kernel
theorem dX2_walkTo_4 : decode cX2_walkTo 4 = .ok (.iload_n 0, 1) := by decide +kernel
theorem dX2_walkTo_5 : decode cX2_walkTo 5 = .ok (.bipush 60, 2) := by decide +kernel
theorem dX2_walkTo_7 : decode cX2_walkTo 7 = .ok (.if_icmp .lt 5, 3) := by decide +kernel
theorem dX2_walkTo_10 : decode cX2_walkTo 10 = .ok (.iconst 0, 1) := by decide +kernel
theorem dX2_walkTo_11 : decode cX2_walkTo 11 = .ok (.ireturn, 1) := by decide +kernel
theorem dX2_walkTo_12 : decode cX2_walkTo 12 = .ok (.iconst 4, 1) := by decide +kernel
theorem dX2_walkTo_13 : decode cX2_walkTo 13 = .ok (.iload_n 0, 1) := by decide +kernel
theorem dX2_walkTo_14 : decode cX2_walkTo 14 = .ok (.bipush 6, 2) := by decide +kernel
theorem dX2_walkTo_16 : decode cX2_walkTo 16 = .ok (.idiv, 1) := by decide +kernel
theorem dX2_walkTo_17 : decode cX2_walkTo 17 = .ok (.imul, 1) := by decide +kernel
theorem dX2_walkTo_18 : decode cX2_walkTo 18 = .ok (.iconst 4, 1) := by decide +kernel
theorem dX2_walkTo_19 : decode cX2_walkTo 19 = .ok (.iadd, 1) := by decide +kernel
theorem dX2_walkTo_20 : decode cX2_walkTo 20 = .ok (.getstatic 9, 3) := by decide +kernel
theorem dX2_walkTo_23 : decode cX2_walkTo 23 = .ok (.iload_n 0, 1) := by decide +kernel
theorem dX2_walkTo_24 : decode cX2_walkTo 24 = .ok (.bipush 6, 2) := by decide +kernel
theorem dX2_walkTo_26 : decode cX2_walkTo 26 = .ok (.irem, 1) := by decide +kernel
theorem dX2_walkTo_27 : decode cX2_walkTo 27 = .ok (.iaload, 1) := by decide +kernel
theorem dX2_walkTo_28 : decode cX2_walkTo 28 = .ok (.iadd, 1) := by decide +kernel
theorem dX2_walkTo_29 : decode cX2_walkTo 29 = .ok (.ireturn, 1) := by decide +kernel
theorem dX2_heaviestAt_0 : decode cX2_heaviestAt 0 = .ok (.iload_n 0, 1) := by decide +kernel
theorem dX2_heaviestAt_1 : decode cX2_heaviestAt 1 = .ok (.ifCond .lt 20, 3) := by decide +kernel
theorem dX2_heaviestAt_4 : decode cX2_heaviestAt 4 = .ok (.iload_n 0, 1) := by decide +kernel
theorem dX2_heaviestAt_5 : decode cX2_heaviestAt 5 = .ok (.bipush 60, 2) := by decide +kernel
theorem dX2_heaviestAt_7 : decode cX2_heaviestAt 7 = .ok (.if_icmp .ge 14, 3) := by decide +kernel
theorem dX2_heaviestAt_10 : decode cX2_heaviestAt 10 = .ok (.getstatic 13, 3) := by decide +kernel
theorem dX2_heaviestAt_13 : decode cX2_heaviestAt 13 = .ok (.iload_n 0, 1) := by decide +kernel
theorem dX2_heaviestAt_14 : decode cX2_heaviestAt 14 = .ok (.bipush 6, 2) := by decide +kernel
theorem dX2_heaviestAt_16 : decode cX2_heaviestAt 16 = .ok (.irem, 1) := by decide +kernel
theorem dX2_heaviestAt_17 : decode cX2_heaviestAt 17 = .ok (.iaload, 1) := by decide +kernel
theorem dX2_heaviestAt_18 : decode cX2_heaviestAt 18 = .ok (.goto 4, 3) := by decide +kernel
theorem dX2_heaviestAt_21 : decode cX2_heaviestAt 21 = .ok (.iconst 0, 1) := by decide +kernel
theorem dX2_heaviestAt_22 : decode cX2_heaviestAt 22 = .ok (.ireturn, 1) := by decide +kernel
theorem dX2_wayBetween_0 : decode cX2_wayBetween 0 = .ok (.iload_n 0, 1) := by decide +kernel
theorem dX2_wayBetween_1 : decode cX2_wayBetween 1 = .ok (.ifCond .lt 19, 3) := by decide +kernel
theorem dX2_wayBetween_4 : decode cX2_wayBetween 4 = .ok (.iload_n 0, 1) := by decide +kernel
theorem dX2_wayBetween_5 : decode cX2_wayBetween 5 = .ok (.bipush 60, 2) := by decide +kernel
theorem dX2_wayBetween_7 : decode cX2_wayBetween 7 = .ok (.if_icmp .ge 13, 3) := by decide +kernel
theorem dX2_wayBetween_10 : decode cX2_wayBetween 10 = .ok (.iload_n 1, 1) := by decide +kernel
theorem dX2_wayBetween_11 : decode cX2_wayBetween 11 = .ok (.ifCond .lt 9, 3) := by decide +kernel
theorem dX2_wayBetween_14 : decode cX2_wayBetween 14 = .ok (.iload_n 1, 1) := by decide +kernel
theorem dX2_wayBetween_15 : decode cX2_wayBetween 15 = .ok (.bipush 60, 2) := by decide +kernel
theorem dX2_wayBetween_17 : decode cX2_wayBetween 17 = .ok (.if_icmp .lt 5, 3) := by decide +kernel
theorem dX2_wayBetween_20 : decode cX2_wayBetween 20 = .ok (.iconst 0, 1) := by decide +kernel
theorem dX2_wayBetween_21 : decode cX2_wayBetween 21 = .ok (.ireturn, 1) := by decide +kernel
theorem dX2_wayBetween_22 : decode cX2_wayBetween 22 = .ok (.iload_n 0, 1) := by decide +kernel
theorem dX2_wayBetween_23 : decode cX2_wayBetween 23 = .ok (.bipush 6, 2) := by decide +kernel
theorem dX2_wayBetween_25 : decode cX2_wayBetween 25 = .ok (.idiv, 1) := by decide +kernel
theorem dX2_wayBetween_26 : decode cX2_wayBetween 26 = .ok (.iload_n 1, 1) := by decide +kernel
theorem dX2_wayBetween_27 : decode cX2_wayBetween 27 = .ok (.bipush 6, 2) := by decide +kernel
theorem dX2_wayBetween_29 : decode cX2_wayBetween 29 = .ok (.idiv, 1) := by decide +kernel
theorem dX2_wayBetween_30 : decode cX2_wayBetween 30 = .ok (.isub, 1) := by decide +kernel
theorem dX2_wayBetween_31 : decode cX2_wayBetween 31 = .ok (.invokestatic 16, 3) := by decide +kernel
theorem dX2_wayBetween_34 : decode cX2_wayBetween 34 = .ok (.istore_n 2, 1) := by decide +kernel
theorem dX2_wayBetween_35 : decode cX2_wayBetween 35 = .ok (.iconst 4, 1) := by decide +kernel
theorem dX2_wayBetween_36 : decode cX2_wayBetween 36 = .ok (.iload_n 2, 1) := by decide +kernel
theorem dX2_wayBetween_37 : decode cX2_wayBetween 37 = .ok (.imul, 1) := by decide +kernel
theorem dX2_wayBetween_38 : decode cX2_wayBetween 38 = .ok (.getstatic 9, 3) := by decide +kernel
theorem dX2_wayBetween_41 : decode cX2_wayBetween 41 = .ok (.iload_n 0, 1) := by decide +kernel
theorem dX2_wayBetween_42 : decode cX2_wayBetween 42 = .ok (.bipush 6, 2) := by decide +kernel
theorem dX2_wayBetween_44 : decode cX2_wayBetween 44 = .ok (.irem, 1) := by decide +kernel
theorem dX2_wayBetween_45 : decode cX2_wayBetween 45 = .ok (.iaload, 1) := by decide +kernel
theorem dX2_wayBetween_46 : decode cX2_wayBetween 46 = .ok (.iadd, 1) := by decide +kernel
theorem dX2_wayBetween_47 : decode cX2_wayBetween 47 = .ok (.getstatic 9, 3) := by decide +kernel
theorem dX2_wayBetween_50 : decode cX2_wayBetween 50 = .ok (.iload_n 1, 1) := by decide +kernel
theorem dX2_wayBetween_51 : decode cX2_wayBetween 51 = .ok (.bipush 6, 2) := by decide +kernel
theorem dX2_wayBetween_53 : decode cX2_wayBetween 53 = .ok (.irem, 1) := by decide +kernel
theorem dX2_wayBetween_54 : decode cX2_wayBetween 54 = .ok (.iaload, 1) := by decide +kernel
theorem dX2_wayBetween_55 : decode cX2_wayBetween 55 = .ok (.iadd, 1) := by decide +kernel
theorem dX2_wayBetween_56 : decode cX2_wayBetween 56 = .ok (.ireturn, 1) := by decide +kernel
theorem dX2_greatestHeightFor_0 : decode cX2_greatestHeightFor 0 = .ok (.iconst 0, 1) := by decide +kernel
theorem dX2_greatestHeightFor_1 : decode cX2_greatestHeightFor 1 = .ok (.istore_n 1, 1) := by decide +kernel
theorem dX2_greatestHeightFor_2 : decode cX2_greatestHeightFor 2 = .ok (.iconst 0, 1) := by decide +kernel
theorem dX2_greatestHeightFor_3 : decode cX2_greatestHeightFor 3 = .ok (.istore_n 2, 1) := by decide +kernel
theorem dX2_greatestHeightFor_4 : decode cX2_greatestHeightFor 4 = .ok (.iload_n 2, 1) := by decide +kernel
theorem dX2_greatestHeightFor_5 : decode cX2_greatestHeightFor 5 = .ok (.bipush 6, 2) := by decide +kernel
theorem dX2_greatestHeightFor_7 : decode cX2_greatestHeightFor 7 = .ok (.if_icmp .ge 20, 3) := by decide +kernel
theorem dX2_greatestHeightFor_10 : decode cX2_greatestHeightFor 10 = .ok (.iload_n 0, 1) := by decide +kernel
theorem dX2_greatestHeightFor_11 : decode cX2_greatestHeightFor 11 = .ok (.getstatic 13, 3) := by decide +kernel
theorem dX2_greatestHeightFor_14 : decode cX2_greatestHeightFor 14 = .ok (.iload_n 2, 1) := by decide +kernel
theorem dX2_greatestHeightFor_15 : decode cX2_greatestHeightFor 15 = .ok (.iaload, 1) := by decide +kernel
theorem dX2_greatestHeightFor_16 : decode cX2_greatestHeightFor 16 = .ok (.if_icmp .gt 5, 3) := by decide +kernel
theorem dX2_greatestHeightFor_19 : decode cX2_greatestHeightFor 19 = .ok (.iload_n 2, 1) := by decide +kernel
theorem dX2_greatestHeightFor_20 : decode cX2_greatestHeightFor 20 = .ok (.istore_n 1, 1) := by decide +kernel
theorem dX2_greatestHeightFor_21 : decode cX2_greatestHeightFor 21 = .ok (.iinc 2 1, 3) := by decide +kernel
theorem dX2_greatestHeightFor_24 : decode cX2_greatestHeightFor 24 = .ok (.goto (-20), 3) := by decide +kernel
theorem dX2_greatestHeightFor_27 : decode cX2_greatestHeightFor 27 = .ok (.iload_n 1, 1) := by decide +kernel
theorem dX2_greatestHeightFor_28 : decode cX2_greatestHeightFor 28 = .ok (.ireturn, 1) := by decide +kernel
theorem dX3_init_0 : decode cX3_init 0 = .ok (.aload_n 0, 1) := by decide +kernel
theorem dX3_init_1 : decode cX3_init 1 = .ok (.invokespecial 3, 3) := by decide +kernel
theorem dX3_init_4 : decode cX3_init 4 = .ok (.aload_n 0, 1) := by decide +kernel
theorem dX3_init_5 : decode cX3_init 5 = .ok (.bipush 20, 2) := by decide +kernel
theorem dX3_init_7 : decode cX3_init 7 = .ok (.newarray .int, 2) := by decide +kernel
theorem dX3_init_9 : decode cX3_init 9 = .ok (.putfield 9, 3) := by decide +kernel
theorem dX3_init_12 : decode cX3_init 12 = .ok (.return_, 1) := by decide +kernel
theorem dX3_insert_0 : decode cX3_insert 0 = .ok (.aload_n 0, 1) := by decide +kernel
theorem dX3_insert_1 : decode cX3_insert 1 = .ok (.getfield 15, 3) := by decide +kernel
theorem dX3_insert_4 : decode cX3_insert 4 = .ok (.ifCond .lt 12, 3) := by decide +kernel
theorem dX3_insert_7 : decode cX3_insert 7 = .ok (.aload_n 0, 1) := by decide +kernel
theorem dX3_insert_8 : decode cX3_insert 8 = .ok (.getfield 15, 3) := by decide +kernel
theorem dX3_insert_11 : decode cX3_insert 11 = .ok (.bipush 20, 2) := by decide +kernel
theorem dX3_insert_13 : decode cX3_insert 13 = .ok (.if_icmp .lt 4, 3) := by decide +kernel
theorem dX3_insert_16 : decode cX3_insert 16 = .ok (.return_, 1) := by decide +kernel
theorem dX3_insert_17 : decode cX3_insert 17 = .ok (.aload_n 0, 1) := by decide +kernel
theorem dX3_insert_18 : decode cX3_insert 18 = .ok (.getfield 15, 3) := by decide +kernel
theorem dX3_insert_21 : decode cX3_insert 21 = .ok (.istore_n 2, 1) := by decide +kernel
theorem dX3_insert_22 : decode cX3_insert 22 = .ok (.iload_n 2, 1) := by decide +kernel
theorem dX3_insert_23 : decode cX3_insert 23 = .ok (.ifCond .le 35, 3) := by decide +kernel
theorem dX3_insert_26 : decode cX3_insert 26 = .ok (.aload_n 0, 1) := by decide +kernel
theorem dX3_insert_27 : decode cX3_insert 27 = .ok (.getfield 9, 3) := by decide +kernel
theorem dX3_insert_30 : decode cX3_insert 30 = .ok (.iload_n 2, 1) := by decide +kernel
theorem dX3_insert_31 : decode cX3_insert 31 = .ok (.iconst 1, 1) := by decide +kernel
theorem dX3_insert_32 : decode cX3_insert 32 = .ok (.isub, 1) := by decide +kernel
theorem dX3_insert_33 : decode cX3_insert 33 = .ok (.iaload, 1) := by decide +kernel
theorem dX3_insert_34 : decode cX3_insert 34 = .ok (.iload_n 1, 1) := by decide +kernel
theorem dX3_insert_35 : decode cX3_insert 35 = .ok (.if_icmp .le 23, 3) := by decide +kernel
theorem dX3_insert_38 : decode cX3_insert 38 = .ok (.aload_n 0, 1) := by decide +kernel
theorem dX3_insert_39 : decode cX3_insert 39 = .ok (.getfield 9, 3) := by decide +kernel
theorem dX3_insert_42 : decode cX3_insert 42 = .ok (.iload_n 2, 1) := by decide +kernel
theorem dX3_insert_43 : decode cX3_insert 43 = .ok (.aload_n 0, 1) := by decide +kernel
theorem dX3_insert_44 : decode cX3_insert 44 = .ok (.getfield 9, 3) := by decide +kernel
theorem dX3_insert_47 : decode cX3_insert 47 = .ok (.iload_n 2, 1) := by decide +kernel
theorem dX3_insert_48 : decode cX3_insert 48 = .ok (.iconst 1, 1) := by decide +kernel
theorem dX3_insert_49 : decode cX3_insert 49 = .ok (.isub, 1) := by decide +kernel
theorem dX3_insert_50 : decode cX3_insert 50 = .ok (.iaload, 1) := by decide +kernel
theorem dX3_insert_51 : decode cX3_insert 51 = .ok (.iastore, 1) := by decide +kernel
theorem dX3_insert_52 : decode cX3_insert 52 = .ok (.iinc 2 (-1), 3) := by decide +kernel
theorem dX3_insert_55 : decode cX3_insert 55 = .ok (.goto (-33), 3) := by decide +kernel
theorem dX3_insert_58 : decode cX3_insert 58 = .ok (.aload_n 0, 1) := by decide +kernel
theorem dX3_insert_59 : decode cX3_insert 59 = .ok (.getfield 9, 3) := by decide +kernel
theorem dX3_insert_62 : decode cX3_insert 62 = .ok (.iload_n 2, 1) := by decide +kernel
theorem dX3_insert_63 : decode cX3_insert 63 = .ok (.iload_n 1, 1) := by decide +kernel
theorem dX3_insert_64 : decode cX3_insert 64 = .ok (.iastore, 1) := by decide +kernel
theorem dX3_insert_65 : decode cX3_insert 65 = .ok (.aload_n 0, 1) := by decide +kernel
theorem dX3_insert_66 : decode cX3_insert 66 = .ok (.dup, 1) := by decide +kernel
theorem dX3_insert_67 : decode cX3_insert 67 = .ok (.getfield 15, 3) := by decide +kernel
theorem dX3_insert_70 : decode cX3_insert 70 = .ok (.iconst 1, 1) := by decide +kernel
theorem dX3_insert_71 : decode cX3_insert 71 = .ok (.iadd, 1) := by decide +kernel
theorem dX3_insert_72 : decode cX3_insert 72 = .ok (.putfield 15, 3) := by decide +kernel
theorem dX3_insert_75 : decode cX3_insert 75 = .ok (.return_, 1) := by decide +kernel
theorem dX3_valueAt_0 : decode cX3_valueAt 0 = .ok (.iload_n 1, 1) := by decide +kernel
theorem dX3_valueAt_1 : decode cX3_valueAt 1 = .ok (.ifCond .lt 20, 3) := by decide +kernel
theorem dX3_valueAt_4 : decode cX3_valueAt 4 = .ok (.iload_n 1, 1) := by decide +kernel
theorem dX3_valueAt_5 : decode cX3_valueAt 5 = .ok (.aload_n 0, 1) := by decide +kernel
theorem dX3_valueAt_6 : decode cX3_valueAt 6 = .ok (.getfield 15, 3) := by decide +kernel
theorem dX3_valueAt_9 : decode cX3_valueAt 9 = .ok (.if_icmp .ge 12, 3) := by decide +kernel
theorem dX3_valueAt_12 : decode cX3_valueAt 12 = .ok (.aload_n 0, 1) := by decide +kernel
theorem dX3_valueAt_13 : decode cX3_valueAt 13 = .ok (.getfield 9, 3) := by decide +kernel
theorem dX3_valueAt_16 : decode cX3_valueAt 16 = .ok (.iload_n 1, 1) := by decide +kernel
theorem dX3_valueAt_17 : decode cX3_valueAt 17 = .ok (.iaload, 1) := by decide +kernel
theorem dX3_valueAt_18 : decode cX3_valueAt 18 = .ok (.goto 4, 3) := by decide +kernel
theorem dX3_valueAt_21 : decode cX3_valueAt 21 = .ok (.iconst 0, 1) := by decide +kernel
theorem dX3_valueAt_22 : decode cX3_valueAt 22 = .ok (.ireturn, 1) := by decide +kernel
