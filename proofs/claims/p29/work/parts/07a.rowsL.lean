theorem dJ9_abs_0f7a4_0 : decode cJ9_abs_0f7a4 0 = .ok (.iload_n 0, 1) := by decide +kernel
theorem dJ9_abs_0f7a4_1 : decode cJ9_abs_0f7a4 1 = .ok (.ifCond .ge 8, 3) := by decide +kernel
theorem dJ9_abs_0f7a4_4 : decode cJ9_abs_0f7a4 4 = .ok (.iload_n 0, 1) := by decide +kernel
theorem dJ9_abs_0f7a4_5 : decode cJ9_abs_0f7a4 5 = .ok (.ineg, 1) := by decide +kernel
theorem dJ9_abs_0f7a4_6 : decode cJ9_abs_0f7a4 6 = .ok (.goto 4, 3) := by decide +kernel
theorem dJ9_abs_0f7a4_9 : decode cJ9_abs_0f7a4 9 = .ok (.iload_n 0, 1) := by decide +kernel
theorem dJ9_abs_0f7a4_10 : decode cJ9_abs_0f7a4 10 = .ok (.ireturn, 1) := by decide +kernel
theorem dJ9_min_7cf53_0 : decode cJ9_min_7cf53 0 = .ok (.iload_n 0, 1) := by decide +kernel
theorem dJ9_min_7cf53_1 : decode cJ9_min_7cf53 1 = .ok (.iload_n 1, 1) := by decide +kernel
theorem dJ9_min_7cf53_2 : decode cJ9_min_7cf53 2 = .ok (.if_icmp .gt 7, 3) := by decide +kernel
theorem dJ9_min_7cf53_5 : decode cJ9_min_7cf53 5 = .ok (.iload_n 0, 1) := by decide +kernel
theorem dJ9_min_7cf53_6 : decode cJ9_min_7cf53 6 = .ok (.goto 4, 3) := by decide +kernel
theorem dJ9_min_7cf53_9 : decode cJ9_min_7cf53 9 = .ok (.iload_n 1, 1) := by decide +kernel
theorem dJ9_min_7cf53_10 : decode cJ9_min_7cf53 10 = .ok (.ireturn, 1) := by decide +kernel
theorem dL_cell_0 : decode cL_cell 0 = .ok (.iload_n 1, 1) := by decide +kernel
theorem dL_cell_1 : decode cL_cell 1 = .ok (.aload_n 0, 1) := by decide +kernel
theorem dL_cell_2 : decode cL_cell 2 = .ok (.arraylength, 1) := by decide +kernel
theorem dL_cell_3 : decode cL_cell 3 = .ok (.if_icmp .ge 9, 3) := by decide +kernel
theorem dL_cell_6 : decode cL_cell 6 = .ok (.aload_n 0, 1) := by decide +kernel
theorem dL_cell_7 : decode cL_cell 7 = .ok (.iload_n 1, 1) := by decide +kernel
theorem dL_cell_8 : decode cL_cell 8 = .ok (.iaload, 1) := by decide +kernel
theorem dL_cell_9 : decode cL_cell 9 = .ok (.goto 9, 3) := by decide +kernel
theorem dL_cell_12 : decode cL_cell 12 = .ok (.ldc 7, 2) := by decide +kernel
theorem dL_cell_14 : decode cL_cell 14 = .ok (.iload_n 1, 1) := by decide +kernel
theorem dL_cell_15 : decode cL_cell 15 = .ok (.iconst 3, 1) := by decide +kernel
theorem dL_cell_16 : decode cL_cell 16 = .ok (.iadd, 1) := by decide +kernel
theorem dL_cell_17 : decode cL_cell 17 = .ok (.imul, 1) := by decide +kernel
theorem dL_cell_18 : decode cL_cell 18 = .ok (.ireturn, 1) := by decide +kernel
theorem dL_up_0 : decode cL_up 0 = .ok (.iload_n 0, 1) := by decide +kernel
theorem dL_up_1 : decode cL_up 1 = .ok (.ldc 8, 2) := by decide +kernel
theorem dL_up_3 : decode cL_up 3 = .ok (.iand, 1) := by decide +kernel
theorem dL_up_4 : decode cL_up 4 = .ok (.iload_n 1, 1) := by decide +kernel
theorem dL_up_5 : decode cL_up 5 = .ok (.irem, 1) := by decide +kernel
theorem dL_up_6 : decode cL_up 6 = .ok (.ireturn, 1) := by decide +kernel
set_option maxRecDepth 20000 in
theorem ggL_mark_X5_account : GoodIn wsL_mark wsX5_account := goodIn_r _ [7, 8, 9, 10, 11, 12, 13, 14, 15, 16, 17, 18, 19, 20, 21, 22, 23, 24, 25, 26, 27, 28, 29, 30, 31, 32, 33, 34, 35, 36, 37, 38, 39, 40, 41, 42, 43, 91, 92, 93, 94, 95, 96, 97, 98, 99, 100, 101, 102, 103, 104, 105, 106, 107, 108, 109, 110, 111, 112, 113, 114, 115, 116, 117, 118, 119] (by decide +kernel) (by decide +kernel)
set_option maxRecDepth 20000 in
theorem gL_mark_X5_account : GoodIn wsL_mark (wsV RL 13 RX5 yX5_account wsX5_account) := goodIn_app (goodIn_of _ (by decide +kernel)) ggL_mark_X5_account
set_option maxRecDepth 20000 in
theorem ggL_mark_X5_count : GoodIn wsL_mark wsX5_count := goodIn_r _ [47, 48, 49, 8, 50, 51, 52, 12, 53, 25, 20, 54, 55, 56, 57, 58, 59, 60, 27, 28, 29, 30, 26, 31, 32, 33, 34, 16, 17, 18, 19, 61, 62, 63, 64, 65, 66, 67, 68, 91, 92, 93, 94, 95, 96, 97, 98, 99, 120, 121, 122, 123, 124, 125, 100, 101, 102, 103, 104, 105, 106, 107, 108, 109, 110, 111, 112] (by decide +kernel) (by decide +kernel)
set_option maxRecDepth 20000 in
theorem gL_mark_X5_count : GoodIn wsL_mark (wsV RL 19 RX5 yX5_count wsX5_count) := goodIn_app (goodIn_of _ (by decide +kernel)) ggL_mark_X5_count
set_option maxRecDepth 20000 in
theorem ggL_mark_X5_goodOf : GoodIn wsL_mark wsX5_goodOf := goodIn_r _ [72, 8, 73, 74, 75, 12, 76, 77, 78, 26, 54, 55, 79, 80, 81, 82, 83, 84, 25, 85, 6, 86, 27, 28, 29, 30, 31, 32, 33, 34, 87, 88, 89, 90, 35, 36, 37, 38, 39, 91, 92, 93, 94, 95, 96, 97, 98, 99, 100, 101, 102, 103, 104, 105, 106, 107, 108, 109, 110, 111, 112] (by decide +kernel) (by decide +kernel)
set_option maxRecDepth 20000 in
theorem gL_mark_X5_goodOf : GoodIn wsL_mark (wsV RL 22 RX5 yX5_goodOf wsX5_goodOf) := goodIn_app (goodIn_of _ (by decide +kernel)) ggL_mark_X5_goodOf
theorem dL_mark_0 : decode cL_mark 0 = .ok (.ldc2_w 9, 3) := by decide +kernel
theorem dL_mark_3 : decode cL_mark 3 = .ok (.lstore_n 1, 1) := by decide +kernel
theorem dL_mark_4 : decode cL_mark 4 = .ok (.iconst 0, 1) := by decide +kernel
theorem dL_mark_5 : decode cL_mark 5 = .ok (.istore_n 3, 1) := by decide +kernel
theorem dL_mark_6 : decode cL_mark 6 = .ok (.iload_n 3, 1) := by decide +kernel
theorem dL_mark_7 : decode cL_mark 7 = .ok (.bipush 8, 2) := by decide +kernel
theorem dL_mark_9 : decode cL_mark 9 = .ok (.if_icmp .ge 35, 3) := by decide +kernel
theorem dL_mark_12 : decode cL_mark 12 = .ok (.ldc2_w 11, 3) := by decide +kernel
theorem dL_mark_15 : decode cL_mark 15 = .ok (.lload_n 1, 1) := by decide +kernel
theorem dL_mark_16 : decode cL_mark 16 = .ok (.lmul, 1) := by decide +kernel
theorem dL_mark_17 : decode cL_mark 17 = .ok (.aload_n 0, 1) := by decide +kernel
theorem dL_mark_18 : decode cL_mark 18 = .ok (.iload_n 3, 1) := by decide +kernel
theorem dL_mark_19 : decode cL_mark 19 = .ok (.invokevirtual 13, 3) := by decide +kernel
theorem dL_mark_22 : decode cL_mark 22 = .ok (.i2l, 1) := by decide +kernel
theorem dL_mark_23 : decode cL_mark 23 = .ok (.ladd, 1) := by decide +kernel
theorem dL_mark_24 : decode cL_mark 24 = .ok (.lstore_n 1, 1) := by decide +kernel
theorem dL_mark_25 : decode cL_mark 25 = .ok (.ldc2_w 11, 3) := by decide +kernel
theorem dL_mark_28 : decode cL_mark 28 = .ok (.lload_n 1, 1) := by decide +kernel
theorem dL_mark_29 : decode cL_mark 29 = .ok (.lmul, 1) := by decide +kernel
theorem dL_mark_30 : decode cL_mark 30 = .ok (.aload_n 0, 1) := by decide +kernel
theorem dL_mark_31 : decode cL_mark 31 = .ok (.iload_n 3, 1) := by decide +kernel
theorem dL_mark_32 : decode cL_mark 32 = .ok (.invokevirtual 19, 3) := by decide +kernel
theorem dL_mark_35 : decode cL_mark 35 = .ok (.i2l, 1) := by decide +kernel
theorem dL_mark_36 : decode cL_mark 36 = .ok (.ladd, 1) := by decide +kernel
theorem dL_mark_37 : decode cL_mark 37 = .ok (.lstore_n 1, 1) := by decide +kernel
theorem dL_mark_38 : decode cL_mark 38 = .ok (.iinc 3 1, 3) := by decide +kernel
theorem dL_mark_41 : decode cL_mark 41 = .ok (.goto (-35), 3) := by decide +kernel
theorem dL_mark_44 : decode cL_mark 44 = .ok (.iconst 0, 1) := by decide +kernel
theorem dL_mark_45 : decode cL_mark 45 = .ok (.istore_n 3, 1) := by decide +kernel
theorem dL_mark_46 : decode cL_mark 46 = .ok (.iload_n 3, 1) := by decide +kernel
theorem dL_mark_47 : decode cL_mark 47 = .ok (.iconst 3, 1) := by decide +kernel
theorem dL_mark_48 : decode cL_mark 48 = .ok (.if_icmp .ge 25, 3) := by decide +kernel
theorem dL_mark_51 : decode cL_mark 51 = .ok (.ldc2_w 11, 3) := by decide +kernel
theorem dL_mark_54 : decode cL_mark 54 = .ok (.lload_n 1, 1) := by decide +kernel
theorem dL_mark_55 : decode cL_mark 55 = .ok (.lmul, 1) := by decide +kernel
theorem dL_mark_56 : decode cL_mark 56 = .ok (.aload_n 0, 1) := by decide +kernel
theorem dL_mark_57 : decode cL_mark 57 = .ok (.bipush 20, 2) := by decide +kernel
theorem dL_mark_59 : decode cL_mark 59 = .ok (.iload_n 3, 1) := by decide +kernel
theorem dL_mark_60 : decode cL_mark 60 = .ok (.iadd, 1) := by decide +kernel
theorem dL_mark_61 : decode cL_mark 61 = .ok (.invokevirtual 19, 3) := by decide +kernel
theorem dL_mark_64 : decode cL_mark 64 = .ok (.i2l, 1) := by decide +kernel
theorem dL_mark_65 : decode cL_mark 65 = .ok (.ladd, 1) := by decide +kernel
theorem dL_mark_66 : decode cL_mark 66 = .ok (.lstore_n 1, 1) := by decide +kernel
theorem dL_mark_67 : decode cL_mark 67 = .ok (.iinc 3 1, 3) := by decide +kernel
theorem dL_mark_70 : decode cL_mark 70 = .ok (.goto (-24), 3) := by decide +kernel
theorem dL_mark_73 : decode cL_mark 73 = .ok (.iconst 0, 1) := by decide +kernel
theorem dL_mark_74 : decode cL_mark 74 = .ok (.istore_n 3, 1) := by decide +kernel
theorem dL_mark_75 : decode cL_mark 75 = .ok (.iload_n 3, 1) := by decide +kernel
theorem dL_mark_76 : decode cL_mark 76 = .ok (.aload_n 0, 1) := by decide +kernel
theorem dL_mark_77 : decode cL_mark 77 = .ok (.iconst 0, 1) := by decide +kernel
theorem dL_mark_78 : decode cL_mark 78 = .ok (.invokevirtual 19, 3) := by decide +kernel
theorem dL_mark_81 : decode cL_mark 81 = .ok (.if_icmp .ge 40, 3) := by decide +kernel
theorem dL_mark_84 : decode cL_mark 84 = .ok (.iconst 0, 1) := by decide +kernel
theorem dL_mark_85 : decode cL_mark 85 = .ok (.istore 4, 2) := by decide +kernel
theorem dL_mark_87 : decode cL_mark 87 = .ok (.iload 4, 2) := by decide +kernel
theorem dL_mark_89 : decode cL_mark 89 = .ok (.bipush 11, 2) := by decide +kernel
theorem dL_mark_91 : decode cL_mark 91 = .ok (.if_icmp .ge 24, 3) := by decide +kernel
theorem dL_mark_94 : decode cL_mark 94 = .ok (.ldc2_w 11, 3) := by decide +kernel
theorem dL_mark_97 : decode cL_mark 97 = .ok (.lload_n 1, 1) := by decide +kernel
theorem dL_mark_98 : decode cL_mark 98 = .ok (.lmul, 1) := by decide +kernel
theorem dL_mark_99 : decode cL_mark 99 = .ok (.aload_n 0, 1) := by decide +kernel
theorem dL_mark_100 : decode cL_mark 100 = .ok (.iload_n 3, 1) := by decide +kernel
theorem dL_mark_101 : decode cL_mark 101 = .ok (.iload 4, 2) := by decide +kernel
theorem dL_mark_103 : decode cL_mark 103 = .ok (.invokevirtual 22, 3) := by decide +kernel
theorem dL_mark_106 : decode cL_mark 106 = .ok (.i2l, 1) := by decide +kernel
theorem dL_mark_107 : decode cL_mark 107 = .ok (.ladd, 1) := by decide +kernel
theorem dL_mark_108 : decode cL_mark 108 = .ok (.lstore_n 1, 1) := by decide +kernel
theorem dL_mark_109 : decode cL_mark 109 = .ok (.iinc 4 1, 3) := by decide +kernel
theorem dL_mark_112 : decode cL_mark 112 = .ok (.goto (-25), 3) := by decide +kernel
theorem dL_mark_115 : decode cL_mark 115 = .ok (.iinc 3 1, 3) := by decide +kernel
theorem dL_mark_118 : decode cL_mark 118 = .ok (.goto (-43), 3) := by decide +kernel
theorem dL_mark_121 : decode cL_mark 121 = .ok (.lload_n 1, 1) := by decide +kernel
theorem dL_mark_122 : decode cL_mark 122 = .ok (.lreturn, 1) := by decide +kernel
set_option maxRecDepth 20000 in
theorem ggL_fails_L_mark : GoodIn wsL_fails wsL_mark := goodIn_r _ [4, 5, 6, 7, 8, 9, 10, 11, 12, 13, 14, 15, 16, 17, 18, 19, 20, 21, 22, 23, 24, 25, 26, 27, 28, 29, 30, 31, 32, 33, 34, 35, 36, 37, 38, 39, 40, 41, 42, 43, 44, 45, 46, 47, 48, 49, 50, 51, 52, 53, 54, 55, 56, 57, 58, 59, 60, 61, 62, 63, 64, 65, 66, 67, 68, 69, 70, 71, 72, 73, 74, 75, 76, 77, 78, 79, 80, 81, 82, 83, 84, 85, 86, 87, 88, 89, 90, 91, 92, 93, 94, 416, 417, 418, 419, 420, 421, 422, 423, 424, 425, 426, 427, 428, 429, 430, 431, 432, 433, 434, 435, 436, 437, 438, 439, 440, 441, 442, 443, 444, 445, 446, 447, 448, 449, 450] (by decide +kernel) (by decide +kernel)
set_option maxRecDepth 20000 in
theorem gL_fails_L_mark : GoodIn wsL_fails (va_wsS RL 26 yL_mark wsL_mark) := goodIn_app (goodIn_of _ (by decide +kernel)) ggL_fails_L_mark
set_option maxRecDepth 20000 in
theorem ggL_fails_X5_count : GoodIn wsL_fails wsX5_count := goodIn_r _ [51, 52, 53, 12, 54, 55, 56, 16, 57, 29, 24, 58, 59, 60, 61, 62, 63, 64, 31, 32, 33, 34, 30, 35, 36, 37, 38, 20, 21, 22, 23, 65, 66, 67, 68, 69, 70, 71, 72, 416, 417, 418, 419, 420, 421, 422, 423, 424, 445, 446, 447, 448, 449, 450, 425, 426, 427, 428, 429, 430, 431, 432, 433, 434, 435, 436, 437] (by decide +kernel) (by decide +kernel)
set_option maxRecDepth 20000 in
theorem gL_fails_X5_count : GoodIn wsL_fails (wsV RL 19 RX5 yX5_count wsX5_count) := goodIn_app (goodIn_of _ (by decide +kernel)) ggL_fails_X5_count
set_option maxRecDepth 20000 in
theorem ggL_fails_X5_good : GoodIn wsL_fails wsX5_good := goodIn_r _ [98, 99, 100, 101, 102, 10, 103, 12, 104, 105, 106, 16, 107, 81, 82, 43, 30, 58, 59, 83, 84, 108, 60, 18, 29, 24, 109, 110, 111, 112, 113, 114, 115, 116, 117, 118, 119, 120, 121, 122, 123, 124, 125, 126, 127, 128, 129, 130, 131, 132, 133, 134, 135, 89, 90, 136, 137, 138, 139, 140, 141, 142, 143, 52, 144, 145, 146, 147, 148, 416, 417, 418, 419, 420, 421, 422, 423, 424, 425, 426, 427, 428, 429, 430, 431, 432, 433, 434, 435, 436, 437, 438, 439, 440, 441, 442, 443, 444] (by decide +kernel) (by decide +kernel)
set_option maxRecDepth 20000 in
theorem gL_fails_X5_good : GoodIn wsL_fails (wsV RL 32 RX5 yX5_good wsX5_good) := goodIn_app (goodIn_of _ (by decide +kernel)) ggL_fails_X5_good
set_option maxRecDepth 20000 in
theorem ggL_fails_X5_demand : GoodIn wsL_fails wsX5_demand := goodIn_r _ [152, 99, 100, 101, 102, 10, 103, 12, 104, 105, 106, 16, 107, 81, 82, 43, 30, 58, 59, 83, 84, 108, 60, 18, 29, 24, 109, 110, 111, 112, 113, 114, 115, 116, 117, 118, 119, 120, 121, 122, 123, 124, 125, 126, 127, 128, 129, 130, 131, 153, 154, 155, 156, 85, 86, 87, 88, 157, 158, 89, 90, 39, 40, 41, 42, 136, 137, 138, 139, 140, 141, 142, 143, 52, 144, 145, 146, 147, 148, 416, 417, 418, 419, 420, 421, 422, 423, 424, 425, 426, 427, 428, 429, 430, 431, 432, 433, 434, 435, 436, 437, 438, 439, 440, 441, 442, 443, 444] (by decide +kernel) (by decide +kernel)
set_option maxRecDepth 20000 in
theorem gL_fails_X5_demand : GoodIn wsL_fails (wsV RL 35 RX5 yX5_demand wsX5_demand) := goodIn_app (goodIn_of _ (by decide +kernel)) ggL_fails_X5_demand
set_option maxRecDepth 20000 in
theorem ggL_fails_X5_deliver : GoodIn wsL_fails wsX5_deliver := goodIn_r _ [162, 99, 100, 101, 102, 10, 103, 12, 104, 105, 106, 16, 107, 81, 82, 43, 30, 58, 59, 83, 84, 108, 60, 18, 29, 24, 109, 110, 111, 112, 113, 114, 115, 116, 117, 118, 119, 120, 121, 122, 123, 124, 125, 126, 127, 128, 129, 130, 131, 163, 164, 165, 166, 167, 85, 86, 87, 88, 89, 90, 136, 137, 138, 139, 140, 141, 142, 143, 52, 144, 145, 146, 147, 148, 416, 417, 418, 419, 420, 421, 422, 423, 424, 425, 426, 427, 428, 429, 430, 431, 432, 433, 434, 435, 436, 437, 438, 439, 440, 441, 442, 443, 444] (by decide +kernel) (by decide +kernel)
set_option maxRecDepth 20000 in
theorem gL_fails_X5_deliver : GoodIn wsL_fails (wsV RL 39 RX5 yX5_deliver wsX5_deliver) := goodIn_app (goodIn_of _ (by decide +kernel)) ggL_fails_X5_deliver
set_option maxRecDepth 20000 in
theorem ggL_fails_X5_place : GoodIn wsL_fails wsX5_place := goodIn_r _ [171, 99, 100, 101, 102, 10, 103, 12, 104, 105, 106, 16, 107, 81, 82, 43, 30, 58, 59, 83, 84, 108, 60, 18, 29, 24, 109, 110, 111, 112, 113, 114, 115, 116, 117, 118, 119, 120, 121, 122, 123, 124, 125, 126, 127, 128, 129, 130, 131, 172, 173, 174, 175, 85, 86, 87, 88, 35, 36, 37, 38, 31, 32, 33, 34, 176, 177, 178, 179, 180, 181, 182, 94, 183, 184, 185, 186, 44, 45, 46, 47, 136, 137, 138, 139, 140, 141, 142, 143, 52, 144, 145, 146, 147, 148, 416, 417, 418, 419, 420, 421, 422, 423, 424, 425, 426, 427, 428, 429, 430, 431, 432, 433, 434, 435, 436, 437, 438, 439, 440, 441, 442, 443, 444] (by decide +kernel) (by decide +kernel)
set_option maxRecDepth 20000 in
theorem gL_fails_X5_place : GoodIn wsL_fails (wsV RL 42 RX5 yX5_place wsX5_place) := goodIn_app (goodIn_of _ (by decide +kernel)) ggL_fails_X5_place
set_option maxRecDepth 20000 in
theorem ggL_fails_X5_take : GoodIn wsL_fails wsX5_take := goodIn_r _ [190, 99, 100, 101, 102, 10, 103, 12, 104, 105, 106, 16, 107, 81, 82, 43, 30, 58, 59, 83, 84, 108, 60, 18, 29, 24, 109, 110, 111, 112, 113, 114, 115, 116, 117, 118, 119, 120, 121, 122, 123, 124, 125, 126, 127, 128, 129, 130, 131, 191, 192, 193, 194, 85, 86, 87, 88, 31, 32, 33, 34, 35, 36, 37, 38, 136, 137, 138, 139, 140, 141, 142, 143, 52, 144, 145, 146, 147, 148, 416, 417, 418, 419, 420, 421, 422, 423, 424, 425, 426, 427, 428, 429, 430, 431, 432, 433, 434, 435, 436, 437, 438, 439, 440, 441, 442, 443, 444] (by decide +kernel) (by decide +kernel)
set_option maxRecDepth 20000 in
theorem gL_fails_X5_take : GoodIn wsL_fails (wsV RL 45 RX5 yX5_take wsX5_take) := goodIn_app (goodIn_of _ (by decide +kernel)) ggL_fails_X5_take
set_option maxRecDepth 20000 in
theorem ggL_fails_X5_goodOf : GoodIn wsL_fails wsX5_goodOf := goodIn_r _ [76, 12, 77, 78, 79, 16, 80, 81, 82, 30, 58, 59, 83, 84, 85, 86, 87, 88, 29, 89, 10, 90, 31, 32, 33, 34, 35, 36, 37, 38, 91, 92, 93, 94, 39, 40, 41, 42, 43, 416, 417, 418, 419, 420, 421, 422, 423, 424, 425, 426, 427, 428, 429, 430, 431, 432, 433, 434, 435, 436, 437] (by decide +kernel) (by decide +kernel)
set_option maxRecDepth 20000 in
theorem gL_fails_X5_goodOf : GoodIn wsL_fails (wsV RL 22 RX5 yX5_goodOf wsX5_goodOf) := goodIn_app (goodIn_of _ (by decide +kernel)) ggL_fails_X5_goodOf
set_option maxRecDepth 20000 in
theorem ggL_fails_X5_slotOf : GoodIn wsL_fails wsX5_slotOf := goodIn_r _ [198, 12, 199, 200, 201, 16, 202, 108, 35, 36, 37, 38, 85, 86, 87, 88, 29, 44, 45, 46, 47, 180, 181, 182, 94, 416, 417, 418, 419, 420, 421, 422, 423, 424, 425, 426, 427, 428, 429, 430, 431, 432, 433, 434, 435, 436, 437] (by decide +kernel) (by decide +kernel)
set_option maxRecDepth 20000 in
theorem gL_fails_X5_slotOf : GoodIn wsL_fails (wsV RL 48 RX5 yX5_slotOf wsX5_slotOf) := goodIn_app (goodIn_of _ (by decide +kernel)) ggL_fails_X5_slotOf
set_option maxRecDepth 20000 in
theorem ggL_fails_X5_nearest : GoodIn wsL_fails wsX5_nearest := goodIn_r _ [206, 12, 207, 208, 209, 16, 210, 108, 85, 86, 87, 88, 29, 176, 177, 178, 179, 81, 180, 181, 37, 182, 94, 44, 45, 46, 47, 416, 417, 418, 419, 420, 421, 422, 423, 424, 425, 426, 427, 428, 429, 430, 431, 432, 433, 434, 435, 436, 437] (by decide +kernel) (by decide +kernel)
set_option maxRecDepth 20000 in
theorem gL_fails_X5_nearest : GoodIn wsL_fails (wsV RL 51 RX5 yX5_nearest wsX5_nearest) := goodIn_app (goodIn_of _ (by decide +kernel)) ggL_fails_X5_nearest
set_option maxRecDepth 20000 in
theorem ggL_fails_X5_pick : GoodIn wsL_fails wsX5_pick := goodIn_r _ [214, 99, 100, 101, 102, 10, 103, 12, 104, 105, 106, 16, 107, 81, 82, 43, 30, 58, 59, 83, 84, 108, 60, 18, 29, 24, 109, 110, 111, 112, 113, 114, 115, 116, 117, 118, 119, 120, 121, 122, 123, 124, 125, 126, 127, 128, 129, 130, 131, 215, 216, 217, 218, 85, 86, 87, 88, 89, 90, 31, 32, 33, 34, 35, 36, 37, 38, 219, 220, 221, 222, 223, 224, 225, 226, 227, 228, 229, 230, 44, 45, 46, 47, 136, 137, 138, 139, 140, 141, 142, 143, 52, 144, 145, 146, 147, 148, 416, 417, 418, 419, 420, 421, 422, 423, 424, 425, 426, 427, 428, 429, 430, 431, 432, 433, 434, 435, 436, 437, 438, 439, 440, 441, 442, 443, 444] (by decide +kernel) (by decide +kernel)
set_option maxRecDepth 20000 in
theorem gL_fails_X5_pick : GoodIn wsL_fails (wsV RL 54 RX5 yX5_pick wsX5_pick) := goodIn_app (goodIn_of _ (by decide +kernel)) ggL_fails_X5_pick
set_option maxRecDepth 20000 in
theorem ggL_fails_X5_refill : GoodIn wsL_fails wsX5_refill := goodIn_r _ [234, 99, 100, 101, 102, 10, 103, 12, 104, 105, 106, 16, 107, 81, 82, 43, 30, 58, 59, 83, 84, 108, 60, 18, 29, 24, 109, 110, 111, 112, 113, 114, 115, 116, 117, 118, 119, 120, 121, 122, 123, 124, 125, 126, 127, 128, 129, 130, 131, 235, 236, 237, 238, 85, 86, 87, 88, 31, 32, 33, 34, 35, 36, 37, 38, 219, 220, 221, 222, 223, 224, 225, 226, 227, 228, 229, 230, 44, 45, 46, 47, 136, 137, 138, 139, 140, 141, 142, 143, 52, 144, 145, 146, 147, 148, 416, 417, 418, 419, 420, 421, 422, 423, 424, 425, 426, 427, 428, 429, 430, 431, 432, 433, 434, 435, 436, 437, 438, 439, 440, 441, 442, 443, 444] (by decide +kernel) (by decide +kernel)
set_option maxRecDepth 20000 in
theorem gL_fails_X5_refill : GoodIn wsL_fails (wsV RL 57 RX5 yX5_refill wsX5_refill) := goodIn_app (goodIn_of _ (by decide +kernel)) ggL_fails_X5_refill
set_option maxRecDepth 20000 in
theorem ggL_fails_X5_move : GoodIn wsL_fails wsX5_move := goodIn_r _ [242, 99, 100, 101, 102, 10, 103, 12, 104, 105, 106, 16, 107, 81, 82, 43, 30, 58, 59, 83, 84, 108, 60, 18, 29, 24, 109, 110, 111, 112, 113, 114, 115, 116, 117, 118, 119, 120, 121, 122, 123, 124, 125, 126, 127, 128, 129, 130, 131, 243, 244, 245, 246, 19, 85, 86, 87, 88, 35, 36, 37, 38, 247, 248, 249, 250, 176, 177, 178, 179, 180, 181, 182, 94, 251, 252, 253, 254, 255, 256, 257, 258, 20, 21, 22, 23, 39, 40, 41, 42, 44, 45, 46, 47, 259, 260, 261, 262, 263, 264, 265, 266, 267, 268, 183, 184, 185, 186, 136, 137, 138, 139, 140, 141, 142, 143, 52, 144, 145, 146, 147, 148, 416, 417, 418, 419, 420, 421, 422, 423, 424, 425, 426, 427, 428, 429, 430, 431, 432, 433, 434, 435, 436, 437, 438, 439, 440, 441, 442, 443, 444] (by decide +kernel) (by decide +kernel)
set_option maxRecDepth 20000 in
theorem gL_fails_X5_move : GoodIn wsL_fails (wsV RL 60 RX5 yX5_move wsX5_move) := goodIn_app (goodIn_of _ (by decide +kernel)) ggL_fails_X5_move
set_option maxRecDepth 20000 in
theorem ggL_fails_X5_exchange : GoodIn wsL_fails wsX5_exchange := goodIn_r _ [272, 99, 100, 101, 102, 10, 103, 12, 104, 105, 106, 16, 107, 81, 82, 43, 30, 58, 59, 83, 84, 108, 60, 18, 29, 24, 109, 110, 111, 112, 113, 114, 115, 116, 117, 118, 119, 120, 121, 122, 123, 124, 125, 126, 127, 128, 129, 130, 131, 273, 274, 275, 276, 19, 85, 86, 87, 88, 31, 32, 33, 34, 35, 36, 37, 38, 247, 248, 249, 250, 176, 177, 178, 179, 180, 181, 182, 94, 251, 252, 253, 254, 255, 256, 257, 258, 20, 21, 22, 23, 39, 40, 41, 42, 44, 45, 46, 47, 259, 260, 261, 262, 263, 264, 265, 266, 267, 268, 183, 184, 185, 186, 136, 137, 138, 139, 140, 141, 142, 143, 52, 144, 145, 146, 147, 148, 416, 417, 418, 419, 420, 421, 422, 423, 424, 425, 426, 427, 428, 429, 430, 431, 432, 433, 434, 435, 436, 437, 438, 439, 440, 441, 442, 443, 444] (by decide +kernel) (by decide +kernel)
set_option maxRecDepth 20000 in
theorem gL_fails_X5_exchange : GoodIn wsL_fails (wsV RL 63 RX5 yX5_exchange wsX5_exchange) := goodIn_app (goodIn_of _ (by decide +kernel)) ggL_fails_X5_exchange
set_option maxRecDepth 20000 in
theorem ggL_fails_X5_worth : GoodIn wsL_fails wsX5_worth := goodIn_r _ [280, 12, 281, 282, 283, 16, 284, 19, 85, 86, 87, 88, 29, 35, 36, 37, 38, 89, 10, 90, 247, 248, 249, 250, 30, 108, 176, 177, 178, 179, 81, 180, 181, 182, 94, 259, 260, 261, 262, 263, 264, 265, 266, 267, 114, 268, 47, 285, 286, 287, 288, 255, 256, 257, 258, 20, 21, 22, 23, 24, 39, 40, 41, 42, 43, 44, 45, 46, 65, 66, 67, 68, 416, 417, 418, 419, 420, 421, 422, 423, 424, 425, 426, 427, 428, 429, 430, 431, 432, 433, 434, 435, 436, 437] (by decide +kernel) (by decide +kernel)
set_option maxRecDepth 20000 in
theorem gL_fails_X5_worth : GoodIn wsL_fails (wsV RL 66 RX5 yX5_worth wsX5_worth) := goodIn_app (goodIn_of _ (by decide +kernel)) ggL_fails_X5_worth
set_option maxRecDepth 20000 in
theorem ggL_fails_X5_best : GoodIn wsL_fails wsX5_best := goodIn_r _ [292, 12, 293, 294, 295, 16, 296, 89, 10, 90, 297, 298, 299, 300, 29, 247, 248, 249, 250, 30, 108, 35, 36, 37, 38, 176, 177, 178, 179, 81, 180, 181, 182, 94, 85, 86, 87, 88, 285, 286, 287, 288, 255, 256, 257, 258, 20, 21, 22, 23, 24, 39, 40, 41, 42, 43, 44, 45, 46, 47, 65, 66, 67, 68, 259, 260, 261, 262, 263, 264, 265, 266, 267, 114, 268, 416, 417, 418, 419, 420, 421, 422, 423, 424, 425, 426, 427, 428, 429, 430, 431, 432, 433, 434, 435, 436, 437] (by decide +kernel) (by decide +kernel)
set_option maxRecDepth 20000 in
theorem gL_fails_X5_best : GoodIn wsL_fails (wsV RL 69 RX5 yX5_best wsX5_best) := goodIn_app (goodIn_of _ (by decide +kernel)) ggL_fails_X5_best
set_option maxRecDepth 20000 in
theorem ggL_fails_X5_improve : GoodIn wsL_fails wsX5_improve := goodIn_r _ [304, 99, 100, 101, 102, 10, 103, 12, 104, 105, 106, 16, 107, 81, 82, 43, 30, 58, 59, 83, 84, 108, 60, 18, 29, 24, 109, 110, 111, 112, 113, 114, 115, 116, 117, 118, 119, 120, 121, 122, 123, 124, 125, 126, 127, 128, 129, 130, 131, 305, 306, 307, 308, 89, 90, 297, 298, 299, 300, 247, 248, 249, 250, 35, 36, 37, 38, 176, 177, 178, 179, 180, 181, 182, 94, 85, 86, 87, 88, 285, 286, 287, 288, 255, 256, 257, 258, 20, 21, 22, 23, 39, 40, 41, 42, 44, 45, 46, 47, 65, 66, 67, 68, 259, 260, 261, 262, 263, 264, 265, 266, 267, 268, 251, 252, 253, 254, 183, 184, 185, 186, 136, 137, 138, 139, 140, 141, 142, 143, 52, 144, 145, 146, 147, 148, 416, 417, 418, 419, 420, 421, 422, 423, 424, 425, 426, 427, 428, 429, 430, 431, 432, 433, 434, 435, 436, 437, 438, 439, 440, 441, 442, 443, 444] (by decide +kernel) (by decide +kernel)
set_option maxRecDepth 20000 in
theorem gL_fails_X5_improve : GoodIn wsL_fails (wsV RL 72 RX5 yX5_improve wsX5_improve) := goodIn_app (goodIn_of _ (by decide +kernel)) ggL_fails_X5_improve
set_option maxRecDepth 20000 in
theorem ggL_fails_X5_weekly : GoodIn wsL_fails wsX5_weekly := goodIn_r _ [312, 12, 313, 157, 10, 158, 314, 26, 27, 16, 28, 29, 30, 31, 32, 33, 34, 35, 36, 37, 38, 39, 40, 41, 42, 43, 44, 45, 46, 47, 416, 417, 418, 419, 420, 421, 422, 423, 424, 425, 426, 427, 428, 429, 430, 431, 432, 433, 434, 435, 436, 437] (by decide +kernel) (by decide +kernel)
set_option maxRecDepth 20000 in
theorem gL_fails_X5_weekly : GoodIn wsL_fails (wsV RL 75 RX5 yX5_weekly wsX5_weekly) := goodIn_app (goodIn_of _ (by decide +kernel)) ggL_fails_X5_weekly
set_option maxRecDepth 20000 in
theorem ggL_fails_X5_atBest : GoodIn wsL_fails wsX5_atBest := goodIn_r _ [318, 12, 319, 320, 313, 157, 10, 158, 321, 322, 323, 16, 324, 29, 30, 31, 32, 33, 34, 35, 36, 37, 38, 39, 40, 41, 42, 43, 325, 326, 327, 328, 329, 330, 331, 44, 45, 46, 47, 332, 333, 334, 335, 416, 417, 418, 419, 420, 421, 422, 423, 424, 451, 452, 425, 426, 427, 428, 429, 430, 431, 432, 433, 434, 435, 436, 437] (by decide +kernel) (by decide +kernel)
set_option maxRecDepth 20000 in
theorem gL_fails_X5_atBest : GoodIn wsL_fails (wsV RL 78 RX5 yX5_atBest wsX5_atBest) := goodIn_app (goodIn_of _ (by decide +kernel)) ggL_fails_X5_atBest
set_option maxRecDepth 20000 in
theorem ggL_fails_X5_account : GoodIn wsL_fails wsX5_account := goodIn_r _ [11, 12, 13, 14, 15, 16, 17, 18, 19, 20, 21, 22, 23, 24, 25, 26, 27, 28, 29, 30, 31, 32, 33, 34, 35, 36, 37, 38, 39, 40, 41, 42, 43, 44, 45, 46, 47, 416, 417, 418, 419, 420, 421, 422, 423, 424, 425, 426, 427, 428, 429, 430, 431, 432, 433, 434, 435, 436, 437, 438, 439, 440, 441, 442, 443, 444] (by decide +kernel) (by decide +kernel)
set_option maxRecDepth 20000 in
theorem gL_fails_X5_account : GoodIn wsL_fails (wsV RL 13 RX5 yX5_account wsX5_account) := goodIn_app (goodIn_of _ (by decide +kernel)) ggL_fails_X5_account
set_option maxRecDepth 20000 in
theorem ggL_fails_X5_set : GoodIn wsL_fails wsX5_set := goodIn_r _ [339, 99, 100, 101, 102, 10, 103, 12, 104, 105, 106, 16, 107, 81, 82, 43, 30, 58, 59, 83, 84, 108, 60, 18, 29, 24, 109, 110, 111, 112, 113, 114, 115, 116, 117, 118, 119, 120, 121, 122, 123, 124, 125, 126, 127, 128, 129, 130, 131, 340, 341, 342, 343, 344, 345, 89, 90, 136, 137, 138, 139, 140, 141, 142, 143, 52, 144, 145, 146, 147, 148, 416, 417, 418, 419, 420, 421, 422, 423, 424, 425, 426, 427, 428, 429, 430, 431, 432, 433, 434, 435, 436, 437, 438, 439, 440, 441, 442, 443, 444] (by decide +kernel) (by decide +kernel)
set_option maxRecDepth 20000 in
theorem gL_fails_X5_set : GoodIn wsL_fails (wsV RL 81 RX5 yX5_set wsX5_set) := goodIn_app (goodIn_of _ (by decide +kernel)) ggL_fails_X5_set
set_option maxRecDepth 20000 in
theorem ggL_fails_X5_type : GoodIn wsL_fails wsX5_type := goodIn_r _ [349, 53, 350, 351, 352, 353, 354, 355, 356, 89, 10, 90, 416, 417, 418, 419, 420, 421, 422, 423, 424, 445, 446, 447, 448, 449, 450] (by decide +kernel) (by decide +kernel)
set_option maxRecDepth 20000 in
theorem gL_fails_X5_type : GoodIn wsL_fails (wsV RL 84 RX5 yX5_type wsX5_type) := goodIn_app (goodIn_of _ (by decide +kernel)) ggL_fails_X5_type
set_option maxRecDepth 20000 in
theorem ggL_fails_X5_fault : GoodIn wsL_fails wsX5_fault := goodIn_r _ [360, 361, 362, 363, 364, 365, 10, 366, 53, 100, 101, 102, 103, 99, 12, 104, 105, 106, 16, 107, 81, 82, 43, 30, 58, 59, 83, 84, 108, 60, 18, 29, 24, 109, 110, 111, 112, 113, 114, 115, 116, 117, 118, 119, 120, 121, 122, 123, 124, 125, 126, 127, 128, 129, 130, 131, 367, 368, 369, 353, 370, 371, 372, 373, 374, 375, 355, 376, 377, 378, 379, 380, 381, 382, 383, 384, 385, 356, 386, 387, 388, 389, 390, 391, 392, 393, 394, 395, 396, 397, 398, 399, 400, 401, 402, 403, 404, 405, 406, 86, 87, 88, 407, 36, 37, 38, 408, 409, 410, 411, 215, 216, 217, 218, 85, 89, 90, 31, 32, 33, 34, 35, 219, 220, 221, 222, 223, 224, 225, 226, 227, 228, 229, 230, 44, 45, 46, 47, 235, 236, 237, 238, 243, 244, 245, 246, 19, 247, 248, 249, 250, 176, 177, 178, 179, 180, 181, 182, 94, 251, 252, 253, 254, 255, 256, 257, 258, 20, 21, 22, 23, 39, 40, 41, 42, 259, 260, 261, 262, 263, 264, 265, 266, 267, 268, 183, 184, 185, 186, 273, 274, 275, 276, 412, 413, 414, 415, 416, 417, 418, 419, 420, 421, 422, 423, 424, 445, 446, 447, 448, 449, 450, 425, 426, 427, 428, 429, 430, 431, 432, 433, 434, 435, 436, 437, 438, 439, 440, 441, 442, 443, 444] (by decide +kernel) (by decide +kernel)
set_option maxRecDepth 20000 in
theorem gL_fails_X5_fault : GoodIn wsL_fails (wsV RL 87 RX5 yX5_fault wsX5_fault) := goodIn_app (goodIn_of _ (by decide +kernel)) ggL_fails_X5_fault
theorem dL_fails_0 : decode cL_fails 0 = .ok (.aload_n 0, 1) := by decide +kernel
theorem dL_fails_1 : decode cL_fails 1 = .ok (.invokestatic 26, 3) := by decide +kernel
theorem dL_fails_4 : decode cL_fails 4 = .ok (.lstore_n 1, 1) := by decide +kernel
theorem dL_fails_5 : decode cL_fails 5 = .ok (.aload_n 0, 1) := by decide +kernel
theorem dL_fails_6 : decode cL_fails 6 = .ok (.bipush 8, 2) := by decide +kernel
theorem dL_fails_8 : decode cL_fails 8 = .ok (.invokevirtual 19, 3) := by decide +kernel
theorem dL_fails_11 : decode cL_fails 11 = .ok (.istore_n 3, 1) := by decide +kernel
theorem dL_fails_12 : decode cL_fails 12 = .ok (.aload_n 0, 1) := by decide +kernel
theorem dL_fails_13 : decode cL_fails 13 = .ok (.iconst 0, 1) := by decide +kernel
theorem dL_fails_14 : decode cL_fails 14 = .ok (.invokevirtual 19, 3) := by decide +kernel
theorem dL_fails_17 : decode cL_fails 17 = .ok (.istore 4, 2) := by decide +kernel
theorem dL_fails_19 : decode cL_fails 19 = .ok (.aload_n 0, 1) := by decide +kernel
theorem dL_fails_20 : decode cL_fails 20 = .ok (.iconst 0, 1) := by decide +kernel
theorem dL_fails_21 : decode cL_fails 21 = .ok (.iconst 1, 1) := by decide +kernel
theorem dL_fails_22 : decode cL_fails 22 = .ok (.invokevirtual 32, 3) := by decide +kernel
theorem dL_fails_25 : decode cL_fails 25 = .ok (.iconst (-1), 1) := by decide +kernel
theorem dL_fails_26 : decode cL_fails 26 = .ok (.if_icmp .ne 152, 3) := by decide +kernel
theorem dL_fails_29 : decode cL_fails 29 = .ok (.aload_n 0, 1) := by decide +kernel
theorem dL_fails_30 : decode cL_fails 30 = .ok (.bipush 41, 2) := by decide +kernel
theorem dL_fails_32 : decode cL_fails 32 = .ok (.iconst 1, 1) := by decide +kernel
theorem dL_fails_33 : decode cL_fails 33 = .ok (.invokevirtual 32, 3) := by decide +kernel
theorem dL_fails_36 : decode cL_fails 36 = .ok (.iconst (-1), 1) := by decide +kernel
theorem dL_fails_37 : decode cL_fails 37 = .ok (.if_icmp .ne 141, 3) := by decide +kernel
theorem dL_fails_40 : decode cL_fails 40 = .ok (.aload_n 0, 1) := by decide +kernel
theorem dL_fails_41 : decode cL_fails 41 = .ok (.iconst 1, 1) := by decide +kernel
theorem dL_fails_42 : decode cL_fails 42 = .ok (.iconst 0, 1) := by decide +kernel
theorem dL_fails_43 : decode cL_fails 43 = .ok (.invokevirtual 32, 3) := by decide +kernel
theorem dL_fails_46 : decode cL_fails 46 = .ok (.iconst (-1), 1) := by decide +kernel
theorem dL_fails_47 : decode cL_fails 47 = .ok (.if_icmp .ne 131, 3) := by decide +kernel
theorem dL_fails_50 : decode cL_fails 50 = .ok (.aload_n 0, 1) := by decide +kernel
theorem dL_fails_51 : decode cL_fails 51 = .ok (.iconst 1, 1) := by decide +kernel
theorem dL_fails_52 : decode cL_fails 52 = .ok (.sipush 201, 3) := by decide +kernel
theorem dL_fails_55 : decode cL_fails 55 = .ok (.invokevirtual 32, 3) := by decide +kernel
theorem dL_fails_58 : decode cL_fails 58 = .ok (.iconst (-1), 1) := by decide +kernel
theorem dL_fails_59 : decode cL_fails 59 = .ok (.if_icmp .ne 119, 3) := by decide +kernel
theorem dL_fails_62 : decode cL_fails 62 = .ok (.aload_n 0, 1) := by decide +kernel
theorem dL_fails_63 : decode cL_fails 63 = .ok (.iload 4, 2) := by decide +kernel
theorem dL_fails_65 : decode cL_fails 65 = .ok (.iconst 0, 1) := by decide +kernel
theorem dL_fails_66 : decode cL_fails 66 = .ok (.iconst 0, 1) := by decide +kernel
theorem dL_fails_67 : decode cL_fails 67 = .ok (.invokevirtual 35, 3) := by decide +kernel
theorem dL_fails_70 : decode cL_fails 70 = .ok (.iconst (-1), 1) := by decide +kernel
theorem dL_fails_71 : decode cL_fails 71 = .ok (.if_icmp .ne 107, 3) := by decide +kernel
theorem dL_fails_74 : decode cL_fails 74 = .ok (.aload_n 0, 1) := by decide +kernel
theorem dL_fails_75 : decode cL_fails 75 = .ok (.iconst 0, 1) := by decide +kernel
theorem dL_fails_76 : decode cL_fails 76 = .ok (.iconst 4, 1) := by decide +kernel
theorem dL_fails_77 : decode cL_fails 77 = .ok (.iconst 0, 1) := by decide +kernel
theorem dL_fails_78 : decode cL_fails 78 = .ok (.invokevirtual 35, 3) := by decide +kernel
theorem dL_fails_81 : decode cL_fails 81 = .ok (.iconst (-1), 1) := by decide +kernel
theorem dL_fails_82 : decode cL_fails 82 = .ok (.if_icmp .ne 96, 3) := by decide +kernel
theorem dL_fails_85 : decode cL_fails 85 = .ok (.aload_n 0, 1) := by decide +kernel
theorem dL_fails_86 : decode cL_fails 86 = .ok (.iconst 0, 1) := by decide +kernel
theorem dL_fails_87 : decode cL_fails 87 = .ok (.iconst 0, 1) := by decide +kernel
theorem dL_fails_88 : decode cL_fails 88 = .ok (.sipush 1000, 3) := by decide +kernel
theorem dL_fails_91 : decode cL_fails 91 = .ok (.invokevirtual 35, 3) := by decide +kernel
theorem dL_fails_94 : decode cL_fails 94 = .ok (.iconst (-1), 1) := by decide +kernel
theorem dL_fails_95 : decode cL_fails 95 = .ok (.if_icmp .ne 83, 3) := by decide +kernel
theorem dL_fails_98 : decode cL_fails 98 = .ok (.aload_n 0, 1) := by decide +kernel
theorem dL_fails_99 : decode cL_fails 99 = .ok (.iconst 0, 1) := by decide +kernel
theorem dL_fails_100 : decode cL_fails 100 = .ok (.iconst 0, 1) := by decide +kernel
theorem dL_fails_101 : decode cL_fails 101 = .ok (.iconst (-1), 1) := by decide +kernel
theorem dL_fails_102 : decode cL_fails 102 = .ok (.invokevirtual 35, 3) := by decide +kernel
theorem dL_fails_105 : decode cL_fails 105 = .ok (.iconst (-1), 1) := by decide +kernel
theorem dL_fails_106 : decode cL_fails 106 = .ok (.if_icmp .ne 72, 3) := by decide +kernel
theorem dL_fails_109 : decode cL_fails 109 = .ok (.aload_n 0, 1) := by decide +kernel
theorem dL_fails_110 : decode cL_fails 110 = .ok (.iload 4, 2) := by decide +kernel
theorem dL_fails_112 : decode cL_fails 112 = .ok (.iconst 1, 1) := by decide +kernel
theorem dL_fails_113 : decode cL_fails 113 = .ok (.invokevirtual 39, 3) := by decide +kernel
theorem dL_fails_116 : decode cL_fails 116 = .ok (.iconst (-1), 1) := by decide +kernel
theorem dL_fails_117 : decode cL_fails 117 = .ok (.if_icmp .ne 61, 3) := by decide +kernel
theorem dL_fails_120 : decode cL_fails 120 = .ok (.aload_n 0, 1) := by decide +kernel
theorem dL_fails_121 : decode cL_fails 121 = .ok (.iconst 0, 1) := by decide +kernel
theorem dL_fails_122 : decode cL_fails 122 = .ok (.iconst 0, 1) := by decide +kernel
theorem dL_fails_123 : decode cL_fails 123 = .ok (.invokevirtual 39, 3) := by decide +kernel
theorem dL_fails_126 : decode cL_fails 126 = .ok (.iconst (-1), 1) := by decide +kernel
theorem dL_fails_127 : decode cL_fails 127 = .ok (.if_icmp .ne 51, 3) := by decide +kernel
theorem dL_fails_130 : decode cL_fails 130 = .ok (.aload_n 0, 1) := by decide +kernel
theorem dL_fails_131 : decode cL_fails 131 = .ok (.iconst 0, 1) := by decide +kernel
theorem dL_fails_132 : decode cL_fails 132 = .ok (.sipush 5001, 3) := by decide +kernel
theorem dL_fails_135 : decode cL_fails 135 = .ok (.invokevirtual 39, 3) := by decide +kernel
theorem dL_fails_138 : decode cL_fails 138 = .ok (.iconst (-1), 1) := by decide +kernel
theorem dL_fails_139 : decode cL_fails 139 = .ok (.if_icmp .ne 39, 3) := by decide +kernel
theorem dL_fails_142 : decode cL_fails 142 = .ok (.aload_n 0, 1) := by decide +kernel
theorem dL_fails_143 : decode cL_fails 143 = .ok (.iload 4, 2) := by decide +kernel
theorem dL_fails_145 : decode cL_fails 145 = .ok (.iconst 0, 1) := by decide +kernel
theorem dL_fails_146 : decode cL_fails 146 = .ok (.invokevirtual 42, 3) := by decide +kernel
theorem dL_fails_149 : decode cL_fails 149 = .ok (.iconst (-1), 1) := by decide +kernel
theorem dL_fails_150 : decode cL_fails 150 = .ok (.if_icmp .ne 28, 3) := by decide +kernel
theorem dL_fails_153 : decode cL_fails 153 = .ok (.aload_n 0, 1) := by decide +kernel
theorem dL_fails_154 : decode cL_fails 154 = .ok (.iconst 0, 1) := by decide +kernel
theorem dL_fails_155 : decode cL_fails 155 = .ok (.bipush 60, 2) := by decide +kernel
theorem dL_fails_157 : decode cL_fails 157 = .ok (.invokevirtual 42, 3) := by decide +kernel
theorem dL_fails_160 : decode cL_fails 160 = .ok (.iconst (-1), 1) := by decide +kernel
theorem dL_fails_161 : decode cL_fails 161 = .ok (.if_icmp .ne 17, 3) := by decide +kernel
theorem dL_fails_164 : decode cL_fails 164 = .ok (.aload_n 0, 1) := by decide +kernel
theorem dL_fails_165 : decode cL_fails 165 = .ok (.iload 4, 2) := by decide +kernel
theorem dL_fails_167 : decode cL_fails 167 = .ok (.invokevirtual 45, 3) := by decide +kernel
theorem dL_fails_170 : decode cL_fails 170 = .ok (.iconst (-1), 1) := by decide +kernel
theorem dL_fails_171 : decode cL_fails 171 = .ok (.if_icmp .ne 7, 3) := by decide +kernel
theorem dL_fails_174 : decode cL_fails 174 = .ok (.iconst 1, 1) := by decide +kernel
theorem dL_fails_175 : decode cL_fails 175 = .ok (.goto 4, 3) := by decide +kernel
theorem dL_fails_178 : decode cL_fails 178 = .ok (.iconst 0, 1) := by decide +kernel
theorem dL_fails_179 : decode cL_fails 179 = .ok (.istore 5, 2) := by decide +kernel
theorem dL_fails_181 : decode cL_fails 181 = .ok (.iload 5, 2) := by decide +kernel
theorem dL_fails_183 : decode cL_fails 183 = .ok (.ifCond .eq 179, 3) := by decide +kernel
theorem dL_fails_186 : decode cL_fails 186 = .ok (.aload_n 0, 1) := by decide +kernel
theorem dL_fails_187 : decode cL_fails 187 = .ok (.iload 4, 2) := by decide +kernel
theorem dL_fails_189 : decode cL_fails 189 = .ok (.iconst 0, 1) := by decide +kernel
theorem dL_fails_190 : decode cL_fails 190 = .ok (.invokevirtual 22, 3) := by decide +kernel
theorem dL_fails_193 : decode cL_fails 193 = .ok (.iconst (-1), 1) := by decide +kernel
theorem dL_fails_194 : decode cL_fails 194 = .ok (.if_icmp .ne 168, 3) := by decide +kernel
theorem dL_fails_197 : decode cL_fails 197 = .ok (.aload_n 0, 1) := by decide +kernel
theorem dL_fails_198 : decode cL_fails 198 = .ok (.iconst 0, 1) := by decide +kernel
theorem dL_fails_199 : decode cL_fails 199 = .ok (.bipush 12, 2) := by decide +kernel
theorem dL_fails_201 : decode cL_fails 201 = .ok (.invokevirtual 22, 3) := by decide +kernel
theorem dL_fails_204 : decode cL_fails 204 = .ok (.iconst (-1), 1) := by decide +kernel
theorem dL_fails_205 : decode cL_fails 205 = .ok (.if_icmp .ne 157, 3) := by decide +kernel
theorem dL_fails_208 : decode cL_fails 208 = .ok (.aload_n 0, 1) := by decide +kernel
theorem dL_fails_209 : decode cL_fails 209 = .ok (.bipush 60, 2) := by decide +kernel
theorem dL_fails_211 : decode cL_fails 211 = .ok (.iconst 0, 1) := by decide +kernel
theorem dL_fails_212 : decode cL_fails 212 = .ok (.invokevirtual 48, 3) := by decide +kernel
theorem dL_fails_215 : decode cL_fails 215 = .ok (.iconst (-1), 1) := by decide +kernel
theorem dL_fails_216 : decode cL_fails 216 = .ok (.if_icmp .ne 146, 3) := by decide +kernel
theorem dL_fails_219 : decode cL_fails 219 = .ok (.aload_n 0, 1) := by decide +kernel
theorem dL_fails_220 : decode cL_fails 220 = .ok (.iconst 0, 1) := by decide +kernel
theorem dL_fails_221 : decode cL_fails 221 = .ok (.iconst 3, 1) := by decide +kernel
theorem dL_fails_222 : decode cL_fails 222 = .ok (.invokevirtual 48, 3) := by decide +kernel
theorem dL_fails_225 : decode cL_fails 225 = .ok (.iconst (-1), 1) := by decide +kernel
theorem dL_fails_226 : decode cL_fails 226 = .ok (.if_icmp .ne 136, 3) := by decide +kernel
theorem dL_fails_229 : decode cL_fails 229 = .ok (.aload_n 0, 1) := by decide +kernel
theorem dL_fails_230 : decode cL_fails 230 = .ok (.iload 4, 2) := by decide +kernel
theorem dL_fails_232 : decode cL_fails 232 = .ok (.invokevirtual 51, 3) := by decide +kernel
theorem dL_fails_235 : decode cL_fails 235 = .ok (.iconst (-1), 1) := by decide +kernel
theorem dL_fails_236 : decode cL_fails 236 = .ok (.if_icmp .ne 126, 3) := by decide +kernel
theorem dL_fails_239 : decode cL_fails 239 = .ok (.aload_n 0, 1) := by decide +kernel
theorem dL_fails_240 : decode cL_fails 240 = .ok (.iload 4, 2) := by decide +kernel
theorem dL_fails_242 : decode cL_fails 242 = .ok (.iconst 1, 1) := by decide +kernel
theorem dL_fails_243 : decode cL_fails 243 = .ok (.invokevirtual 54, 3) := by decide +kernel
theorem dL_fails_246 : decode cL_fails 246 = .ok (.iconst (-1), 1) := by decide +kernel
theorem dL_fails_247 : decode cL_fails 247 = .ok (.if_icmp .ne 115, 3) := by decide +kernel
theorem dL_fails_250 : decode cL_fails 250 = .ok (.aload_n 0, 1) := by decide +kernel
theorem dL_fails_251 : decode cL_fails 251 = .ok (.iconst 0, 1) := by decide +kernel
theorem dL_fails_252 : decode cL_fails 252 = .ok (.iconst 0, 1) := by decide +kernel
theorem dL_fails_253 : decode cL_fails 253 = .ok (.invokevirtual 54, 3) := by decide +kernel
theorem dL_fails_256 : decode cL_fails 256 = .ok (.iconst (-1), 1) := by decide +kernel
theorem dL_fails_257 : decode cL_fails 257 = .ok (.if_icmp .ne 105, 3) := by decide +kernel
theorem dL_fails_260 : decode cL_fails 260 = .ok (.aload_n 0, 1) := by decide +kernel
theorem dL_fails_261 : decode cL_fails 261 = .ok (.iconst 0, 1) := by decide +kernel
theorem dL_fails_262 : decode cL_fails 262 = .ok (.sipush 201, 3) := by decide +kernel
theorem dL_fails_265 : decode cL_fails 265 = .ok (.invokevirtual 54, 3) := by decide +kernel
theorem dL_fails_268 : decode cL_fails 268 = .ok (.iconst (-1), 1) := by decide +kernel
theorem dL_fails_269 : decode cL_fails 269 = .ok (.if_icmp .ne 93, 3) := by decide +kernel
theorem dL_fails_272 : decode cL_fails 272 = .ok (.aload_n 0, 1) := by decide +kernel
theorem dL_fails_273 : decode cL_fails 273 = .ok (.iconst (-1), 1) := by decide +kernel
theorem dL_fails_274 : decode cL_fails 274 = .ok (.invokevirtual 57, 3) := by decide +kernel
theorem dL_fails_277 : decode cL_fails 277 = .ok (.iconst (-1), 1) := by decide +kernel
theorem dL_fails_278 : decode cL_fails 278 = .ok (.if_icmp .ne 84, 3) := by decide +kernel
theorem dL_fails_281 : decode cL_fails 281 = .ok (.aload_n 0, 1) := by decide +kernel
theorem dL_fails_282 : decode cL_fails 282 = .ok (.iload 4, 2) := by decide +kernel
theorem dL_fails_284 : decode cL_fails 284 = .ok (.iconst 0, 1) := by decide +kernel
theorem dL_fails_285 : decode cL_fails 285 = .ok (.invokevirtual 60, 3) := by decide +kernel
theorem dL_fails_288 : decode cL_fails 288 = .ok (.iconst (-1), 1) := by decide +kernel
theorem dL_fails_289 : decode cL_fails 289 = .ok (.if_icmp .ne 73, 3) := by decide +kernel
theorem dL_fails_292 : decode cL_fails 292 = .ok (.aload_n 0, 1) := by decide +kernel
theorem dL_fails_293 : decode cL_fails 293 = .ok (.iconst 0, 1) := by decide +kernel
theorem dL_fails_294 : decode cL_fails 294 = .ok (.iconst (-1), 1) := by decide +kernel
theorem dL_fails_295 : decode cL_fails 295 = .ok (.invokevirtual 60, 3) := by decide +kernel
theorem dL_fails_298 : decode cL_fails 298 = .ok (.iconst (-1), 1) := by decide +kernel
theorem dL_fails_299 : decode cL_fails 299 = .ok (.if_icmp .ne 63, 3) := by decide +kernel
theorem dL_fails_302 : decode cL_fails 302 = .ok (.aload_n 0, 1) := by decide +kernel
theorem dL_fails_303 : decode cL_fails 303 = .ok (.iload 4, 2) := by decide +kernel
theorem dL_fails_305 : decode cL_fails 305 = .ok (.iconst 0, 1) := by decide +kernel
theorem dL_fails_306 : decode cL_fails 306 = .ok (.invokevirtual 63, 3) := by decide +kernel
theorem dL_fails_309 : decode cL_fails 309 = .ok (.iconst (-1), 1) := by decide +kernel
theorem dL_fails_310 : decode cL_fails 310 = .ok (.if_icmp .ne 52, 3) := by decide +kernel
theorem dL_fails_313 : decode cL_fails 313 = .ok (.aload_n 0, 1) := by decide +kernel
theorem dL_fails_314 : decode cL_fails 314 = .ok (.iconst 0, 1) := by decide +kernel
theorem dL_fails_315 : decode cL_fails 315 = .ok (.iconst 0, 1) := by decide +kernel
theorem dL_fails_316 : decode cL_fails 316 = .ok (.invokevirtual 63, 3) := by decide +kernel
theorem dL_fails_319 : decode cL_fails 319 = .ok (.iconst (-1), 1) := by decide +kernel
theorem dL_fails_320 : decode cL_fails 320 = .ok (.if_icmp .ne 42, 3) := by decide +kernel
theorem dL_fails_323 : decode cL_fails 323 = .ok (.aload_n 0, 1) := by decide +kernel
theorem dL_fails_324 : decode cL_fails 324 = .ok (.iload 4, 2) := by decide +kernel
theorem dL_fails_326 : decode cL_fails 326 = .ok (.iconst 0, 1) := by decide +kernel
theorem dL_fails_327 : decode cL_fails 327 = .ok (.iconst 0, 1) := by decide +kernel
theorem dL_fails_328 : decode cL_fails 328 = .ok (.invokevirtual 66, 3) := by decide +kernel
theorem dL_fails_331 : decode cL_fails 331 = .ok (.iconst (-1), 1) := by decide +kernel
theorem dL_fails_332 : decode cL_fails 332 = .ok (.if_icmp .ne 30, 3) := by decide +kernel
theorem dL_fails_335 : decode cL_fails 335 = .ok (.aload_n 0, 1) := by decide +kernel
theorem dL_fails_336 : decode cL_fails 336 = .ok (.iconst 0, 1) := by decide +kernel
theorem dL_fails_337 : decode cL_fails 337 = .ok (.iconst 0, 1) := by decide +kernel
theorem dL_fails_338 : decode cL_fails 338 = .ok (.iconst 3, 1) := by decide +kernel
theorem dL_fails_339 : decode cL_fails 339 = .ok (.invokevirtual 66, 3) := by decide +kernel
theorem dL_fails_342 : decode cL_fails 342 = .ok (.iconst (-1), 1) := by decide +kernel
theorem dL_fails_343 : decode cL_fails 343 = .ok (.if_icmp .ne 19, 3) := by decide +kernel
theorem dL_fails_346 : decode cL_fails 346 = .ok (.aload_n 0, 1) := by decide +kernel
theorem dL_fails_347 : decode cL_fails 347 = .ok (.iconst 0, 1) := by decide +kernel
theorem dL_fails_348 : decode cL_fails 348 = .ok (.bipush 60, 2) := by decide +kernel
theorem dL_fails_350 : decode cL_fails 350 = .ok (.iconst 0, 1) := by decide +kernel
theorem dL_fails_351 : decode cL_fails 351 = .ok (.invokevirtual 66, 3) := by decide +kernel
theorem dL_fails_354 : decode cL_fails 354 = .ok (.iconst (-1), 1) := by decide +kernel
theorem dL_fails_355 : decode cL_fails 355 = .ok (.if_icmp .ne 7, 3) := by decide +kernel
theorem dL_fails_358 : decode cL_fails 358 = .ok (.iconst 1, 1) := by decide +kernel
theorem dL_fails_359 : decode cL_fails 359 = .ok (.goto 4, 3) := by decide +kernel
theorem dL_fails_362 : decode cL_fails 362 = .ok (.iconst 0, 1) := by decide +kernel
theorem dL_fails_363 : decode cL_fails 363 = .ok (.istore 5, 2) := by decide +kernel
theorem dL_fails_365 : decode cL_fails 365 = .ok (.iload 5, 2) := by decide +kernel
theorem dL_fails_367 : decode cL_fails 367 = .ok (.ifCond .eq 163, 3) := by decide +kernel
theorem dL_fails_370 : decode cL_fails 370 = .ok (.aload_n 0, 1) := by decide +kernel
theorem dL_fails_371 : decode cL_fails 371 = .ok (.iconst 3, 1) := by decide +kernel
theorem dL_fails_372 : decode cL_fails 372 = .ok (.invokevirtual 69, 3) := by decide +kernel
theorem dL_fails_375 : decode cL_fails 375 = .ok (.iconst (-1), 1) := by decide +kernel
theorem dL_fails_376 : decode cL_fails 376 = .ok (.if_icmp .ne 154, 3) := by decide +kernel
theorem dL_fails_379 : decode cL_fails 379 = .ok (.aload_n 0, 1) := by decide +kernel
theorem dL_fails_380 : decode cL_fails 380 = .ok (.iconst (-1), 1) := by decide +kernel
theorem dL_fails_381 : decode cL_fails 381 = .ok (.invokevirtual 69, 3) := by decide +kernel
theorem dL_fails_384 : decode cL_fails 384 = .ok (.iconst (-1), 1) := by decide +kernel
theorem dL_fails_385 : decode cL_fails 385 = .ok (.if_icmp .ne 145, 3) := by decide +kernel
theorem dL_fails_388 : decode cL_fails 388 = .ok (.aload_n 0, 1) := by decide +kernel
theorem dL_fails_389 : decode cL_fails 389 = .ok (.iconst 0, 1) := by decide +kernel
theorem dL_fails_390 : decode cL_fails 390 = .ok (.invokevirtual 72, 3) := by decide +kernel
theorem dL_fails_393 : decode cL_fails 393 = .ok (.iconst (-1), 1) := by decide +kernel
theorem dL_fails_394 : decode cL_fails 394 = .ok (.if_icmp .ne 136, 3) := by decide +kernel
theorem dL_fails_397 : decode cL_fails 397 = .ok (.aload_n 0, 1) := by decide +kernel
theorem dL_fails_398 : decode cL_fails 398 = .ok (.bipush 11, 2) := by decide +kernel
theorem dL_fails_400 : decode cL_fails 400 = .ok (.invokevirtual 72, 3) := by decide +kernel
theorem dL_fails_403 : decode cL_fails 403 = .ok (.iconst (-1), 1) := by decide +kernel
theorem dL_fails_404 : decode cL_fails 404 = .ok (.if_icmp .ne 126, 3) := by decide +kernel
theorem dL_fails_407 : decode cL_fails 407 = .ok (.aload_n 0, 1) := by decide +kernel
theorem dL_fails_408 : decode cL_fails 408 = .ok (.iconst 4, 1) := by decide +kernel
theorem dL_fails_409 : decode cL_fails 409 = .ok (.invokevirtual 75, 3) := by decide +kernel
theorem dL_fails_412 : decode cL_fails 412 = .ok (.iconst (-1), 1) := by decide +kernel
theorem dL_fails_413 : decode cL_fails 413 = .ok (.if_icmp .ne 117, 3) := by decide +kernel
theorem dL_fails_416 : decode cL_fails 416 = .ok (.aload_n 0, 1) := by decide +kernel
theorem dL_fails_417 : decode cL_fails 417 = .ok (.iconst (-1), 1) := by decide +kernel
theorem dL_fails_418 : decode cL_fails 418 = .ok (.invokevirtual 78, 3) := by decide +kernel
theorem dL_fails_421 : decode cL_fails 421 = .ok (.iconst (-1), 1) := by decide +kernel
theorem dL_fails_422 : decode cL_fails 422 = .ok (.if_icmp .ne 108, 3) := by decide +kernel
theorem dL_fails_425 : decode cL_fails 425 = .ok (.aload_n 0, 1) := by decide +kernel
theorem dL_fails_426 : decode cL_fails 426 = .ok (.bipush 8, 2) := by decide +kernel
theorem dL_fails_428 : decode cL_fails 428 = .ok (.invokevirtual 13, 3) := by decide +kernel
theorem dL_fails_431 : decode cL_fails 431 = .ok (.iconst (-1), 1) := by decide +kernel
theorem dL_fails_432 : decode cL_fails 432 = .ok (.if_icmp .ne 98, 3) := by decide +kernel
theorem dL_fails_435 : decode cL_fails 435 = .ok (.aload_n 0, 1) := by decide +kernel
theorem dL_fails_436 : decode cL_fails 436 = .ok (.bipush 10, 2) := by decide +kernel
theorem dL_fails_438 : decode cL_fails 438 = .ok (.invokevirtual 19, 3) := by decide +kernel
theorem dL_fails_441 : decode cL_fails 441 = .ok (.iconst (-1), 1) := by decide +kernel
theorem dL_fails_442 : decode cL_fails 442 = .ok (.if_icmp .ne 88, 3) := by decide +kernel
theorem dL_fails_445 : decode cL_fails 445 = .ok (.aload_n 0, 1) := by decide +kernel
theorem dL_fails_446 : decode cL_fails 446 = .ok (.bipush 23, 2) := by decide +kernel
theorem dL_fails_448 : decode cL_fails 448 = .ok (.invokevirtual 19, 3) := by decide +kernel
theorem dL_fails_451 : decode cL_fails 451 = .ok (.iconst (-1), 1) := by decide +kernel
theorem dL_fails_452 : decode cL_fails 452 = .ok (.if_icmp .ne 78, 3) := by decide +kernel
theorem dL_fails_455 : decode cL_fails 455 = .ok (.aload_n 0, 1) := by decide +kernel
theorem dL_fails_456 : decode cL_fails 456 = .ok (.iconst 3, 1) := by decide +kernel
theorem dL_fails_457 : decode cL_fails 457 = .ok (.iconst 0, 1) := by decide +kernel
theorem dL_fails_458 : decode cL_fails 458 = .ok (.invokevirtual 81, 3) := by decide +kernel
theorem dL_fails_461 : decode cL_fails 461 = .ok (.iconst (-1), 1) := by decide +kernel
theorem dL_fails_462 : decode cL_fails 462 = .ok (.if_icmp .ne 68, 3) := by decide +kernel
theorem dL_fails_465 : decode cL_fails 465 = .ok (.aload_n 0, 1) := by decide +kernel
theorem dL_fails_466 : decode cL_fails 466 = .ok (.iconst 0, 1) := by decide +kernel
theorem dL_fails_467 : decode cL_fails 467 = .ok (.sipush 201, 3) := by decide +kernel
theorem dL_fails_470 : decode cL_fails 470 = .ok (.invokevirtual 81, 3) := by decide +kernel
theorem dL_fails_473 : decode cL_fails 473 = .ok (.iconst (-1), 1) := by decide +kernel
theorem dL_fails_474 : decode cL_fails 474 = .ok (.if_icmp .ne 56, 3) := by decide +kernel
theorem dL_fails_477 : decode cL_fails 477 = .ok (.aload_n 0, 1) := by decide +kernel
theorem dL_fails_478 : decode cL_fails 478 = .ok (.iconst 1, 1) := by decide +kernel
theorem dL_fails_479 : decode cL_fails 479 = .ok (.iconst 0, 1) := by decide +kernel
theorem dL_fails_480 : decode cL_fails 480 = .ok (.invokevirtual 81, 3) := by decide +kernel
theorem dL_fails_483 : decode cL_fails 483 = .ok (.iconst (-1), 1) := by decide +kernel
theorem dL_fails_484 : decode cL_fails 484 = .ok (.if_icmp .ne 46, 3) := by decide +kernel
theorem dL_fails_487 : decode cL_fails 487 = .ok (.aload_n 0, 1) := by decide +kernel
theorem dL_fails_488 : decode cL_fails 488 = .ok (.iconst 2, 1) := by decide +kernel
theorem dL_fails_489 : decode cL_fails 489 = .ok (.iconst 2, 1) := by decide +kernel
theorem dL_fails_490 : decode cL_fails 490 = .ok (.invokevirtual 81, 3) := by decide +kernel
theorem dL_fails_493 : decode cL_fails 493 = .ok (.iconst (-1), 1) := by decide +kernel
theorem dL_fails_494 : decode cL_fails 494 = .ok (.if_icmp .ne 36, 3) := by decide +kernel
theorem dL_fails_497 : decode cL_fails 497 = .ok (.aload_n 0, 1) := by decide +kernel
theorem dL_fails_498 : decode cL_fails 498 = .ok (.bipush 31, 2) := by decide +kernel
theorem dL_fails_500 : decode cL_fails 500 = .ok (.invokevirtual 84, 3) := by decide +kernel
theorem dL_fails_503 : decode cL_fails 503 = .ok (.iconst (-1), 1) := by decide +kernel
theorem dL_fails_504 : decode cL_fails 504 = .ok (.if_icmp .ne 26, 3) := by decide +kernel
theorem dL_fails_507 : decode cL_fails 507 = .ok (.aload_n 0, 1) := by decide +kernel
theorem dL_fails_508 : decode cL_fails 508 = .ok (.bipush 127, 2) := by decide +kernel
theorem dL_fails_510 : decode cL_fails 510 = .ok (.invokevirtual 84, 3) := by decide +kernel
theorem dL_fails_513 : decode cL_fails 513 = .ok (.iconst (-1), 1) := by decide +kernel
theorem dL_fails_514 : decode cL_fails 514 = .ok (.if_icmp .ne 16, 3) := by decide +kernel
theorem dL_fails_517 : decode cL_fails 517 = .ok (.aload_n 0, 1) := by decide +kernel
theorem dL_fails_518 : decode cL_fails 518 = .ok (.iconst 2, 1) := by decide +kernel
theorem dL_fails_519 : decode cL_fails 519 = .ok (.invokevirtual 87, 3) := by decide +kernel
theorem dL_fails_522 : decode cL_fails 522 = .ok (.iconst (-1), 1) := by decide +kernel
theorem dL_fails_523 : decode cL_fails 523 = .ok (.if_icmp .ne 7, 3) := by decide +kernel
theorem dL_fails_526 : decode cL_fails 526 = .ok (.iconst 1, 1) := by decide +kernel
theorem dL_fails_527 : decode cL_fails 527 = .ok (.goto 4, 3) := by decide +kernel
theorem dL_fails_530 : decode cL_fails 530 = .ok (.iconst 0, 1) := by decide +kernel
theorem dL_fails_531 : decode cL_fails 531 = .ok (.istore 5, 2) := by decide +kernel
theorem dL_fails_533 : decode cL_fails 533 = .ok (.iload 5, 2) := by decide +kernel
theorem dL_fails_535 : decode cL_fails 535 = .ok (.ifCond .eq 26, 3) := by decide +kernel
theorem dL_fails_538 : decode cL_fails 538 = .ok (.aload_n 0, 1) := by decide +kernel
theorem dL_fails_539 : decode cL_fails 539 = .ok (.invokestatic 26, 3) := by decide +kernel
theorem dL_fails_542 : decode cL_fails 542 = .ok (.lload_n 1, 1) := by decide +kernel
theorem dL_fails_543 : decode cL_fails 543 = .ok (.lcmp, 1) := by decide +kernel
theorem dL_fails_544 : decode cL_fails 544 = .ok (.ifCond .ne 17, 3) := by decide +kernel
theorem dL_fails_547 : decode cL_fails 547 = .ok (.aload_n 0, 1) := by decide +kernel
theorem dL_fails_548 : decode cL_fails 548 = .ok (.bipush 8, 2) := by decide +kernel
theorem dL_fails_550 : decode cL_fails 550 = .ok (.invokevirtual 19, 3) := by decide +kernel
theorem dL_fails_553 : decode cL_fails 553 = .ok (.iload_n 3, 1) := by decide +kernel
theorem dL_fails_554 : decode cL_fails 554 = .ok (.if_icmp .ne 7, 3) := by decide +kernel
theorem dL_fails_557 : decode cL_fails 557 = .ok (.iconst 1, 1) := by decide +kernel
theorem dL_fails_558 : decode cL_fails 558 = .ok (.goto 4, 3) := by decide +kernel
theorem dL_fails_561 : decode cL_fails 561 = .ok (.iconst 0, 1) := by decide +kernel
theorem dL_fails_562 : decode cL_fails 562 = .ok (.ireturn, 1) := by decide +kernel
