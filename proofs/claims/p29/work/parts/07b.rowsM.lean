theorem mem_app {big a b : List Cond} (ha : ∀ w ∈ a, w ∈ big) (hb : ∀ w ∈ b, w ∈ big) : ∀ w ∈ a ++ b, w ∈ big := fun w h => (List.mem_append.mp h).elim (ha w) (hb w)
set_option maxRecDepth 20000 in
theorem ggL_sound_X5_count : GoodIn wsL_sound wsX5_count := goodIn_r _ [5, 6, 7, 8, 9, 10, 11, 12, 13, 14, 15, 16, 17, 18, 19, 20, 21, 22, 23, 24, 25, 26, 27, 28, 29, 30, 31, 32, 33, 34, 35, 36, 37, 38, 39, 40, 41, 42, 43, 142, 143, 144, 145, 146, 147, 148, 149, 150, 151, 152, 153, 154, 155, 156, 157, 158, 159, 160, 161, 162, 163, 164, 165, 166, 167, 168, 169] (by decide +kernel) (by decide +kernel)
set_option maxRecDepth 20000 in
theorem gL_sound_X5_count : GoodIn wsL_sound (wsV RL 19 RX5 yX5_count wsX5_count) := goodIn_app (goodIn_of _ (by decide +kernel)) ggL_sound_X5_count
set_option maxRecDepth 20000 in
theorem ggL_sound_X5_goodOf : GoodIn wsL_sound wsX5_goodOf := goodIn_r _ [47, 8, 48, 49, 50, 12, 51, 52, 53, 27, 16, 17, 54, 55, 56, 57, 58, 59, 14, 60, 4, 61, 23, 24, 25, 26, 28, 29, 30, 31, 62, 63, 64, 65, 66, 67, 68, 69, 70, 142, 143, 144, 145, 146, 147, 148, 149, 150, 157, 158, 159, 160, 161, 162, 163, 164, 165, 166, 167, 168, 169] (by decide +kernel) (by decide +kernel)
set_option maxRecDepth 20000 in
theorem gL_sound_X5_goodOf : GoodIn wsL_sound (wsV RL 22 RX5 yX5_goodOf wsX5_goodOf) := goodIn_app (goodIn_of _ (by decide +kernel)) ggL_sound_X5_goodOf
set_option maxRecDepth 20000 in
theorem ggL_sound_X5_slotOf : GoodIn wsL_sound wsX5_slotOf := goodIn_r _ [74, 8, 75, 76, 77, 12, 78, 79, 28, 29, 30, 31, 56, 57, 58, 59, 14, 80, 81, 82, 83, 84, 85, 86, 65, 142, 143, 144, 145, 146, 147, 148, 149, 150, 157, 158, 159, 160, 161, 162, 163, 164, 165, 166, 167, 168, 169] (by decide +kernel) (by decide +kernel)
set_option maxRecDepth 20000 in
theorem gL_sound_X5_slotOf : GoodIn wsL_sound (wsV RL 48 RX5 yX5_slotOf wsX5_slotOf) := goodIn_app (goodIn_of _ (by decide +kernel)) ggL_sound_X5_slotOf
set_option maxRecDepth 20000 in
theorem ggL_sound_X5_nearest : GoodIn wsL_sound wsX5_nearest := goodIn_r _ [90, 8, 91, 92, 93, 12, 94, 79, 56, 57, 58, 59, 14, 95, 96, 97, 98, 52, 84, 85, 30, 86, 65, 80, 81, 82, 83, 142, 143, 144, 145, 146, 147, 148, 149, 150, 157, 158, 159, 160, 161, 162, 163, 164, 165, 166, 167, 168, 169] (by decide +kernel) (by decide +kernel)
set_option maxRecDepth 20000 in
theorem gL_sound_X5_nearest : GoodIn wsL_sound (wsV RL 51 RX5 yX5_nearest wsX5_nearest) := goodIn_app (goodIn_of _ (by decide +kernel)) ggL_sound_X5_nearest
set_option maxRecDepth 20000 in
theorem ggL_sound_X5_atBest : GoodIn wsL_sound wsX5_atBest := goodIn_r _ [102, 8, 103, 104, 105, 106, 4, 107, 108, 109, 110, 12, 111, 14, 27, 23, 24, 25, 26, 28, 29, 30, 31, 66, 67, 68, 69, 70, 112, 113, 114, 115, 116, 117, 118, 80, 81, 82, 83, 119, 120, 121, 122, 142, 143, 144, 145, 146, 147, 148, 149, 150, 170, 171, 157, 158, 159, 160, 161, 162, 163, 164, 165, 166, 167, 168, 169] (by decide +kernel) (by decide +kernel)
set_option maxRecDepth 20000 in
theorem gL_sound_X5_atBest : GoodIn wsL_sound (wsV RL 78 RX5 yX5_atBest wsX5_atBest) := goodIn_app (goodIn_of _ (by decide +kernel)) ggL_sound_X5_atBest
set_option maxRecDepth 20000 in
theorem ggL_sound_X5_weekly : GoodIn wsL_sound wsX5_weekly := goodIn_r _ [126, 8, 105, 106, 4, 107, 127, 128, 129, 12, 130, 14, 27, 23, 24, 25, 26, 28, 29, 30, 31, 66, 67, 68, 69, 70, 80, 81, 82, 83, 142, 143, 144, 145, 146, 147, 148, 149, 150, 157, 158, 159, 160, 161, 162, 163, 164, 165, 166, 167, 168, 169] (by decide +kernel) (by decide +kernel)
set_option maxRecDepth 20000 in
theorem gL_sound_X5_weekly : GoodIn wsL_sound (wsV RL 75 RX5 yX5_weekly wsX5_weekly) := goodIn_app (goodIn_of _ (by decide +kernel)) ggL_sound_X5_weekly
set_option maxRecDepth 20000 in
theorem ggL_sound_X5_account : GoodIn wsL_sound wsX5_account := goodIn_r _ [134, 8, 135, 136, 137, 12, 138, 139, 140, 32, 33, 34, 35, 15, 141, 128, 129, 130, 14, 27, 23, 24, 25, 26, 28, 29, 30, 31, 66, 67, 68, 69, 70, 80, 81, 82, 83, 142, 143, 144, 145, 146, 147, 148, 149, 150, 157, 158, 159, 160, 161, 162, 163, 164, 165, 166, 167, 168, 169, 172, 173, 174, 175, 176, 177, 178] (by decide +kernel) (by decide +kernel)
set_option maxRecDepth 20000 in
theorem gL_sound_X5_account : GoodIn wsL_sound (wsV RL 13 RX5 yX5_account wsX5_account) := goodIn_app (goodIn_of _ (by decide +kernel)) ggL_sound_X5_account
theorem dL_sound_0 : decode cL_sound 0 = .ok (.aload_n 0, 1) := by decide +kernel
theorem dL_sound_1 : decode cL_sound 1 = .ok (.iconst 0, 1) := by decide +kernel
theorem dL_sound_2 : decode cL_sound 2 = .ok (.invokevirtual 19, 3) := by decide +kernel
theorem dL_sound_5 : decode cL_sound 5 = .ok (.istore_n 2, 1) := by decide +kernel
theorem dL_sound_6 : decode cL_sound 6 = .ok (.aload_n 0, 1) := by decide +kernel
theorem dL_sound_7 : decode cL_sound 7 = .ok (.iconst 3, 1) := by decide +kernel
theorem dL_sound_8 : decode cL_sound 8 = .ok (.invokevirtual 19, 3) := by decide +kernel
theorem dL_sound_11 : decode cL_sound 11 = .ok (.istore_n 3, 1) := by decide +kernel
theorem dL_sound_12 : decode cL_sound 12 = .ok (.iconst 0, 1) := by decide +kernel
theorem dL_sound_13 : decode cL_sound 13 = .ok (.istore 4, 2) := by decide +kernel
theorem dL_sound_15 : decode cL_sound 15 = .ok (.iconst 0, 1) := by decide +kernel
theorem dL_sound_16 : decode cL_sound 16 = .ok (.istore 5, 2) := by decide +kernel
theorem dL_sound_18 : decode cL_sound 18 = .ok (.iconst 0, 1) := by decide +kernel
theorem dL_sound_19 : decode cL_sound 19 = .ok (.istore 6, 2) := by decide +kernel
theorem dL_sound_21 : decode cL_sound 21 = .ok (.iconst 0, 1) := by decide +kernel
theorem dL_sound_22 : decode cL_sound 22 = .ok (.istore 7, 2) := by decide +kernel
theorem dL_sound_24 : decode cL_sound 24 = .ok (.iconst 0, 1) := by decide +kernel
theorem dL_sound_25 : decode cL_sound 25 = .ok (.istore 8, 2) := by decide +kernel
theorem dL_sound_27 : decode cL_sound 27 = .ok (.iconst 0, 1) := by decide +kernel
theorem dL_sound_28 : decode cL_sound 28 = .ok (.istore 9, 2) := by decide +kernel
theorem dL_sound_30 : decode cL_sound 30 = .ok (.iload 9, 2) := by decide +kernel
theorem dL_sound_32 : decode cL_sound 32 = .ok (.iload_n 2, 1) := by decide +kernel
theorem dL_sound_33 : decode cL_sound 33 = .ok (.if_icmp .ge 259, 3) := by decide +kernel
theorem dL_sound_36 : decode cL_sound 36 = .ok (.aload_n 0, 1) := by decide +kernel
theorem dL_sound_37 : decode cL_sound 37 = .ok (.iload 9, 2) := by decide +kernel
theorem dL_sound_39 : decode cL_sound 39 = .ok (.bipush 6, 2) := by decide +kernel
theorem dL_sound_41 : decode cL_sound 41 = .ok (.invokevirtual 22, 3) := by decide +kernel
theorem dL_sound_44 : decode cL_sound 44 = .ok (.istore 10, 2) := by decide +kernel
theorem dL_sound_46 : decode cL_sound 46 = .ok (.aload_n 0, 1) := by decide +kernel
theorem dL_sound_47 : decode cL_sound 47 = .ok (.iload 9, 2) := by decide +kernel
theorem dL_sound_49 : decode cL_sound 49 = .ok (.bipush 7, 2) := by decide +kernel
theorem dL_sound_51 : decode cL_sound 51 = .ok (.invokevirtual 22, 3) := by decide +kernel
theorem dL_sound_54 : decode cL_sound 54 = .ok (.istore 11, 2) := by decide +kernel
theorem dL_sound_56 : decode cL_sound 56 = .ok (.iload 5, 2) := by decide +kernel
theorem dL_sound_58 : decode cL_sound 58 = .ok (.iload 11, 2) := by decide +kernel
theorem dL_sound_60 : decode cL_sound 60 = .ok (.iadd, 1) := by decide +kernel
theorem dL_sound_61 : decode cL_sound 61 = .ok (.istore 5, 2) := by decide +kernel
theorem dL_sound_63 : decode cL_sound 63 = .ok (.iload 6, 2) := by decide +kernel
theorem dL_sound_65 : decode cL_sound 65 = .ok (.aload_n 0, 1) := by decide +kernel
theorem dL_sound_66 : decode cL_sound 66 = .ok (.iload 9, 2) := by decide +kernel
theorem dL_sound_68 : decode cL_sound 68 = .ok (.bipush 8, 2) := by decide +kernel
theorem dL_sound_70 : decode cL_sound 70 = .ok (.invokevirtual 22, 3) := by decide +kernel
theorem dL_sound_73 : decode cL_sound 73 = .ok (.iadd, 1) := by decide +kernel
theorem dL_sound_74 : decode cL_sound 74 = .ok (.istore 6, 2) := by decide +kernel
theorem dL_sound_76 : decode cL_sound 76 = .ok (.iload 11, 2) := by decide +kernel
theorem dL_sound_78 : decode cL_sound 78 = .ok (.ifCond .lt 61, 3) := by decide +kernel
theorem dL_sound_81 : decode cL_sound 81 = .ok (.iload 11, 2) := by decide +kernel
theorem dL_sound_83 : decode cL_sound 83 = .ok (.aload_n 0, 1) := by decide +kernel
theorem dL_sound_84 : decode cL_sound 84 = .ok (.iload 9, 2) := by decide +kernel
theorem dL_sound_86 : decode cL_sound 86 = .ok (.iconst 1, 1) := by decide +kernel
theorem dL_sound_87 : decode cL_sound 87 = .ok (.invokevirtual 22, 3) := by decide +kernel
theorem dL_sound_90 : decode cL_sound 90 = .ok (.if_icmp .gt 49, 3) := by decide +kernel
theorem dL_sound_93 : decode cL_sound 93 = .ok (.iload 11, 2) := by decide +kernel
theorem dL_sound_95 : decode cL_sound 95 = .ok (.aload_n 0, 1) := by decide +kernel
theorem dL_sound_96 : decode cL_sound 96 = .ok (.iload 9, 2) := by decide +kernel
theorem dL_sound_98 : decode cL_sound 98 = .ok (.bipush 8, 2) := by decide +kernel
theorem dL_sound_100 : decode cL_sound 100 = .ok (.invokevirtual 22, 3) := by decide +kernel
theorem dL_sound_103 : decode cL_sound 103 = .ok (.iadd, 1) := by decide +kernel
theorem dL_sound_104 : decode cL_sound 104 = .ok (.aload_n 0, 1) := by decide +kernel
theorem dL_sound_105 : decode cL_sound 105 = .ok (.iload 9, 2) := by decide +kernel
theorem dL_sound_107 : decode cL_sound 107 = .ok (.bipush 10, 2) := by decide +kernel
theorem dL_sound_109 : decode cL_sound 109 = .ok (.invokevirtual 22, 3) := by decide +kernel
theorem dL_sound_112 : decode cL_sound 112 = .ok (.iadd, 1) := by decide +kernel
theorem dL_sound_113 : decode cL_sound 113 = .ok (.aload_n 1, 1) := by decide +kernel
theorem dL_sound_114 : decode cL_sound 114 = .ok (.iload 9, 2) := by decide +kernel
theorem dL_sound_116 : decode cL_sound 116 = .ok (.iaload, 1) := by decide +kernel
theorem dL_sound_117 : decode cL_sound 117 = .ok (.if_icmp .ne 22, 3) := by decide +kernel
theorem dL_sound_120 : decode cL_sound 120 = .ok (.aload_n 0, 1) := by decide +kernel
theorem dL_sound_121 : decode cL_sound 121 = .ok (.iload 9, 2) := by decide +kernel
theorem dL_sound_123 : decode cL_sound 123 = .ok (.bipush 10, 2) := by decide +kernel
theorem dL_sound_125 : decode cL_sound 125 = .ok (.invokevirtual 22, 3) := by decide +kernel
theorem dL_sound_128 : decode cL_sound 128 = .ok (.aload_n 0, 1) := by decide +kernel
theorem dL_sound_129 : decode cL_sound 129 = .ok (.iload 9, 2) := by decide +kernel
theorem dL_sound_131 : decode cL_sound 131 = .ok (.bipush 9, 2) := by decide +kernel
theorem dL_sound_133 : decode cL_sound 133 = .ok (.invokevirtual 22, 3) := by decide +kernel
theorem dL_sound_136 : decode cL_sound 136 = .ok (.if_icmp .ge 5, 3) := by decide +kernel
theorem dL_sound_139 : decode cL_sound 139 = .ok (.iconst 0, 1) := by decide +kernel
theorem dL_sound_140 : decode cL_sound 140 = .ok (.ireturn, 1) := by decide +kernel
theorem dL_sound_141 : decode cL_sound 141 = .ok (.iload 10, 2) := by decide +kernel
theorem dL_sound_143 : decode cL_sound 143 = .ok (.bipush (-4), 2) := by decide +kernel
theorem dL_sound_145 : decode cL_sound 145 = .ok (.if_icmp .ne 10, 3) := by decide +kernel
theorem dL_sound_148 : decode cL_sound 148 = .ok (.iload 11, 2) := by decide +kernel
theorem dL_sound_150 : decode cL_sound 150 = .ok (.ifCond .eq 92, 3) := by decide +kernel
theorem dL_sound_153 : decode cL_sound 153 = .ok (.iconst 0, 1) := by decide +kernel
theorem dL_sound_154 : decode cL_sound 154 = .ok (.ireturn, 1) := by decide +kernel
theorem dL_sound_155 : decode cL_sound 155 = .ok (.iinc 4 1, 3) := by decide +kernel
theorem dL_sound_158 : decode cL_sound 158 = .ok (.iload 7, 2) := by decide +kernel
theorem dL_sound_160 : decode cL_sound 160 = .ok (.iload 11, 2) := by decide +kernel
theorem dL_sound_162 : decode cL_sound 162 = .ok (.ifCond .ne 7, 3) := by decide +kernel
theorem dL_sound_165 : decode cL_sound 165 = .ok (.iconst 1, 1) := by decide +kernel
theorem dL_sound_166 : decode cL_sound 166 = .ok (.goto 4, 3) := by decide +kernel
theorem dL_sound_169 : decode cL_sound 169 = .ok (.iconst 0, 1) := by decide +kernel
theorem dL_sound_170 : decode cL_sound 170 = .ok (.iadd, 1) := by decide +kernel
theorem dL_sound_171 : decode cL_sound 171 = .ok (.istore 7, 2) := by decide +kernel
theorem dL_sound_173 : decode cL_sound 173 = .ok (.iload 8, 2) := by decide +kernel
theorem dL_sound_175 : decode cL_sound 175 = .ok (.aload_n 0, 1) := by decide +kernel
theorem dL_sound_176 : decode cL_sound 176 = .ok (.iload 9, 2) := by decide +kernel
theorem dL_sound_178 : decode cL_sound 178 = .ok (.iconst 2, 1) := by decide +kernel
theorem dL_sound_179 : decode cL_sound 179 = .ok (.iload_n 3, 1) := by decide +kernel
theorem dL_sound_180 : decode cL_sound 180 = .ok (.iadd, 1) := by decide +kernel
theorem dL_sound_181 : decode cL_sound 181 = .ok (.invokevirtual 22, 3) := by decide +kernel
theorem dL_sound_184 : decode cL_sound 184 = .ok (.aload_n 0, 1) := by decide +kernel
theorem dL_sound_185 : decode cL_sound 185 = .ok (.iload 10, 2) := by decide +kernel
theorem dL_sound_187 : decode cL_sound 187 = .ok (.iconst 1, 1) := by decide +kernel
theorem dL_sound_188 : decode cL_sound 188 = .ok (.invokevirtual 48, 3) := by decide +kernel
theorem dL_sound_191 : decode cL_sound 191 = .ok (.imul, 1) := by decide +kernel
theorem dL_sound_192 : decode cL_sound 192 = .ok (.iadd, 1) := by decide +kernel
theorem dL_sound_193 : decode cL_sound 193 = .ok (.istore 8, 2) := by decide +kernel
theorem dL_sound_195 : decode cL_sound 195 = .ok (.aload_n 0, 1) := by decide +kernel
theorem dL_sound_196 : decode cL_sound 196 = .ok (.iload 10, 2) := by decide +kernel
theorem dL_sound_198 : decode cL_sound 198 = .ok (.iconst 0, 1) := by decide +kernel
theorem dL_sound_199 : decode cL_sound 199 = .ok (.invokevirtual 48, 3) := by decide +kernel
theorem dL_sound_202 : decode cL_sound 202 = .ok (.iload 9, 2) := by decide +kernel
theorem dL_sound_204 : decode cL_sound 204 = .ok (.if_icmp .ne 36, 3) := by decide +kernel
theorem dL_sound_207 : decode cL_sound 207 = .ok (.aload_n 0, 1) := by decide +kernel
theorem dL_sound_208 : decode cL_sound 208 = .ok (.iload 10, 2) := by decide +kernel
theorem dL_sound_210 : decode cL_sound 210 = .ok (.iconst 2, 1) := by decide +kernel
theorem dL_sound_211 : decode cL_sound 211 = .ok (.invokevirtual 48, 3) := by decide +kernel
theorem dL_sound_214 : decode cL_sound 214 = .ok (.aload_n 0, 1) := by decide +kernel
theorem dL_sound_215 : decode cL_sound 215 = .ok (.iload 9, 2) := by decide +kernel
theorem dL_sound_217 : decode cL_sound 217 = .ok (.iconst 0, 1) := by decide +kernel
theorem dL_sound_218 : decode cL_sound 218 = .ok (.invokevirtual 22, 3) := by decide +kernel
theorem dL_sound_221 : decode cL_sound 221 = .ok (.if_icmp .lt 19, 3) := by decide +kernel
theorem dL_sound_224 : decode cL_sound 224 = .ok (.iload 10, 2) := by decide +kernel
theorem dL_sound_226 : decode cL_sound 226 = .ok (.bipush 6, 2) := by decide +kernel
theorem dL_sound_228 : decode cL_sound 228 = .ok (.irem, 1) := by decide +kernel
theorem dL_sound_229 : decode cL_sound 229 = .ok (.aload_n 0, 1) := by decide +kernel
theorem dL_sound_230 : decode cL_sound 230 = .ok (.iload 9, 2) := by decide +kernel
theorem dL_sound_232 : decode cL_sound 232 = .ok (.bipush 11, 2) := by decide +kernel
theorem dL_sound_234 : decode cL_sound 234 = .ok (.invokevirtual 22, 3) := by decide +kernel
theorem dL_sound_237 : decode cL_sound 237 = .ok (.if_icmp .le 5, 3) := by decide +kernel
theorem dL_sound_240 : decode cL_sound 240 = .ok (.iconst 0, 1) := by decide +kernel
theorem dL_sound_241 : decode cL_sound 241 = .ok (.ireturn, 1) := by decide +kernel
theorem dL_sound_242 : decode cL_sound 242 = .ok (.aload_n 0, 1) := by decide +kernel
theorem dL_sound_243 : decode cL_sound 243 = .ok (.iload 9, 2) := by decide +kernel
theorem dL_sound_245 : decode cL_sound 245 = .ok (.invokevirtual 51, 3) := by decide +kernel
theorem dL_sound_248 : decode cL_sound 248 = .ok (.istore 12, 2) := by decide +kernel
theorem dL_sound_250 : decode cL_sound 250 = .ok (.iload 12, 2) := by decide +kernel
theorem dL_sound_252 : decode cL_sound 252 = .ok (.ifCond .lt 34, 3) := by decide +kernel
theorem dL_sound_255 : decode cL_sound 255 = .ok (.aload_n 0, 1) := by decide +kernel
theorem dL_sound_256 : decode cL_sound 256 = .ok (.iload 12, 2) := by decide +kernel
theorem dL_sound_258 : decode cL_sound 258 = .ok (.iconst 0, 1) := by decide +kernel
theorem dL_sound_259 : decode cL_sound 259 = .ok (.invokevirtual 48, 3) := by decide +kernel
theorem dL_sound_262 : decode cL_sound 262 = .ok (.bipush (-4), 2) := by decide +kernel
theorem dL_sound_264 : decode cL_sound 264 = .ok (.if_icmp .ne 20, 3) := by decide +kernel
theorem dL_sound_267 : decode cL_sound 267 = .ok (.aload_n 0, 1) := by decide +kernel
theorem dL_sound_268 : decode cL_sound 268 = .ok (.iload 12, 2) := by decide +kernel
theorem dL_sound_270 : decode cL_sound 270 = .ok (.iconst 2, 1) := by decide +kernel
theorem dL_sound_271 : decode cL_sound 271 = .ok (.invokevirtual 48, 3) := by decide +kernel
theorem dL_sound_274 : decode cL_sound 274 = .ok (.aload_n 0, 1) := by decide +kernel
theorem dL_sound_275 : decode cL_sound 275 = .ok (.iload 9, 2) := by decide +kernel
theorem dL_sound_277 : decode cL_sound 277 = .ok (.iconst 0, 1) := by decide +kernel
theorem dL_sound_278 : decode cL_sound 278 = .ok (.invokevirtual 22, 3) := by decide +kernel
theorem dL_sound_281 : decode cL_sound 281 = .ok (.if_icmp .ge 5, 3) := by decide +kernel
theorem dL_sound_284 : decode cL_sound 284 = .ok (.iconst 0, 1) := by decide +kernel
theorem dL_sound_285 : decode cL_sound 285 = .ok (.ireturn, 1) := by decide +kernel
theorem dL_sound_286 : decode cL_sound 286 = .ok (.iinc 9 1, 3) := by decide +kernel
theorem dL_sound_289 : decode cL_sound 289 = .ok (.goto (-259), 3) := by decide +kernel
theorem dL_sound_292 : decode cL_sound 292 = .ok (.iconst 0, 1) := by decide +kernel
theorem dL_sound_293 : decode cL_sound 293 = .ok (.istore 9, 2) := by decide +kernel
theorem dL_sound_295 : decode cL_sound 295 = .ok (.iload 9, 2) := by decide +kernel
theorem dL_sound_297 : decode cL_sound 297 = .ok (.iconst 4, 1) := by decide +kernel
theorem dL_sound_298 : decode cL_sound 298 = .ok (.if_icmp .ge 35, 3) := by decide +kernel
theorem dL_sound_301 : decode cL_sound 301 = .ok (.aload_n 0, 1) := by decide +kernel
theorem dL_sound_302 : decode cL_sound 302 = .ok (.iload 9, 2) := by decide +kernel
theorem dL_sound_304 : decode cL_sound 304 = .ok (.invokevirtual 78, 3) := by decide +kernel
theorem dL_sound_307 : decode cL_sound 307 = .ok (.aload_n 0, 1) := by decide +kernel
theorem dL_sound_308 : decode cL_sound 308 = .ok (.iload 9, 2) := by decide +kernel
theorem dL_sound_310 : decode cL_sound 310 = .ok (.invokevirtual 75, 3) := by decide +kernel
theorem dL_sound_313 : decode cL_sound 313 = .ok (.if_icmp .gt 12, 3) := by decide +kernel
theorem dL_sound_316 : decode cL_sound 316 = .ok (.aload_n 0, 1) := by decide +kernel
theorem dL_sound_317 : decode cL_sound 317 = .ok (.iload 9, 2) := by decide +kernel
theorem dL_sound_319 : decode cL_sound 319 = .ok (.invokevirtual 78, 3) := by decide +kernel
theorem dL_sound_322 : decode cL_sound 322 = .ok (.ifCond .ge 5, 3) := by decide +kernel
theorem dL_sound_325 : decode cL_sound 325 = .ok (.iconst 0, 1) := by decide +kernel
theorem dL_sound_326 : decode cL_sound 326 = .ok (.ireturn, 1) := by decide +kernel
theorem dL_sound_327 : decode cL_sound 327 = .ok (.iinc 9 1, 3) := by decide +kernel
theorem dL_sound_330 : decode cL_sound 330 = .ok (.goto (-35), 3) := by decide +kernel
theorem dL_sound_333 : decode cL_sound 333 = .ok (.aload_n 0, 1) := by decide +kernel
theorem dL_sound_334 : decode cL_sound 334 = .ok (.iconst 2, 1) := by decide +kernel
theorem dL_sound_335 : decode cL_sound 335 = .ok (.invokevirtual 19, 3) := by decide +kernel
theorem dL_sound_338 : decode cL_sound 338 = .ok (.istore 9, 2) := by decide +kernel
theorem dL_sound_340 : decode cL_sound 340 = .ok (.aload_n 0, 1) := by decide +kernel
theorem dL_sound_341 : decode cL_sound 341 = .ok (.iconst 1, 1) := by decide +kernel
theorem dL_sound_342 : decode cL_sound 342 = .ok (.invokevirtual 19, 3) := by decide +kernel
theorem dL_sound_345 : decode cL_sound 345 = .ok (.iload 4, 2) := by decide +kernel
theorem dL_sound_347 : decode cL_sound 347 = .ok (.if_icmp .ne 92, 3) := by decide +kernel
theorem dL_sound_350 : decode cL_sound 350 = .ok (.aload_n 0, 1) := by decide +kernel
theorem dL_sound_351 : decode cL_sound 351 = .ok (.iconst 5, 1) := by decide +kernel
theorem dL_sound_352 : decode cL_sound 352 = .ok (.invokevirtual 19, 3) := by decide +kernel
theorem dL_sound_355 : decode cL_sound 355 = .ok (.iload 5, 2) := by decide +kernel
theorem dL_sound_357 : decode cL_sound 357 = .ok (.if_icmp .ne 82, 3) := by decide +kernel
theorem dL_sound_360 : decode cL_sound 360 = .ok (.aload_n 0, 1) := by decide +kernel
theorem dL_sound_361 : decode cL_sound 361 = .ok (.bipush 6, 2) := by decide +kernel
theorem dL_sound_363 : decode cL_sound 363 = .ok (.invokevirtual 19, 3) := by decide +kernel
theorem dL_sound_366 : decode cL_sound 366 = .ok (.iload 6, 2) := by decide +kernel
theorem dL_sound_368 : decode cL_sound 368 = .ok (.if_icmp .ne 71, 3) := by decide +kernel
theorem dL_sound_371 : decode cL_sound 371 = .ok (.aload_n 0, 1) := by decide +kernel
theorem dL_sound_372 : decode cL_sound 372 = .ok (.bipush 7, 2) := by decide +kernel
theorem dL_sound_374 : decode cL_sound 374 = .ok (.invokevirtual 19, 3) := by decide +kernel
theorem dL_sound_377 : decode cL_sound 377 = .ok (.iload 7, 2) := by decide +kernel
theorem dL_sound_379 : decode cL_sound 379 = .ok (.if_icmp .ne 60, 3) := by decide +kernel
theorem dL_sound_382 : decode cL_sound 382 = .ok (.aload_n 0, 1) := by decide +kernel
theorem dL_sound_383 : decode cL_sound 383 = .ok (.iload_n 3, 1) := by decide +kernel
theorem dL_sound_384 : decode cL_sound 384 = .ok (.invokevirtual 75, 3) := by decide +kernel
theorem dL_sound_387 : decode cL_sound 387 = .ok (.iload 8, 2) := by decide +kernel
theorem dL_sound_389 : decode cL_sound 389 = .ok (.if_icmp .ne 50, 3) := by decide +kernel
theorem dL_sound_392 : decode cL_sound 392 = .ok (.aload_n 0, 1) := by decide +kernel
theorem dL_sound_393 : decode cL_sound 393 = .ok (.iconst 5, 1) := by decide +kernel
theorem dL_sound_394 : decode cL_sound 394 = .ok (.invokevirtual 13, 3) := by decide +kernel
theorem dL_sound_397 : decode cL_sound 397 = .ok (.aload_n 0, 1) := by decide +kernel
theorem dL_sound_398 : decode cL_sound 398 = .ok (.iconst 4, 1) := by decide +kernel
theorem dL_sound_399 : decode cL_sound 399 = .ok (.invokevirtual 13, 3) := by decide +kernel
theorem dL_sound_402 : decode cL_sound 402 = .ok (.isub, 1) := by decide +kernel
theorem dL_sound_403 : decode cL_sound 403 = .ok (.iload 8, 2) := by decide +kernel
theorem dL_sound_405 : decode cL_sound 405 = .ok (.if_icmp .ne 34, 3) := by decide +kernel
theorem dL_sound_408 : decode cL_sound 408 = .ok (.iload_n 3, 1) := by decide +kernel
theorem dL_sound_409 : decode cL_sound 409 = .ok (.iload 9, 2) := by decide +kernel
theorem dL_sound_411 : decode cL_sound 411 = .ok (.bipush 13, 2) := by decide +kernel
theorem dL_sound_413 : decode cL_sound 413 = .ok (.idiv, 1) := by decide +kernel
theorem dL_sound_414 : decode cL_sound 414 = .ok (.iconst 4, 1) := by decide +kernel
theorem dL_sound_415 : decode cL_sound 415 = .ok (.irem, 1) := by decide +kernel
theorem dL_sound_416 : decode cL_sound 416 = .ok (.if_icmp .ne 23, 3) := by decide +kernel
theorem dL_sound_419 : decode cL_sound 419 = .ok (.aload_n 0, 1) := by decide +kernel
theorem dL_sound_420 : decode cL_sound 420 = .ok (.iconst 4, 1) := by decide +kernel
theorem dL_sound_421 : decode cL_sound 421 = .ok (.invokevirtual 19, 3) := by decide +kernel
theorem dL_sound_424 : decode cL_sound 424 = .ok (.bipush 13, 2) := by decide +kernel
theorem dL_sound_426 : decode cL_sound 426 = .ok (.iload 9, 2) := by decide +kernel
theorem dL_sound_428 : decode cL_sound 428 = .ok (.bipush 13, 2) := by decide +kernel
theorem dL_sound_430 : decode cL_sound 430 = .ok (.irem, 1) := by decide +kernel
theorem dL_sound_431 : decode cL_sound 431 = .ok (.isub, 1) := by decide +kernel
theorem dL_sound_432 : decode cL_sound 432 = .ok (.if_icmp .ne 7, 3) := by decide +kernel
theorem dL_sound_435 : decode cL_sound 435 = .ok (.iconst 1, 1) := by decide +kernel
theorem dL_sound_436 : decode cL_sound 436 = .ok (.goto 4, 3) := by decide +kernel
theorem dL_sound_439 : decode cL_sound 439 = .ok (.iconst 0, 1) := by decide +kernel
theorem dL_sound_440 : decode cL_sound 440 = .ok (.ireturn, 1) := by decide +kernel
set_option maxRecDepth 20000 in
theorem ggL_worths_X5_count : GoodIn wsL_worths wsX5_count := goodIn_r _ [6, 7, 8, 9, 10, 11, 12, 13, 14, 15, 16, 17, 18, 19, 20, 21, 22, 23, 24, 25, 26, 27, 28, 29, 30, 31, 32, 33, 34, 35, 36, 37, 38, 39, 40, 41, 42, 43, 44, 136, 137, 138, 139, 140, 141, 142, 143, 144, 145, 146, 147, 148, 149, 150, 151, 152, 153, 154, 155, 156, 157, 158, 159, 160, 161, 162, 163] (by decide +kernel) (by decide +kernel)
set_option maxRecDepth 20000 in
theorem gL_worths_X5_count : GoodIn wsL_worths (wsV RL 19 RX5 yX5_count wsX5_count) := goodIn_app (goodIn_of _ (by decide +kernel)) ggL_worths_X5_count
set_option maxRecDepth 20000 in
theorem ggL_worths_X5_worth : GoodIn wsL_worths wsX5_worth := goodIn_r _ [48, 9, 49, 50, 51, 13, 52, 53, 54, 55, 56, 57, 15, 29, 30, 31, 32, 58, 5, 59, 60, 61, 62, 63, 28, 64, 65, 66, 67, 68, 69, 70, 71, 72, 73, 74, 75, 76, 77, 78, 79, 80, 81, 82, 83, 84, 85, 86, 87, 88, 89, 90, 91, 92, 93, 33, 34, 35, 36, 16, 94, 95, 96, 97, 98, 99, 100, 101, 37, 38, 39, 40, 136, 137, 138, 139, 140, 141, 142, 143, 144, 151, 152, 153, 154, 155, 156, 157, 158, 159, 160, 161, 162, 163] (by decide +kernel) (by decide +kernel)
set_option maxRecDepth 20000 in
theorem gL_worths_X5_worth : GoodIn wsL_worths (wsV RL 66 RX5 yX5_worth wsX5_worth) := goodIn_app (goodIn_of _ (by decide +kernel)) ggL_worths_X5_worth
set_option maxRecDepth 20000 in
theorem ggL_worths_X5_slotOf : GoodIn wsL_worths wsX5_slotOf := goodIn_r _ [105, 9, 106, 107, 108, 13, 109, 64, 29, 30, 31, 32, 54, 55, 56, 57, 15, 99, 100, 101, 85, 70, 71, 72, 73, 136, 137, 138, 139, 140, 141, 142, 143, 144, 151, 152, 153, 154, 155, 156, 157, 158, 159, 160, 161, 162, 163] (by decide +kernel) (by decide +kernel)
set_option maxRecDepth 20000 in
theorem gL_worths_X5_slotOf : GoodIn wsL_worths (wsV RL 48 RX5 yX5_slotOf wsX5_slotOf) := goodIn_app (goodIn_of _ (by decide +kernel)) ggL_worths_X5_slotOf
set_option maxRecDepth 20000 in
theorem ggL_worths_X5_goodOf : GoodIn wsL_worths wsX5_goodOf := goodIn_r _ [113, 9, 114, 115, 116, 13, 117, 69, 118, 28, 17, 18, 119, 120, 54, 55, 56, 57, 15, 58, 5, 59, 24, 25, 26, 27, 29, 30, 31, 32, 121, 122, 123, 73, 94, 95, 96, 97, 98, 136, 137, 138, 139, 140, 141, 142, 143, 144, 151, 152, 153, 154, 155, 156, 157, 158, 159, 160, 161, 162, 163] (by decide +kernel) (by decide +kernel)
set_option maxRecDepth 20000 in
theorem gL_worths_X5_goodOf : GoodIn wsL_worths (wsV RL 22 RX5 yX5_goodOf wsX5_goodOf) := goodIn_app (goodIn_of _ (by decide +kernel)) ggL_worths_X5_goodOf
set_option maxRecDepth 20000 in
theorem ggL_worths_X5_best : GoodIn wsL_worths wsX5_best := goodIn_r _ [127, 9, 128, 129, 130, 13, 131, 58, 5, 59, 132, 133, 134, 135, 15, 60, 61, 62, 63, 28, 64, 29, 30, 31, 32, 65, 66, 67, 68, 69, 70, 71, 72, 73, 54, 55, 56, 57, 86, 87, 88, 89, 90, 91, 92, 93, 33, 34, 35, 36, 16, 94, 95, 96, 97, 98, 99, 100, 101, 85, 37, 38, 39, 40, 74, 75, 76, 77, 78, 79, 80, 81, 82, 83, 84, 136, 137, 138, 139, 140, 141, 142, 143, 144, 151, 152, 153, 154, 155, 156, 157, 158, 159, 160, 161, 162, 163] (by decide +kernel) (by decide +kernel)
set_option maxRecDepth 20000 in
theorem gL_worths_X5_best : GoodIn wsL_worths (wsV RL 69 RX5 yX5_best wsX5_best) := goodIn_app (goodIn_of _ (by decide +kernel)) ggL_worths_X5_best
theorem dL_worths_0 : decode cL_worths 0 = .ok (.aload_n 0, 1) := by decide +kernel
theorem dL_worths_1 : decode cL_worths 1 = .ok (.iconst 0, 1) := by decide +kernel
theorem dL_worths_2 : decode cL_worths 2 = .ok (.invokevirtual 19, 3) := by decide +kernel
theorem dL_worths_5 : decode cL_worths 5 = .ok (.istore_n 1, 1) := by decide +kernel
theorem dL_worths_6 : decode cL_worths 6 = .ok (.aload_n 0, 1) := by decide +kernel
theorem dL_worths_7 : decode cL_worths 7 = .ok (.iconst 4, 1) := by decide +kernel
theorem dL_worths_8 : decode cL_worths 8 = .ok (.invokevirtual 19, 3) := by decide +kernel
theorem dL_worths_11 : decode cL_worths 11 = .ok (.istore_n 2, 1) := by decide +kernel
theorem dL_worths_12 : decode cL_worths 12 = .ok (.iconst 0, 1) := by decide +kernel
theorem dL_worths_13 : decode cL_worths 13 = .ok (.istore_n 3, 1) := by decide +kernel
theorem dL_worths_14 : decode cL_worths 14 = .ok (.bipush (-4), 2) := by decide +kernel
theorem dL_worths_16 : decode cL_worths 16 = .ok (.istore 4, 2) := by decide +kernel
theorem dL_worths_18 : decode cL_worths 18 = .ok (.bipush (-4), 2) := by decide +kernel
theorem dL_worths_20 : decode cL_worths 20 = .ok (.istore 5, 2) := by decide +kernel
theorem dL_worths_22 : decode cL_worths 22 = .ok (.iconst 0, 1) := by decide +kernel
theorem dL_worths_23 : decode cL_worths 23 = .ok (.istore 6, 2) := by decide +kernel
theorem dL_worths_25 : decode cL_worths 25 = .ok (.iload 6, 2) := by decide +kernel
theorem dL_worths_27 : decode cL_worths 27 = .ok (.iload_n 1, 1) := by decide +kernel
theorem dL_worths_28 : decode cL_worths 28 = .ok (.if_icmp .ge 214, 3) := by decide +kernel
theorem dL_worths_31 : decode cL_worths 31 = .ok (.iconst 0, 1) := by decide +kernel
theorem dL_worths_32 : decode cL_worths 32 = .ok (.istore 7, 2) := by decide +kernel
theorem dL_worths_34 : decode cL_worths 34 = .ok (.iload 7, 2) := by decide +kernel
theorem dL_worths_36 : decode cL_worths 36 = .ok (.bipush 60, 2) := by decide +kernel
theorem dL_worths_38 : decode cL_worths 38 = .ok (.if_icmp .ge 198, 3) := by decide +kernel
theorem dL_worths_41 : decode cL_worths 41 = .ok (.aload_n 0, 1) := by decide +kernel
theorem dL_worths_42 : decode cL_worths 42 = .ok (.iload 6, 2) := by decide +kernel
theorem dL_worths_44 : decode cL_worths 44 = .ok (.iload 7, 2) := by decide +kernel
theorem dL_worths_46 : decode cL_worths 46 = .ok (.iconst 0, 1) := by decide +kernel
theorem dL_worths_47 : decode cL_worths 47 = .ok (.invokevirtual 66, 3) := by decide +kernel
theorem dL_worths_50 : decode cL_worths 50 = .ok (.istore 8, 2) := by decide +kernel
theorem dL_worths_52 : decode cL_worths 52 = .ok (.aload_n 0, 1) := by decide +kernel
theorem dL_worths_53 : decode cL_worths 53 = .ok (.iload 7, 2) := by decide +kernel
theorem dL_worths_55 : decode cL_worths 55 = .ok (.iconst 0, 1) := by decide +kernel
theorem dL_worths_56 : decode cL_worths 56 = .ok (.invokevirtual 48, 3) := by decide +kernel
theorem dL_worths_59 : decode cL_worths 59 = .ok (.istore 9, 2) := by decide +kernel
theorem dL_worths_61 : decode cL_worths 61 = .ok (.iload 8, 2) := by decide +kernel
theorem dL_worths_63 : decode cL_worths 63 = .ok (.ifCond .lt 123, 3) := by decide +kernel
theorem dL_worths_66 : decode cL_worths 66 = .ok (.aload_n 0, 1) := by decide +kernel
theorem dL_worths_67 : decode cL_worths 67 = .ok (.iload 6, 2) := by decide +kernel
theorem dL_worths_69 : decode cL_worths 69 = .ok (.iload 7, 2) := by decide +kernel
theorem dL_worths_71 : decode cL_worths 71 = .ok (.iconst 1, 1) := by decide +kernel
theorem dL_worths_72 : decode cL_worths 72 = .ok (.invokevirtual 66, 3) := by decide +kernel
theorem dL_worths_75 : decode cL_worths 75 = .ok (.ldc 90, 2) := by decide +kernel
theorem dL_worths_77 : decode cL_worths 77 = .ok (.isub, 1) := by decide +kernel
theorem dL_worths_78 : decode cL_worths 78 = .ok (.istore 10, 2) := by decide +kernel
theorem dL_worths_80 : decode cL_worths 80 = .ok (.iload 10, 2) := by decide +kernel
theorem dL_worths_82 : decode cL_worths 82 = .ok (.iload_n 2, 1) := by decide +kernel
theorem dL_worths_83 : decode cL_worths 83 = .ok (.imul, 1) := by decide +kernel
theorem dL_worths_84 : decode cL_worths 84 = .ok (.aload_n 0, 1) := by decide +kernel
theorem dL_worths_85 : decode cL_worths 85 = .ok (.iload 6, 2) := by decide +kernel
theorem dL_worths_87 : decode cL_worths 87 = .ok (.iload 7, 2) := by decide +kernel
theorem dL_worths_89 : decode cL_worths 89 = .ok (.iconst 2, 1) := by decide +kernel
theorem dL_worths_90 : decode cL_worths 90 = .ok (.invokevirtual 66, 3) := by decide +kernel
theorem dL_worths_93 : decode cL_worths 93 = .ok (.isub, 1) := by decide +kernel
theorem dL_worths_94 : decode cL_worths 94 = .ok (.istore 11, 2) := by decide +kernel
theorem dL_worths_96 : decode cL_worths 96 = .ok (.iload 8, 2) := by decide +kernel
theorem dL_worths_98 : decode cL_worths 98 = .ok (.ldc 90, 2) := by decide +kernel
theorem dL_worths_100 : decode cL_worths 100 = .ok (.isub, 1) := by decide +kernel
theorem dL_worths_101 : decode cL_worths 101 = .ok (.iload 11, 2) := by decide +kernel
theorem dL_worths_103 : decode cL_worths 103 = .ok (.if_icmp .ne 35, 3) := by decide +kernel
theorem dL_worths_106 : decode cL_worths 106 = .ok (.iload 9, 2) := by decide +kernel
theorem dL_worths_108 : decode cL_worths 108 = .ok (.ifCond .lt 23, 3) := by decide +kernel
theorem dL_worths_111 : decode cL_worths 111 = .ok (.aload_n 0, 1) := by decide +kernel
theorem dL_worths_112 : decode cL_worths 112 = .ok (.iload 9, 2) := by decide +kernel
theorem dL_worths_114 : decode cL_worths 114 = .ok (.aload_n 0, 1) := by decide +kernel
theorem dL_worths_115 : decode cL_worths 115 = .ok (.iload 6, 2) := by decide +kernel
theorem dL_worths_117 : decode cL_worths 117 = .ok (.bipush 6, 2) := by decide +kernel
theorem dL_worths_119 : decode cL_worths 119 = .ok (.invokevirtual 22, 3) := by decide +kernel
theorem dL_worths_122 : decode cL_worths 122 = .ok (.iconst 0, 1) := by decide +kernel
theorem dL_worths_123 : decode cL_worths 123 = .ok (.invokevirtual 66, 3) := by decide +kernel
theorem dL_worths_126 : decode cL_worths 126 = .ok (.iload 8, 2) := by decide +kernel
theorem dL_worths_128 : decode cL_worths 128 = .ok (.if_icmp .ne 10, 3) := by decide +kernel
theorem dL_worths_131 : decode cL_worths 131 = .ok (.iload 9, 2) := by decide +kernel
theorem dL_worths_133 : decode cL_worths 133 = .ok (.iload 6, 2) := by decide +kernel
theorem dL_worths_135 : decode cL_worths 135 = .ok (.if_icmp .ne 5, 3) := by decide +kernel
theorem dL_worths_138 : decode cL_worths 138 = .ok (.iconst 0, 1) := by decide +kernel
theorem dL_worths_139 : decode cL_worths 139 = .ok (.ireturn, 1) := by decide +kernel
theorem dL_worths_140 : decode cL_worths 140 = .ok (.iload 11, 2) := by decide +kernel
theorem dL_worths_142 : decode cL_worths 142 = .ok (.iload_n 3, 1) := by decide +kernel
theorem dL_worths_143 : decode cL_worths 143 = .ok (.if_icmp .le 8, 3) := by decide +kernel
theorem dL_worths_146 : decode cL_worths 146 = .ok (.iload 6, 2) := by decide +kernel
theorem dL_worths_148 : decode cL_worths 148 = .ok (.goto 5, 3) := by decide +kernel
theorem dL_worths_151 : decode cL_worths 151 = .ok (.iload 4, 2) := by decide +kernel
theorem dL_worths_153 : decode cL_worths 153 = .ok (.istore 4, 2) := by decide +kernel
theorem dL_worths_155 : decode cL_worths 155 = .ok (.iload 11, 2) := by decide +kernel
theorem dL_worths_157 : decode cL_worths 157 = .ok (.iload_n 3, 1) := by decide +kernel
theorem dL_worths_158 : decode cL_worths 158 = .ok (.if_icmp .le 8, 3) := by decide +kernel
theorem dL_worths_161 : decode cL_worths 161 = .ok (.iload 7, 2) := by decide +kernel
theorem dL_worths_163 : decode cL_worths 163 = .ok (.goto 5, 3) := by decide +kernel
theorem dL_worths_166 : decode cL_worths 166 = .ok (.iload 5, 2) := by decide +kernel
theorem dL_worths_168 : decode cL_worths 168 = .ok (.istore 5, 2) := by decide +kernel
theorem dL_worths_170 : decode cL_worths 170 = .ok (.iload 11, 2) := by decide +kernel
theorem dL_worths_172 : decode cL_worths 172 = .ok (.iload_n 3, 1) := by decide +kernel
theorem dL_worths_173 : decode cL_worths 173 = .ok (.if_icmp .le 8, 3) := by decide +kernel
theorem dL_worths_176 : decode cL_worths 176 = .ok (.iload 11, 2) := by decide +kernel
theorem dL_worths_178 : decode cL_worths 178 = .ok (.goto 4, 3) := by decide +kernel
theorem dL_worths_181 : decode cL_worths 181 = .ok (.iload_n 3, 1) := by decide +kernel
theorem dL_worths_182 : decode cL_worths 182 = .ok (.istore_n 3, 1) := by decide +kernel
theorem dL_worths_183 : decode cL_worths 183 = .ok (.goto 47, 3) := by decide +kernel
theorem dL_worths_186 : decode cL_worths 186 = .ok (.iload 8, 2) := by decide +kernel
theorem dL_worths_188 : decode cL_worths 188 = .ok (.bipush (-2), 2) := by decide +kernel
theorem dL_worths_190 : decode cL_worths 190 = .ok (.if_icmp .ne 38, 3) := by decide +kernel
theorem dL_worths_193 : decode cL_worths 193 = .ok (.aload_n 0, 1) := by decide +kernel
theorem dL_worths_194 : decode cL_worths 194 = .ok (.iload 6, 2) := by decide +kernel
theorem dL_worths_196 : decode cL_worths 196 = .ok (.bipush 6, 2) := by decide +kernel
theorem dL_worths_198 : decode cL_worths 198 = .ok (.invokevirtual 22, 3) := by decide +kernel
theorem dL_worths_201 : decode cL_worths 201 = .ok (.ifCond .lt 29, 3) := by decide +kernel
theorem dL_worths_204 : decode cL_worths 204 = .ok (.iload 9, 2) := by decide +kernel
theorem dL_worths_206 : decode cL_worths 206 = .ok (.bipush (-4), 2) := by decide +kernel
theorem dL_worths_208 : decode cL_worths 208 = .ok (.if_icmp .ne 22, 3) := by decide +kernel
theorem dL_worths_211 : decode cL_worths 211 = .ok (.aload_n 0, 1) := by decide +kernel
theorem dL_worths_212 : decode cL_worths 212 = .ok (.iload 7, 2) := by decide +kernel
theorem dL_worths_214 : decode cL_worths 214 = .ok (.iconst 2, 1) := by decide +kernel
theorem dL_worths_215 : decode cL_worths 215 = .ok (.invokevirtual 48, 3) := by decide +kernel
theorem dL_worths_218 : decode cL_worths 218 = .ok (.aload_n 0, 1) := by decide +kernel
theorem dL_worths_219 : decode cL_worths 219 = .ok (.iload 6, 2) := by decide +kernel
theorem dL_worths_221 : decode cL_worths 221 = .ok (.iconst 0, 1) := by decide +kernel
theorem dL_worths_222 : decode cL_worths 222 = .ok (.invokevirtual 22, 3) := by decide +kernel
theorem dL_worths_225 : decode cL_worths 225 = .ok (.if_icmp .lt 5, 3) := by decide +kernel
theorem dL_worths_228 : decode cL_worths 228 = .ok (.iconst 0, 1) := by decide +kernel
theorem dL_worths_229 : decode cL_worths 229 = .ok (.ireturn, 1) := by decide +kernel
theorem dL_worths_230 : decode cL_worths 230 = .ok (.iinc 7 1, 3) := by decide +kernel
theorem dL_worths_233 : decode cL_worths 233 = .ok (.goto (-199), 3) := by decide +kernel
theorem dL_worths_236 : decode cL_worths 236 = .ok (.iinc 6 1, 3) := by decide +kernel
theorem dL_worths_239 : decode cL_worths 239 = .ok (.goto (-214), 3) := by decide +kernel
theorem dL_worths_242 : decode cL_worths 242 = .ok (.aload_n 0, 1) := by decide +kernel
theorem dL_worths_243 : decode cL_worths 243 = .ok (.iconst 0, 1) := by decide +kernel
theorem dL_worths_244 : decode cL_worths 244 = .ok (.invokevirtual 69, 3) := by decide +kernel
theorem dL_worths_247 : decode cL_worths 247 = .ok (.iload 4, 2) := by decide +kernel
theorem dL_worths_249 : decode cL_worths 249 = .ok (.if_icmp .ne 35, 3) := by decide +kernel
theorem dL_worths_252 : decode cL_worths 252 = .ok (.aload_n 0, 1) := by decide +kernel
theorem dL_worths_253 : decode cL_worths 253 = .ok (.iconst 1, 1) := by decide +kernel
theorem dL_worths_254 : decode cL_worths 254 = .ok (.invokevirtual 69, 3) := by decide +kernel
theorem dL_worths_257 : decode cL_worths 257 = .ok (.iload 5, 2) := by decide +kernel
theorem dL_worths_259 : decode cL_worths 259 = .ok (.if_icmp .ne 25, 3) := by decide +kernel
theorem dL_worths_262 : decode cL_worths 262 = .ok (.aload_n 0, 1) := by decide +kernel
theorem dL_worths_263 : decode cL_worths 263 = .ok (.iconst 2, 1) := by decide +kernel
theorem dL_worths_264 : decode cL_worths 264 = .ok (.invokevirtual 69, 3) := by decide +kernel
theorem dL_worths_267 : decode cL_worths 267 = .ok (.iload_n 3, 1) := by decide +kernel
theorem dL_worths_268 : decode cL_worths 268 = .ok (.ifCond .ne 8, 3) := by decide +kernel
theorem dL_worths_271 : decode cL_worths 271 = .ok (.bipush (-4), 2) := by decide +kernel
theorem dL_worths_273 : decode cL_worths 273 = .ok (.goto 4, 3) := by decide +kernel
theorem dL_worths_276 : decode cL_worths 276 = .ok (.iload_n 3, 1) := by decide +kernel
theorem dL_worths_277 : decode cL_worths 277 = .ok (.if_icmp .ne 7, 3) := by decide +kernel
theorem dL_worths_280 : decode cL_worths 280 = .ok (.iconst 1, 1) := by decide +kernel
theorem dL_worths_281 : decode cL_worths 281 = .ok (.goto 4, 3) := by decide +kernel
theorem dL_worths_284 : decode cL_worths 284 = .ok (.iconst 0, 1) := by decide +kernel
theorem dL_worths_285 : decode cL_worths 285 = .ok (.ireturn, 1) := by decide +kernel
set_option maxRecDepth 20000 in
theorem ggL_act_X5_count : GoodIn wsL_act wsX5_count := goodIn_r _ [5, 6, 7, 8, 9, 10, 11, 12, 13, 14, 15, 16, 17, 18, 19, 20, 21, 22, 23, 24, 25, 26, 27, 28, 29, 30, 31, 32, 33, 34, 35, 36, 37, 38, 39, 40, 41, 42, 43, 263, 264, 265, 266, 267, 268, 269, 270, 271, 272, 273, 274, 275, 276, 277, 278, 279, 280, 281, 282, 283, 284, 285, 286, 287, 288, 289, 290] (by decide +kernel) (by decide +kernel)
set_option maxRecDepth 20000 in
theorem gL_act_X5_count : GoodIn wsL_act (wsV RL 19 RX5 yX5_count wsX5_count) := goodIn_app (goodIn_of _ (by decide +kernel)) ggL_act_X5_count
set_option maxRecDepth 20000 in
theorem ggL_act_L_up : GoodIn wsL_act wsL_up := goodIn_r _ [47, 48] (by decide +kernel) (by decide +kernel)
set_option maxRecDepth 20000 in
theorem gL_act_L_up : GoodIn wsL_act (va_wsS RL 91 yL_up wsL_up) := goodIn_app (goodIn_of _ (by decide +kernel)) ggL_act_L_up
set_option maxRecDepth 20000 in
theorem ggL_act_X5_pick : GoodIn wsL_act wsX5_pick := goodIn_r _ [52, 53, 54, 55, 56, 4, 57, 8, 58, 59, 60, 12, 61, 62, 63, 64, 27, 16, 17, 65, 66, 67, 18, 68, 14, 15, 69, 70, 71, 72, 73, 74, 75, 76, 77, 78, 79, 80, 81, 82, 83, 84, 85, 86, 87, 88, 89, 90, 91, 92, 93, 94, 95, 96, 97, 98, 99, 100, 101, 23, 24, 25, 26, 28, 29, 30, 31, 102, 103, 104, 105, 106, 107, 108, 109, 110, 111, 112, 113, 114, 115, 116, 117, 118, 119, 120, 121, 122, 123, 124, 125, 6, 126, 127, 128, 129, 130, 263, 264, 265, 266, 267, 268, 269, 270, 271, 278, 279, 280, 281, 282, 283, 284, 285, 286, 287, 288, 289, 290, 291, 292, 293, 294, 295, 296, 297] (by decide +kernel) (by decide +kernel)
set_option maxRecDepth 20000 in
theorem gL_act_X5_pick : GoodIn wsL_act (wsV RL 54 RX5 yX5_pick wsX5_pick) := goodIn_app (goodIn_of _ (by decide +kernel)) ggL_act_X5_pick
set_option maxRecDepth 20000 in
theorem ggL_act_X5_refill : GoodIn wsL_act wsX5_refill := goodIn_r _ [134, 53, 54, 55, 56, 4, 57, 8, 58, 59, 60, 12, 61, 62, 63, 64, 27, 16, 17, 65, 66, 67, 18, 68, 14, 15, 69, 70, 71, 72, 73, 74, 75, 76, 77, 78, 79, 80, 81, 82, 83, 84, 85, 86, 87, 88, 89, 90, 91, 135, 136, 137, 138, 96, 97, 98, 99, 23, 24, 25, 26, 28, 29, 30, 31, 102, 103, 104, 105, 106, 107, 108, 109, 110, 111, 112, 113, 114, 115, 116, 117, 118, 119, 120, 121, 122, 123, 124, 125, 6, 126, 127, 128, 129, 130, 263, 264, 265, 266, 267, 268, 269, 270, 271, 278, 279, 280, 281, 282, 283, 284, 285, 286, 287, 288, 289, 290, 291, 292, 293, 294, 295, 296, 297] (by decide +kernel) (by decide +kernel)
set_option maxRecDepth 20000 in
theorem gL_act_X5_refill : GoodIn wsL_act (wsV RL 57 RX5 yX5_refill wsX5_refill) := goodIn_app (goodIn_of _ (by decide +kernel)) ggL_act_X5_refill
set_option maxRecDepth 20000 in
theorem ggL_act_X5_endWeek : GoodIn wsL_act wsX5_endWeek := goodIn_r _ [142, 53, 54, 55, 56, 4, 57, 8, 58, 59, 60, 12, 61, 62, 63, 64, 27, 16, 17, 65, 66, 67, 18, 68, 14, 15, 69, 70, 71, 72, 73, 74, 75, 76, 77, 78, 79, 80, 81, 82, 83, 84, 85, 86, 87, 88, 89, 90, 91, 143, 144, 145, 146, 32, 33, 34, 35, 147, 148, 149, 150, 118, 119, 120, 121, 122, 123, 124, 125, 6, 126, 127, 128, 129, 130, 263, 264, 265, 266, 267, 268, 269, 270, 271, 278, 279, 280, 281, 282, 283, 284, 285, 286, 287, 288, 289, 290, 291, 292, 293, 294, 295, 296, 297] (by decide +kernel) (by decide +kernel)
set_option maxRecDepth 20000 in
theorem gL_act_X5_endWeek : GoodIn wsL_act (wsV RL 94 RX5 yX5_endWeek wsX5_endWeek) := goodIn_app (goodIn_of _ (by decide +kernel)) ggL_act_X5_endWeek
set_option maxRecDepth 20000 in
theorem ggL_act_X5_move : GoodIn wsL_act wsX5_move := goodIn_r _ [154, 53, 54, 55, 56, 4, 57, 8, 58, 59, 60, 12, 61, 62, 63, 64, 27, 16, 17, 65, 66, 67, 18, 68, 14, 15, 69, 70, 71, 72, 73, 74, 75, 76, 77, 78, 79, 80, 81, 82, 83, 84, 85, 86, 87, 88, 89, 90, 91, 155, 156, 157, 158, 159, 96, 97, 98, 99, 28, 29, 30, 31, 160, 161, 162, 163, 164, 165, 166, 167, 168, 169, 170, 171, 172, 173, 174, 175, 176, 177, 178, 179, 32, 33, 34, 35, 147, 148, 149, 150, 114, 115, 116, 117, 180, 181, 182, 183, 184, 185, 186, 187, 188, 189, 190, 191, 192, 193, 118, 119, 120, 121, 122, 123, 124, 125, 6, 126, 127, 128, 129, 130, 263, 264, 265, 266, 267, 268, 269, 270, 271, 278, 279, 280, 281, 282, 283, 284, 285, 286, 287, 288, 289, 290, 291, 292, 293, 294, 295, 296, 297] (by decide +kernel) (by decide +kernel)
set_option maxRecDepth 20000 in
theorem gL_act_X5_move : GoodIn wsL_act (wsV RL 60 RX5 yX5_move wsX5_move) := goodIn_app (goodIn_of _ (by decide +kernel)) ggL_act_X5_move
set_option maxRecDepth 20000 in
theorem ggL_act_X5_exchange : GoodIn wsL_act wsX5_exchange := goodIn_r _ [197, 53, 54, 55, 56, 4, 57, 8, 58, 59, 60, 12, 61, 62, 63, 64, 27, 16, 17, 65, 66, 67, 18, 68, 14, 15, 69, 70, 71, 72, 73, 74, 75, 76, 77, 78, 79, 80, 81, 82, 83, 84, 85, 86, 87, 88, 89, 90, 91, 198, 199, 200, 201, 159, 96, 97, 98, 99, 23, 24, 25, 26, 28, 29, 30, 31, 160, 161, 162, 163, 164, 165, 166, 167, 168, 169, 170, 171, 172, 173, 174, 175, 176, 177, 178, 179, 32, 33, 34, 35, 147, 148, 149, 150, 114, 115, 116, 117, 180, 181, 182, 183, 184, 185, 186, 187, 188, 189, 190, 191, 192, 193, 118, 119, 120, 121, 122, 123, 124, 125, 6, 126, 127, 128, 129, 130, 263, 264, 265, 266, 267, 268, 269, 270, 271, 278, 279, 280, 281, 282, 283, 284, 285, 286, 287, 288, 289, 290, 291, 292, 293, 294, 295, 296, 297] (by decide +kernel) (by decide +kernel)
set_option maxRecDepth 20000 in
theorem gL_act_X5_exchange : GoodIn wsL_act (wsV RL 63 RX5 yX5_exchange wsX5_exchange) := goodIn_app (goodIn_of _ (by decide +kernel)) ggL_act_X5_exchange
set_option maxRecDepth 20000 in
theorem ggL_act_X5_improve : GoodIn wsL_act wsX5_improve := goodIn_r _ [205, 53, 54, 55, 56, 4, 57, 8, 58, 59, 60, 12, 61, 62, 63, 64, 27, 16, 17, 65, 66, 67, 18, 68, 14, 15, 69, 70, 71, 72, 73, 74, 75, 76, 77, 78, 79, 80, 81, 82, 83, 84, 85, 86, 87, 88, 89, 90, 91, 206, 207, 208, 209, 100, 101, 210, 211, 212, 213, 160, 161, 162, 163, 28, 29, 30, 31, 164, 165, 166, 167, 168, 169, 170, 171, 96, 97, 98, 99, 214, 215, 216, 217, 176, 177, 178, 179, 32, 33, 34, 35, 147, 148, 149, 150, 114, 115, 116, 117, 36, 37, 38, 39, 180, 181, 182, 183, 184, 185, 186, 187, 188, 189, 172, 173, 174, 175, 190, 191, 192, 193, 118, 119, 120, 121, 122, 123, 124, 125, 6, 126, 127, 128, 129, 130, 263, 264, 265, 266, 267, 268, 269, 270, 271, 278, 279, 280, 281, 282, 283, 284, 285, 286, 287, 288, 289, 290, 291, 292, 293, 294, 295, 296, 297] (by decide +kernel) (by decide +kernel)
set_option maxRecDepth 20000 in
theorem gL_act_X5_improve : GoodIn wsL_act (wsV RL 72 RX5 yX5_improve wsX5_improve) := goodIn_app (goodIn_of _ (by decide +kernel)) ggL_act_X5_improve
set_option maxRecDepth 20000 in
theorem ggL_act_X5_take : GoodIn wsL_act wsX5_take := goodIn_r _ [221, 53, 54, 55, 56, 4, 57, 8, 58, 59, 60, 12, 61, 62, 63, 64, 27, 16, 17, 65, 66, 67, 18, 68, 14, 15, 69, 70, 71, 72, 73, 74, 75, 76, 77, 78, 79, 80, 81, 82, 83, 84, 85, 86, 87, 88, 89, 90, 91, 222, 223, 224, 225, 96, 97, 98, 99, 23, 24, 25, 26, 28, 29, 30, 31, 118, 119, 120, 121, 122, 123, 124, 125, 6, 126, 127, 128, 129, 130, 263, 264, 265, 266, 267, 268, 269, 270, 271, 278, 279, 280, 281, 282, 283, 284, 285, 286, 287, 288, 289, 290, 291, 292, 293, 294, 295, 296, 297] (by decide +kernel) (by decide +kernel)
set_option maxRecDepth 20000 in
theorem gL_act_X5_take : GoodIn wsL_act (wsV RL 45 RX5 yX5_take wsX5_take) := goodIn_app (goodIn_of _ (by decide +kernel)) ggL_act_X5_take
set_option maxRecDepth 20000 in
theorem ggL_act_X5_demand : GoodIn wsL_act wsX5_demand := goodIn_r _ [229, 53, 54, 55, 56, 4, 57, 8, 58, 59, 60, 12, 61, 62, 63, 64, 27, 16, 17, 65, 66, 67, 18, 68, 14, 15, 69, 70, 71, 72, 73, 74, 75, 76, 77, 78, 79, 80, 81, 82, 83, 84, 85, 86, 87, 88, 89, 90, 91, 230, 231, 232, 233, 96, 97, 98, 99, 234, 235, 100, 101, 147, 148, 149, 150, 118, 119, 120, 121, 122, 123, 124, 125, 6, 126, 127, 128, 129, 130, 263, 264, 265, 266, 267, 268, 269, 270, 271, 278, 279, 280, 281, 282, 283, 284, 285, 286, 287, 288, 289, 290, 291, 292, 293, 294, 295, 296, 297] (by decide +kernel) (by decide +kernel)
set_option maxRecDepth 20000 in
theorem gL_act_X5_demand : GoodIn wsL_act (wsV RL 35 RX5 yX5_demand wsX5_demand) := goodIn_app (goodIn_of _ (by decide +kernel)) ggL_act_X5_demand
set_option maxRecDepth 20000 in
theorem ggL_act_X5_set : GoodIn wsL_act wsX5_set := goodIn_r _ [239, 53, 54, 55, 56, 4, 57, 8, 58, 59, 60, 12, 61, 62, 63, 64, 27, 16, 17, 65, 66, 67, 18, 68, 14, 15, 69, 70, 71, 72, 73, 74, 75, 76, 77, 78, 79, 80, 81, 82, 83, 84, 85, 86, 87, 88, 89, 90, 91, 240, 241, 242, 243, 244, 245, 100, 101, 118, 119, 120, 121, 122, 123, 124, 125, 6, 126, 127, 128, 129, 130, 263, 264, 265, 266, 267, 268, 269, 270, 271, 278, 279, 280, 281, 282, 283, 284, 285, 286, 287, 288, 289, 290, 291, 292, 293, 294, 295, 296, 297] (by decide +kernel) (by decide +kernel)
set_option maxRecDepth 20000 in
theorem gL_act_X5_set : GoodIn wsL_act (wsV RL 81 RX5 yX5_set wsX5_set) := goodIn_app (goodIn_of _ (by decide +kernel)) ggL_act_X5_set
set_option maxRecDepth 20000 in
theorem ggL_act_X5_place : GoodIn wsL_act wsX5_place := goodIn_r _ [249, 53, 54, 55, 56, 4, 57, 8, 58, 59, 60, 12, 61, 62, 63, 64, 27, 16, 17, 65, 66, 67, 18, 68, 14, 15, 69, 70, 71, 72, 73, 74, 75, 76, 77, 78, 79, 80, 81, 82, 83, 84, 85, 86, 87, 88, 89, 90, 91, 250, 251, 252, 253, 96, 97, 98, 99, 28, 29, 30, 31, 23, 24, 25, 26, 164, 165, 166, 167, 168, 169, 170, 171, 190, 191, 192, 193, 114, 115, 116, 117, 118, 119, 120, 121, 122, 123, 124, 125, 6, 126, 127, 128, 129, 130, 263, 264, 265, 266, 267, 268, 269, 270, 271, 278, 279, 280, 281, 282, 283, 284, 285, 286, 287, 288, 289, 290, 291, 292, 293, 294, 295, 296, 297] (by decide +kernel) (by decide +kernel)
set_option maxRecDepth 20000 in
theorem gL_act_X5_place : GoodIn wsL_act (wsV RL 42 RX5 yX5_place wsX5_place) := goodIn_app (goodIn_of _ (by decide +kernel)) ggL_act_X5_place
set_option maxRecDepth 20000 in
theorem ggL_act_X5_deliver : GoodIn wsL_act wsX5_deliver := goodIn_r _ [257, 53, 54, 55, 56, 4, 57, 8, 58, 59, 60, 12, 61, 62, 63, 64, 27, 16, 17, 65, 66, 67, 18, 68, 14, 15, 69, 70, 71, 72, 73, 74, 75, 76, 77, 78, 79, 80, 81, 82, 83, 84, 85, 86, 87, 88, 89, 90, 91, 258, 259, 260, 261, 262, 96, 97, 98, 99, 100, 101, 118, 119, 120, 121, 122, 123, 124, 125, 6, 126, 127, 128, 129, 130, 263, 264, 265, 266, 267, 268, 269, 270, 271, 278, 279, 280, 281, 282, 283, 284, 285, 286, 287, 288, 289, 290, 291, 292, 293, 294, 295, 296, 297] (by decide +kernel) (by decide +kernel)
set_option maxRecDepth 20000 in
theorem gL_act_X5_deliver : GoodIn wsL_act (wsV RL 39 RX5 yX5_deliver wsX5_deliver) := goodIn_app (goodIn_of _ (by decide +kernel)) ggL_act_X5_deliver
theorem dL_act_0 : decode cL_act 0 = .ok (.aload_n 0, 1) := by decide +kernel
theorem dL_act_1 : decode cL_act 1 = .ok (.iconst 0, 1) := by decide +kernel
theorem dL_act_2 : decode cL_act 2 = .ok (.invokevirtual 19, 3) := by decide +kernel
theorem dL_act_5 : decode cL_act 5 = .ok (.istore_n 3, 1) := by decide +kernel
theorem dL_act_6 : decode cL_act 6 = .ok (.iload_n 1, 1) := by decide +kernel
theorem dL_act_7 : decode cL_act 7 = .ok (.iconst 4, 1) := by decide +kernel
theorem dL_act_8 : decode cL_act 8 = .ok (.ishr, 1) := by decide +kernel
theorem dL_act_9 : decode cL_act 9 = .ok (.iload_n 3, 1) := by decide +kernel
theorem dL_act_10 : decode cL_act 10 = .ok (.invokestatic 91, 3) := by decide +kernel
theorem dL_act_13 : decode cL_act 13 = .ok (.istore 4, 2) := by decide +kernel
theorem dL_act_15 : decode cL_act 15 = .ok (.iload_n 1, 1) := by decide +kernel
theorem dL_act_16 : decode cL_act 16 = .ok (.bipush 8, 2) := by decide +kernel
theorem dL_act_18 : decode cL_act 18 = .ok (.ishr, 1) := by decide +kernel
theorem dL_act_19 : decode cL_act 19 = .ok (.bipush 60, 2) := by decide +kernel
theorem dL_act_21 : decode cL_act 21 = .ok (.invokestatic 91, 3) := by decide +kernel
theorem dL_act_24 : decode cL_act 24 = .ok (.istore 5, 2) := by decide +kernel
theorem dL_act_26 : decode cL_act 26 = .ok (.iload_n 1, 1) := by decide +kernel
theorem dL_act_27 : decode cL_act 27 = .ok (.bipush 12, 2) := by decide +kernel
theorem dL_act_29 : decode cL_act 29 = .ok (.invokestatic 91, 3) := by decide +kernel
theorem dL_act_32 : decode cL_act 32 = .ok (.tableswitch 191 0 10 #[60, 60, 78, 85, 90, 99, 114, 129, 136, 161, 182], 60) := by decide +kernel
theorem dL_act_92 : decode cL_act 92 = .ok (.aload_n 0, 1) := by decide +kernel
theorem dL_act_93 : decode cL_act 93 = .ok (.iload 4, 2) := by decide +kernel
theorem dL_act_95 : decode cL_act 95 = .ok (.iconst 1, 1) := by decide +kernel
theorem dL_act_96 : decode cL_act 96 = .ok (.iload_n 1, 1) := by decide +kernel
theorem dL_act_97 : decode cL_act 97 = .ok (.bipush 8, 2) := by decide +kernel
theorem dL_act_99 : decode cL_act 99 = .ok (.ishr, 1) := by decide +kernel
theorem dL_act_100 : decode cL_act 100 = .ok (.bipush 40, 2) := by decide +kernel
theorem dL_act_102 : decode cL_act 102 = .ok (.invokestatic 91, 3) := by decide +kernel
theorem dL_act_105 : decode cL_act 105 = .ok (.iadd, 1) := by decide +kernel
theorem dL_act_106 : decode cL_act 106 = .ok (.invokevirtual 54, 3) := by decide +kernel
theorem dL_act_109 : decode cL_act 109 = .ok (.ireturn, 1) := by decide +kernel
theorem dL_act_110 : decode cL_act 110 = .ok (.aload_n 0, 1) := by decide +kernel
theorem dL_act_111 : decode cL_act 111 = .ok (.iload 4, 2) := by decide +kernel
theorem dL_act_113 : decode cL_act 113 = .ok (.invokevirtual 57, 3) := by decide +kernel
theorem dL_act_116 : decode cL_act 116 = .ok (.ireturn, 1) := by decide +kernel
theorem dL_act_117 : decode cL_act 117 = .ok (.aload_n 0, 1) := by decide +kernel
theorem dL_act_118 : decode cL_act 118 = .ok (.invokevirtual 94, 3) := by decide +kernel
theorem dL_act_121 : decode cL_act 121 = .ok (.ireturn, 1) := by decide +kernel
theorem dL_act_122 : decode cL_act 122 = .ok (.aload_n 0, 1) := by decide +kernel
theorem dL_act_123 : decode cL_act 123 = .ok (.iload 4, 2) := by decide +kernel
theorem dL_act_125 : decode cL_act 125 = .ok (.iload 5, 2) := by decide +kernel
theorem dL_act_127 : decode cL_act 127 = .ok (.invokevirtual 60, 3) := by decide +kernel
theorem dL_act_130 : decode cL_act 130 = .ok (.ireturn, 1) := by decide +kernel
theorem dL_act_131 : decode cL_act 131 = .ok (.aload_n 0, 1) := by decide +kernel
theorem dL_act_132 : decode cL_act 132 = .ok (.iload 4, 2) := by decide +kernel
theorem dL_act_134 : decode cL_act 134 = .ok (.iload_n 1, 1) := by decide +kernel
theorem dL_act_135 : decode cL_act 135 = .ok (.bipush 8, 2) := by decide +kernel
theorem dL_act_137 : decode cL_act 137 = .ok (.ishr, 1) := by decide +kernel
theorem dL_act_138 : decode cL_act 138 = .ok (.iload_n 3, 1) := by decide +kernel
theorem dL_act_139 : decode cL_act 139 = .ok (.invokestatic 91, 3) := by decide +kernel
theorem dL_act_142 : decode cL_act 142 = .ok (.invokevirtual 63, 3) := by decide +kernel
theorem dL_act_145 : decode cL_act 145 = .ok (.ireturn, 1) := by decide +kernel
theorem dL_act_146 : decode cL_act 146 = .ok (.aload_n 0, 1) := by decide +kernel
theorem dL_act_147 : decode cL_act 147 = .ok (.iconst 1, 1) := by decide +kernel
theorem dL_act_148 : decode cL_act 148 = .ok (.iload_n 1, 1) := by decide +kernel
theorem dL_act_149 : decode cL_act 149 = .ok (.bipush 8, 2) := by decide +kernel
theorem dL_act_151 : decode cL_act 151 = .ok (.ishr, 1) := by decide +kernel
theorem dL_act_152 : decode cL_act 152 = .ok (.iconst 3, 1) := by decide +kernel
theorem dL_act_153 : decode cL_act 153 = .ok (.invokestatic 91, 3) := by decide +kernel
theorem dL_act_156 : decode cL_act 156 = .ok (.iadd, 1) := by decide +kernel
theorem dL_act_157 : decode cL_act 157 = .ok (.invokevirtual 72, 3) := by decide +kernel
theorem dL_act_160 : decode cL_act 160 = .ok (.ireturn, 1) := by decide +kernel
theorem dL_act_161 : decode cL_act 161 = .ok (.aload_n 0, 1) := by decide +kernel
theorem dL_act_162 : decode cL_act 162 = .ok (.iload 4, 2) := by decide +kernel
theorem dL_act_164 : decode cL_act 164 = .ok (.invokevirtual 45, 3) := by decide +kernel
theorem dL_act_167 : decode cL_act 167 = .ok (.ireturn, 1) := by decide +kernel
theorem dL_act_168 : decode cL_act 168 = .ok (.aload_n 0, 1) := by decide +kernel
theorem dL_act_169 : decode cL_act 169 = .ok (.iload 4, 2) := by decide +kernel
theorem dL_act_171 : decode cL_act 171 = .ok (.iload_n 1, 1) := by decide +kernel
theorem dL_act_172 : decode cL_act 172 = .ok (.bipush 8, 2) := by decide +kernel
theorem dL_act_174 : decode cL_act 174 = .ok (.ishr, 1) := by decide +kernel
theorem dL_act_175 : decode cL_act 175 = .ok (.iconst 4, 1) := by decide +kernel
theorem dL_act_176 : decode cL_act 176 = .ok (.invokestatic 91, 3) := by decide +kernel
theorem dL_act_179 : decode cL_act 179 = .ok (.iload_n 1, 1) := by decide +kernel
theorem dL_act_180 : decode cL_act 180 = .ok (.bipush 10, 2) := by decide +kernel
theorem dL_act_182 : decode cL_act 182 = .ok (.ishr, 1) := by decide +kernel
theorem dL_act_183 : decode cL_act 183 = .ok (.sipush 1000, 3) := by decide +kernel
theorem dL_act_186 : decode cL_act 186 = .ok (.invokestatic 91, 3) := by decide +kernel
theorem dL_act_189 : decode cL_act 189 = .ok (.invokevirtual 35, 3) := by decide +kernel
theorem dL_act_192 : decode cL_act 192 = .ok (.ireturn, 1) := by decide +kernel
theorem dL_act_193 : decode cL_act 193 = .ok (.aload_n 0, 1) := by decide +kernel
theorem dL_act_194 : decode cL_act 194 = .ok (.iload_n 1, 1) := by decide +kernel
theorem dL_act_195 : decode cL_act 195 = .ok (.iconst 4, 1) := by decide +kernel
theorem dL_act_196 : decode cL_act 196 = .ok (.ishr, 1) := by decide +kernel
theorem dL_act_197 : decode cL_act 197 = .ok (.iconst 3, 1) := by decide +kernel
theorem dL_act_198 : decode cL_act 198 = .ok (.invokestatic 91, 3) := by decide +kernel
theorem dL_act_201 : decode cL_act 201 = .ok (.iload_n 1, 1) := by decide +kernel
theorem dL_act_202 : decode cL_act 202 = .ok (.bipush 6, 2) := by decide +kernel
theorem dL_act_204 : decode cL_act 204 = .ok (.ishr, 1) := by decide +kernel
theorem dL_act_205 : decode cL_act 205 = .ok (.bipush 120, 2) := by decide +kernel
theorem dL_act_207 : decode cL_act 207 = .ok (.invokestatic 91, 3) := by decide +kernel
theorem dL_act_210 : decode cL_act 210 = .ok (.invokevirtual 81, 3) := by decide +kernel
theorem dL_act_213 : decode cL_act 213 = .ok (.ireturn, 1) := by decide +kernel
theorem dL_act_214 : decode cL_act 214 = .ok (.aload_n 0, 1) := by decide +kernel
theorem dL_act_215 : decode cL_act 215 = .ok (.iload 4, 2) := by decide +kernel
theorem dL_act_217 : decode cL_act 217 = .ok (.iload 5, 2) := by decide +kernel
theorem dL_act_219 : decode cL_act 219 = .ok (.invokevirtual 42, 3) := by decide +kernel
theorem dL_act_222 : decode cL_act 222 = .ok (.ireturn, 1) := by decide +kernel
theorem dL_act_223 : decode cL_act 223 = .ok (.iconst 1, 1) := by decide +kernel
theorem dL_act_224 : decode cL_act 224 = .ok (.iload_n 1, 1) := by decide +kernel
theorem dL_act_225 : decode cL_act 225 = .ok (.bipush 8, 2) := by decide +kernel
theorem dL_act_227 : decode cL_act 227 = .ok (.ishr, 1) := by decide +kernel
theorem dL_act_228 : decode cL_act 228 = .ok (.sipush 5000, 3) := by decide +kernel
theorem dL_act_231 : decode cL_act 231 = .ok (.invokestatic 91, 3) := by decide +kernel
theorem dL_act_234 : decode cL_act 234 = .ok (.iadd, 1) := by decide +kernel
theorem dL_act_235 : decode cL_act 235 = .ok (.istore 6, 2) := by decide +kernel
theorem dL_act_237 : decode cL_act 237 = .ok (.aload_n 0, 1) := by decide +kernel
theorem dL_act_238 : decode cL_act 238 = .ok (.iload 4, 2) := by decide +kernel
theorem dL_act_240 : decode cL_act 240 = .ok (.iload 6, 2) := by decide +kernel
theorem dL_act_242 : decode cL_act 242 = .ok (.invokevirtual 39, 3) := by decide +kernel
theorem dL_act_245 : decode cL_act 245 = .ok (.istore 7, 2) := by decide +kernel
theorem dL_act_247 : decode cL_act 247 = .ok (.aload_n 2, 1) := by decide +kernel
theorem dL_act_248 : decode cL_act 248 = .ok (.iload 4, 2) := by decide +kernel
theorem dL_act_250 : decode cL_act 250 = .ok (.dup2, 1) := by decide +kernel
theorem dL_act_251 : decode cL_act 251 = .ok (.iaload, 1) := by decide +kernel
theorem dL_act_252 : decode cL_act 252 = .ok (.iload 7, 2) := by decide +kernel
theorem dL_act_254 : decode cL_act 254 = .ok (.ifCond .le 8, 3) := by decide +kernel
theorem dL_act_257 : decode cL_act 257 = .ok (.iload 6, 2) := by decide +kernel
theorem dL_act_259 : decode cL_act 259 = .ok (.goto 4, 3) := by decide +kernel
theorem dL_act_262 : decode cL_act 262 = .ok (.iconst 0, 1) := by decide +kernel
theorem dL_act_263 : decode cL_act 263 = .ok (.iadd, 1) := by decide +kernel
theorem dL_act_264 : decode cL_act 264 = .ok (.iastore, 1) := by decide +kernel
theorem dL_act_265 : decode cL_act 265 = .ok (.iload 7, 2) := by decide +kernel
theorem dL_act_267 : decode cL_act 267 = .ok (.ireturn, 1) := by decide +kernel
set_option maxRecDepth 20000 in
theorem ggL_acts_X5_count : GoodIn wsL_acts wsX5_count := goodIn_r _ [6, 7, 8, 9, 10, 11, 12, 13, 14, 15, 16, 17, 18, 19, 20, 21, 22, 23, 24, 25, 26, 27, 28, 29, 30, 31, 32, 33, 34, 35, 36, 37, 38, 39, 40, 41, 42, 43, 44, 353, 354, 355, 356, 357, 358, 359, 360, 361, 362, 363, 364, 365, 366, 367, 368, 369, 370, 371, 372, 373, 374, 375, 376, 377, 378, 379, 380] (by decide +kernel) (by decide +kernel)
set_option maxRecDepth 20000 in
theorem gL_acts_X5_count : GoodIn wsL_acts (wsV RL 19 RX5 yX5_count wsX5_count) := goodIn_app (goodIn_of _ (by decide +kernel)) ggL_acts_X5_count
set_option maxRecDepth 20000 in
theorem ggL_acts_L_mark : GoodIn wsL_acts wsL_mark := goodIn_r _ [48, 49, 50, 51, 52, 53, 5, 54, 9, 55, 56, 57, 13, 58, 59, 60, 33, 34, 35, 36, 16, 61, 62, 63, 64, 15, 28, 24, 25, 26, 27, 29, 30, 31, 32, 65, 66, 67, 68, 69, 70, 71, 72, 73, 2, 3, 4, 6, 7, 8, 10, 11, 12, 14, 17, 18, 19, 20, 21, 22, 23, 37, 38, 39, 40, 41, 42, 43, 44, 74, 75, 76, 77, 78, 79, 80, 81, 82, 83, 84, 85, 86, 87, 88, 89, 90, 91, 92, 93, 94, 95, 353, 354, 355, 356, 357, 358, 359, 360, 361, 368, 369, 370, 371, 372, 373, 374, 375, 376, 377, 378, 379, 380, 381, 382, 383, 384, 385, 386, 387, 362, 363, 364, 365, 366, 367] (by decide +kernel) (by decide +kernel)
set_option maxRecDepth 20000 in
theorem gL_acts_L_mark : GoodIn wsL_acts (va_wsS RL 26 yL_mark wsL_mark) := goodIn_app (goodIn_of _ (by decide +kernel)) ggL_acts_L_mark
set_option maxRecDepth 20000 in
theorem ggL_acts_X5_account : GoodIn wsL_acts wsX5_account := goodIn_r _ [54, 9, 55, 56, 57, 13, 58, 59, 60, 33, 34, 35, 36, 16, 61, 62, 63, 64, 15, 28, 24, 25, 26, 27, 29, 30, 31, 32, 65, 66, 67, 68, 69, 70, 71, 72, 73, 353, 354, 355, 356, 357, 358, 359, 360, 361, 368, 369, 370, 371, 372, 373, 374, 375, 376, 377, 378, 379, 380, 381, 382, 383, 384, 385, 386, 387] (by decide +kernel) (by decide +kernel)
set_option maxRecDepth 20000 in
theorem gL_acts_X5_account : GoodIn wsL_acts (wsV RL 13 RX5 yX5_account wsX5_account) := goodIn_app (goodIn_of _ (by decide +kernel)) ggL_acts_X5_account
set_option maxRecDepth 20000 in
theorem ggL_acts_X5_weekly : GoodIn wsL_acts wsX5_weekly := goodIn_r _ [99, 9, 100, 101, 5, 102, 103, 62, 63, 13, 64, 15, 28, 24, 25, 26, 27, 29, 30, 31, 32, 65, 66, 67, 68, 69, 70, 71, 72, 73, 353, 354, 355, 356, 357, 358, 359, 360, 361, 368, 369, 370, 371, 372, 373, 374, 375, 376, 377, 378, 379, 380] (by decide +kernel) (by decide +kernel)
set_option maxRecDepth 20000 in
theorem gL_acts_X5_weekly : GoodIn wsL_acts (wsV RL 75 RX5 yX5_weekly wsX5_weekly) := goodIn_app (goodIn_of _ (by decide +kernel)) ggL_acts_X5_weekly
set_option maxRecDepth 20000 in
theorem ggL_acts_L_up : GoodIn wsL_acts wsL_up := goodIn_r _ [106, 107] (by decide +kernel) (by decide +kernel)
set_option maxRecDepth 20000 in
theorem gL_acts_L_up : GoodIn wsL_acts (va_wsS RL 91 yL_up wsL_up) := goodIn_app (goodIn_of _ (by decide +kernel)) ggL_acts_L_up
set_option maxRecDepth 20000 in
theorem ggL_acts_L_act_0 : ∀ w ∈ ([Cond.code yL_act cL_act 8 (some .int)] : List Cond), w ∈ wsL_acts := List.forall_mem_singleton.mpr (List.mem_of_getElem? (i := 110) rfl)
set_option maxRecDepth 20000 in
theorem ggL_acts_L_act_1 : ∀ w ∈ ([Cond.methodLink RL 19 yX5_count, Cond.instanceMethod yX5_count, Cond.selects RX5 yX5_count yX5_count, Cond.initialized RX5, Cond.code yX5_count cX5_count 2 (some .int), Cond.fieldLink RX5 112 "PickSlots" "states" "I", Cond.fieldLink RX5 18 "PickSlots" "text" "LPickSlots$OrderText;", Cond.fieldLink RX5 33 "PickSlots" "now" "LPickSlots$Warehouse;", Cond.methodLink RX5 119 yX4_numberOfWarehouse, Cond.instanceMethod yX4_numberOfWarehouse, Cond.selects RX4 yX4_numberOfWarehouse yX4_numberOfWarehouse, Cond.initialized RX4, Cond.code yX4_numberOfWarehouse cX4_numberOfWarehouse 2 (some .int), Cond.fieldLink RX4 59 "PickSlots$Warehouse" "goods" "I", Cond.fieldLink RX4 63 "PickSlots$Warehouse" "week" "I", Cond.fieldLink RX4 24 "PickSlots$Warehouse" "unitsInSlot" "[I", Cond.fieldLink RX4 27 "PickSlots$Warehouse" "unitsInStore" "[I", Cond.fieldLink RX4 41 "PickSlots$Warehouse" "settings" "[I", Cond.methodLink RX4 191 yX4_placedGoods, Cond.instanceMethod yX4_placedGoods, Cond.selects RX4 yX4_placedGoods yX4_placedGoods, Cond.code yX4_placedGoods cX4_placedGoods 4 (some .int), Cond.methodLink RX4 100 yX4_isPlaced, Cond.instanceMethod yX4_isPlaced] : List Cond), w ∈ wsL_acts := fun w h => (goodIn_r (big := wsL_acts) [Cond.methodLink RL 19 yX5_count, Cond.instanceMethod yX5_count, Cond.selects RX5 yX5_count yX5_count, Cond.initialized RX5, Cond.code yX5_count cX5_count 2 (some .int), Cond.fieldLink RX5 112 "PickSlots" "states" "I", Cond.fieldLink RX5 18 "PickSlots" "text" "LPickSlots$OrderText;", Cond.fieldLink RX5 33 "PickSlots" "now" "LPickSlots$Warehouse;", Cond.methodLink RX5 119 yX4_numberOfWarehouse, Cond.instanceMethod yX4_numberOfWarehouse, Cond.selects RX4 yX4_numberOfWarehouse yX4_numberOfWarehouse, Cond.initialized RX4, Cond.code yX4_numberOfWarehouse cX4_numberOfWarehouse 2 (some .int), Cond.fieldLink RX4 59 "PickSlots$Warehouse" "goods" "I", Cond.fieldLink RX4 63 "PickSlots$Warehouse" "week" "I", Cond.fieldLink RX4 24 "PickSlots$Warehouse" "unitsInSlot" "[I", Cond.fieldLink RX4 27 "PickSlots$Warehouse" "unitsInStore" "[I", Cond.fieldLink RX4 41 "PickSlots$Warehouse" "settings" "[I", Cond.methodLink RX4 191 yX4_placedGoods, Cond.instanceMethod yX4_placedGoods, Cond.selects RX4 yX4_placedGoods yX4_placedGoods, Cond.code yX4_placedGoods cX4_placedGoods 4 (some .int), Cond.methodLink RX4 100 yX4_isPlaced, Cond.instanceMethod yX4_isPlaced] [2, 3, 4, 5, 6, 7, 8, 9, 10, 11, 12, 13, 14, 15, 16, 17, 18, 19, 20, 21, 22, 23, 24, 25] (by decide +kernel) (by decide +kernel) w h).1
set_option maxRecDepth 20000 in
theorem ggL_acts_L_act_2 : ∀ w ∈ ([Cond.selects RX4 yX4_isPlaced yX4_isPlaced, Cond.code yX4_isPlaced cX4_isPlaced 2 (some .boolean), Cond.fieldLink RX4 21 "PickSlots$Warehouse" "slotOfGood" "[I", Cond.methodLink RX4 78 yX2_isSlot, Cond.static yX2_isSlot, Cond.initialized RX2, Cond.code yX2_isSlot cX2_isSlot 1 (some .boolean), Cond.methodLink RX4 138 yX4_presentSeason, Cond.instanceMethod yX4_presentSeason, Cond.selects RX4 yX4_presentSeason yX4_presentSeason, Cond.code yX4_presentSeason cX4_presentSeason 1 (some .int), Cond.methodLink RX4 164 yX4_weeksLeft, Cond.instanceMethod yX4_weeksLeft, Cond.selects RX4 yX4_weeksLeft yX4_weeksLeft, Cond.code yX4_weeksLeft cX4_weeksLeft 1 (some .int), Cond.methodLink RX4 195 yX4_sumOf, Cond.instanceMethod yX4_sumOf, Cond.selects RX4 yX4_sumOf yX4_sumOf, Cond.code yX4_sumOf cX4_sumOf 4 (some .int), Cond.methodLink RL 91 yL_up, Cond.static yL_up, Cond.initialized RL, Cond.code yL_up cL_up 2 (some .int), Cond.constant RL 8 (2147483647)] : List Cond), w ∈ wsL_acts := fun w h => (goodIn_r (big := wsL_acts) [Cond.selects RX4 yX4_isPlaced yX4_isPlaced, Cond.code yX4_isPlaced cX4_isPlaced 2 (some .boolean), Cond.fieldLink RX4 21 "PickSlots$Warehouse" "slotOfGood" "[I", Cond.methodLink RX4 78 yX2_isSlot, Cond.static yX2_isSlot, Cond.initialized RX2, Cond.code yX2_isSlot cX2_isSlot 1 (some .boolean), Cond.methodLink RX4 138 yX4_presentSeason, Cond.instanceMethod yX4_presentSeason, Cond.selects RX4 yX4_presentSeason yX4_presentSeason, Cond.code yX4_presentSeason cX4_presentSeason 1 (some .int), Cond.methodLink RX4 164 yX4_weeksLeft, Cond.instanceMethod yX4_weeksLeft, Cond.selects RX4 yX4_weeksLeft yX4_weeksLeft, Cond.code yX4_weeksLeft cX4_weeksLeft 1 (some .int), Cond.methodLink RX4 195 yX4_sumOf, Cond.instanceMethod yX4_sumOf, Cond.selects RX4 yX4_sumOf yX4_sumOf, Cond.code yX4_sumOf cX4_sumOf 4 (some .int), Cond.methodLink RL 91 yL_up, Cond.static yL_up, Cond.initialized RL, Cond.code yL_up cL_up 2 (some .int), Cond.constant RL 8 (2147483647)] [26, 27, 28, 29, 30, 31, 32, 33, 34, 35, 36, 37, 38, 39, 40, 41, 42, 43, 44, 104, 105, 47, 106, 107] (by decide +kernel) (by decide +kernel) w h).1
set_option maxRecDepth 20000 in
theorem ggL_acts_L_act_3 : ∀ w ∈ ([Cond.methodLink RL 54 yX5_pick, Cond.instanceMethod yX5_pick, Cond.selects RX5 yX5_pick yX5_pick, Cond.code yX5_pick cX5_pick 3 (some .int), Cond.fieldLink RX5 37 "PickSlots" "trial" "LPickSlots$Warehouse;", Cond.methodLink RX5 40 yX5_startTrial, Cond.instanceMethod yX5_startTrial, Cond.selects RX5 yX5_startTrial yX5_startTrial, Cond.code yX5_startTrial cX5_startTrial 1 none, Cond.methodLink RX5 137 yX4_copyFrom, Cond.instanceMethod yX4_copyFrom, Cond.selects RX4 yX4_copyFrom yX4_copyFrom, Cond.code yX4_copyFrom cX4_copyFrom 2 none, Cond.fieldLink RX4 9 "PickSlots$Warehouse" "weights" "[I", Cond.fieldLink RX4 15 "PickSlots$Warehouse" "capacities" "[I", Cond.fieldLink RX4 18 "PickSlots$Warehouse" "seasonDemands" "[I", Cond.fieldLink RX4 30 "PickSlots$Warehouse" "weekPicks" "[I", Cond.fieldLink RX4 33 "PickSlots$Warehouse" "unitsPicked" "[I", Cond.fieldLink RX4 38 "PickSlots$Warehouse" "goodInSlot" "[I", Cond.fieldLink RX4 47 "PickSlots$Warehouse" "accounts" "LPickSlots$Accounts;", Cond.methodLink RX4 51 yX4_copyRow, Cond.static yX4_copyRow, Cond.code yX4_copyRow cX4_copyRow 2 none, Cond.methodLink RX4 66 Lib.Math.min.name] : List Cond), w ∈ wsL_acts := fun w h => (goodIn_r (big := wsL_acts) [Cond.methodLink RL 54 yX5_pick, Cond.instanceMethod yX5_pick, Cond.selects RX5 yX5_pick yX5_pick, Cond.code yX5_pick cX5_pick 3 (some .int), Cond.fieldLink RX5 37 "PickSlots" "trial" "LPickSlots$Warehouse;", Cond.methodLink RX5 40 yX5_startTrial, Cond.instanceMethod yX5_startTrial, Cond.selects RX5 yX5_startTrial yX5_startTrial, Cond.code yX5_startTrial cX5_startTrial 1 none, Cond.methodLink RX5 137 yX4_copyFrom, Cond.instanceMethod yX4_copyFrom, Cond.selects RX4 yX4_copyFrom yX4_copyFrom, Cond.code yX4_copyFrom cX4_copyFrom 2 none, Cond.fieldLink RX4 9 "PickSlots$Warehouse" "weights" "[I", Cond.fieldLink RX4 15 "PickSlots$Warehouse" "capacities" "[I", Cond.fieldLink RX4 18 "PickSlots$Warehouse" "seasonDemands" "[I", Cond.fieldLink RX4 30 "PickSlots$Warehouse" "weekPicks" "[I", Cond.fieldLink RX4 33 "PickSlots$Warehouse" "unitsPicked" "[I", Cond.fieldLink RX4 38 "PickSlots$Warehouse" "goodInSlot" "[I", Cond.fieldLink RX4 47 "PickSlots$Warehouse" "accounts" "LPickSlots$Accounts;", Cond.methodLink RX4 51 yX4_copyRow, Cond.static yX4_copyRow, Cond.code yX4_copyRow cX4_copyRow 2 none, Cond.methodLink RX4 66 Lib.Math.min.name] [111, 112, 113, 114, 115, 116, 117, 118, 119, 120, 121, 122, 123, 82, 83, 69, 84, 85, 124, 59, 125, 126, 127, 128] (by decide +kernel) (by decide +kernel) w h).1
set_option maxRecDepth 20000 in
theorem ggL_acts_L_act_4 : ∀ w ∈ ([Cond.static Lib.Math.min.name, Cond.initialized "java/lang/Math", Cond.code Lib.Math.min.name Lib.Math.min.code 2 (some .int), Cond.methodLink RX4 72 arraycopyName, Cond.native arraycopyName, Cond.static arraycopyName, Cond.initialized "java/lang/System", Cond.methodLink RX4 55 yX0_copyFrom, Cond.instanceMethod yX0_copyFrom, Cond.selects RX0 yX0_copyFrom yX0_copyFrom, Cond.initialized RX0, Cond.code yX0_copyFrom cX0_copyFrom 2 none, Cond.fieldLink RX0 7 "PickSlots$Accounts" "pickWalk" "I", Cond.fieldLink RX0 13 "PickSlots$Accounts" "refillWalk" "I", Cond.fieldLink RX0 16 "PickSlots$Accounts" "moveWalk" "I", Cond.fieldLink RX0 19 "PickSlots$Accounts" "trips" "I", Cond.fieldLink RX0 22 "PickSlots$Accounts" "saved" "I", Cond.fieldLink RX0 25 "PickSlots$Accounts" "moves" "I", Cond.fieldLink RX0 28 "PickSlots$Accounts" "picks" "I", Cond.methodLink RX5 73 yX4_pickUnits, Cond.instanceMethod yX4_pickUnits, Cond.selects RX4 yX4_pickUnits yX4_pickUnits, Cond.code yX4_pickUnits cX4_pickUnits 6 (some .int), Cond.methodLink RX4 90 yX4_isGood] : List Cond), w ∈ wsL_acts := fun w h => (goodIn_r (big := wsL_acts) [Cond.static Lib.Math.min.name, Cond.initialized "java/lang/Math", Cond.code Lib.Math.min.name Lib.Math.min.code 2 (some .int), Cond.methodLink RX4 72 arraycopyName, Cond.native arraycopyName, Cond.static arraycopyName, Cond.initialized "java/lang/System", Cond.methodLink RX4 55 yX0_copyFrom, Cond.instanceMethod yX0_copyFrom, Cond.selects RX0 yX0_copyFrom yX0_copyFrom, Cond.initialized RX0, Cond.code yX0_copyFrom cX0_copyFrom 2 none, Cond.fieldLink RX0 7 "PickSlots$Accounts" "pickWalk" "I", Cond.fieldLink RX0 13 "PickSlots$Accounts" "refillWalk" "I", Cond.fieldLink RX0 16 "PickSlots$Accounts" "moveWalk" "I", Cond.fieldLink RX0 19 "PickSlots$Accounts" "trips" "I", Cond.fieldLink RX0 22 "PickSlots$Accounts" "saved" "I", Cond.fieldLink RX0 25 "PickSlots$Accounts" "moves" "I", Cond.fieldLink RX0 28 "PickSlots$Accounts" "picks" "I", Cond.methodLink RX5 73 yX4_pickUnits, Cond.instanceMethod yX4_pickUnits, Cond.selects RX4 yX4_pickUnits yX4_pickUnits, Cond.code yX4_pickUnits cX4_pickUnits 6 (some .int), Cond.methodLink RX4 90 yX4_isGood] [129, 130, 131, 132, 133, 134, 135, 136, 137, 138, 139, 140, 141, 142, 143, 144, 145, 146, 147, 148, 149, 150, 151, 86] (by decide +kernel) (by decide +kernel) w h).1
set_option maxRecDepth 20000 in
theorem ggL_acts_L_act_5 : ∀ w ∈ ([Cond.instanceMethod yX4_isGood, Cond.selects RX4 yX4_isGood yX4_isGood, Cond.code yX4_isGood cX4_isGood 2 (some .boolean), Cond.static yX5_isIn, Cond.code yX5_isIn cX5_isIn 3 (some .boolean), Cond.methodLink RX4 117 yX4_unitsToBring, Cond.instanceMethod yX4_unitsToBring, Cond.selects RX4 yX4_unitsToBring yX4_unitsToBring, Cond.code yX4_unitsToBring cX4_unitsToBring 2 (some .int), Cond.methodLink RX4 120 yX4_bring, Cond.instanceMethod yX4_bring, Cond.selects RX4 yX4_bring yX4_bring, Cond.code yX4_bring cX4_bring 5 (some .int), Cond.methodLink RX4 129 yX4_tripsFor, Cond.instanceMethod yX4_tripsFor, Cond.selects RX4 yX4_tripsFor yX4_tripsFor, Cond.code yX4_tripsFor cX4_tripsFor 3 (some .int), Cond.methodLink RX4 111 yX2_walkTo, Cond.static yX2_walkTo, Cond.code yX2_walkTo cX2_walkTo 1 (some .int), Cond.fieldLink RX2 9 "PickSlots$Slots" "REACHES" "[I", Cond.methodLink RX5 47 yX5_endTrial, Cond.instanceMethod yX5_endTrial, Cond.selects RX5 yX5_endTrial yX5_endTrial] : List Cond), w ∈ wsL_acts := fun w h => (goodIn_r (big := wsL_acts) [Cond.instanceMethod yX4_isGood, Cond.selects RX4 yX4_isGood yX4_isGood, Cond.code yX4_isGood cX4_isGood 2 (some .boolean), Cond.static yX5_isIn, Cond.code yX5_isIn cX5_isIn 3 (some .boolean), Cond.methodLink RX4 117 yX4_unitsToBring, Cond.instanceMethod yX4_unitsToBring, Cond.selects RX4 yX4_unitsToBring yX4_unitsToBring, Cond.code yX4_unitsToBring cX4_unitsToBring 2 (some .int), Cond.methodLink RX4 120 yX4_bring, Cond.instanceMethod yX4_bring, Cond.selects RX4 yX4_bring yX4_bring, Cond.code yX4_bring cX4_bring 5 (some .int), Cond.methodLink RX4 129 yX4_tripsFor, Cond.instanceMethod yX4_tripsFor, Cond.selects RX4 yX4_tripsFor yX4_tripsFor, Cond.code yX4_tripsFor cX4_tripsFor 3 (some .int), Cond.methodLink RX4 111 yX2_walkTo, Cond.static yX2_walkTo, Cond.code yX2_walkTo cX2_walkTo 1 (some .int), Cond.fieldLink RX2 9 "PickSlots$Slots" "REACHES" "[I", Cond.methodLink RX5 47 yX5_endTrial, Cond.instanceMethod yX5_endTrial, Cond.selects RX5 yX5_endTrial yX5_endTrial] [87, 88, 89, 90, 91, 152, 153, 154, 155, 156, 157, 158, 159, 160, 161, 162, 163, 70, 71, 72, 73, 164, 165, 166] (by decide +kernel) (by decide +kernel) w h).1
set_option maxRecDepth 20000 in
theorem ggL_acts_L_act_6 : ∀ w ∈ ([Cond.code yX5_endTrial cX5_endTrial 2 (some .int), Cond.methodLink RX5 141 yX5_keepTrial, Cond.instanceMethod yX5_keepTrial, Cond.selects RX5 yX5_keepTrial yX5_keepTrial, Cond.code yX5_keepTrial cX5_keepTrial 2 none, Cond.fieldLink RX5 11 "PickSlots" "history" "[LPickSlots$Warehouse;", Cond.methodLink RX5 144 yX5_dropOldestState, Cond.instanceMethod yX5_dropOldestState, Cond.selects RX5 yX5_dropOldestState yX5_dropOldestState, Cond.code yX5_dropOldestState cX5_dropOldestState 3 none, Cond.methodLink RL 57 yX5_refill, Cond.instanceMethod yX5_refill, Cond.selects RX5 yX5_refill yX5_refill, Cond.code yX5_refill cX5_refill 2 (some .int), Cond.methodLink RX5 76 yX4_refillSlot, Cond.instanceMethod yX4_refillSlot, Cond.selects RX4 yX4_refillSlot yX4_refillSlot, Cond.code yX4_refillSlot cX4_refillSlot 3 (some .int), Cond.methodLink RL 94 yX5_endWeek, Cond.instanceMethod yX5_endWeek, Cond.selects RX5 yX5_endWeek yX5_endWeek, Cond.code yX5_endWeek cX5_endWeek 1 (some .int), Cond.methodLink RX5 79 yX4_finishWeek, Cond.instanceMethod yX4_finishWeek] : List Cond), w ∈ wsL_acts := fun w h => (goodIn_r (big := wsL_acts) [Cond.code yX5_endTrial cX5_endTrial 2 (some .int), Cond.methodLink RX5 141 yX5_keepTrial, Cond.instanceMethod yX5_keepTrial, Cond.selects RX5 yX5_keepTrial yX5_keepTrial, Cond.code yX5_keepTrial cX5_keepTrial 2 none, Cond.fieldLink RX5 11 "PickSlots" "history" "[LPickSlots$Warehouse;", Cond.methodLink RX5 144 yX5_dropOldestState, Cond.instanceMethod yX5_dropOldestState, Cond.selects RX5 yX5_dropOldestState yX5_dropOldestState, Cond.code yX5_dropOldestState cX5_dropOldestState 3 none, Cond.methodLink RL 57 yX5_refill, Cond.instanceMethod yX5_refill, Cond.selects RX5 yX5_refill yX5_refill, Cond.code yX5_refill cX5_refill 2 (some .int), Cond.methodLink RX5 76 yX4_refillSlot, Cond.instanceMethod yX4_refillSlot, Cond.selects RX4 yX4_refillSlot yX4_refillSlot, Cond.code yX4_refillSlot cX4_refillSlot 3 (some .int), Cond.methodLink RL 94 yX5_endWeek, Cond.instanceMethod yX5_endWeek, Cond.selects RX5 yX5_endWeek yX5_endWeek, Cond.code yX5_endWeek cX5_endWeek 1 (some .int), Cond.methodLink RX5 79 yX4_finishWeek, Cond.instanceMethod yX4_finishWeek] [167, 168, 169, 170, 171, 172, 173, 174, 175, 176, 177, 178, 179, 180, 181, 182, 183, 184, 185, 186, 187, 188, 189, 190] (by decide +kernel) (by decide +kernel) w h).1
set_option maxRecDepth 20000 in
theorem ggL_acts_L_act_7 : ∀ w ∈ ([Cond.selects RX4 yX4_finishWeek yX4_finishWeek, Cond.code yX4_finishWeek cX4_finishWeek 4 (some .int), Cond.methodLink RX4 96 yX4_demandOf, Cond.instanceMethod yX4_demandOf, Cond.selects RX4 yX4_demandOf yX4_demandOf, Cond.code yX4_demandOf cX4_demandOf 3 (some .int), Cond.methodLink RL 60 yX5_move, Cond.instanceMethod yX5_move, Cond.selects RX5 yX5_move yX5_move, Cond.code yX5_move cX5_move 3 (some .int), Cond.methodLink RX5 83 yX4_moveGood, Cond.instanceMethod yX4_moveGood, Cond.selects RX4 yX4_moveGood yX4_moveGood, Cond.code yX4_moveGood cX4_moveGood 3 (some .int), Cond.constant RX4 145 (100000000), Cond.methodLink RX4 142 yX4_canGo, Cond.instanceMethod yX4_canGo, Cond.selects RX4 yX4_canGo yX4_canGo, Cond.code yX4_canGo cX4_canGo 5 (some .boolean), Cond.methodLink RX4 103 yX4_bears, Cond.instanceMethod yX4_bears, Cond.selects RX4 yX4_bears yX4_bears, Cond.code yX4_bears cX4_bears 3 (some .boolean), Cond.methodLink RX4 82 yX2_heaviestAt] : List Cond), w ∈ wsL_acts := fun w h => (goodIn_r (big := wsL_acts) [Cond.selects RX4 yX4_finishWeek yX4_finishWeek, Cond.code yX4_finishWeek cX4_finishWeek 4 (some .int), Cond.methodLink RX4 96 yX4_demandOf, Cond.instanceMethod yX4_demandOf, Cond.selects RX4 yX4_demandOf yX4_demandOf, Cond.code yX4_demandOf cX4_demandOf 3 (some .int), Cond.methodLink RL 60 yX5_move, Cond.instanceMethod yX5_move, Cond.selects RX5 yX5_move yX5_move, Cond.code yX5_move cX5_move 3 (some .int), Cond.methodLink RX5 83 yX4_moveGood, Cond.instanceMethod yX4_moveGood, Cond.selects RX4 yX4_moveGood yX4_moveGood, Cond.code yX4_moveGood cX4_moveGood 3 (some .int), Cond.constant RX4 145 (100000000), Cond.methodLink RX4 142 yX4_canGo, Cond.instanceMethod yX4_canGo, Cond.selects RX4 yX4_canGo yX4_canGo, Cond.code yX4_canGo cX4_canGo 5 (some .boolean), Cond.methodLink RX4 103 yX4_bears, Cond.instanceMethod yX4_bears, Cond.selects RX4 yX4_bears yX4_bears, Cond.code yX4_bears cX4_bears 3 (some .boolean), Cond.methodLink RX4 82 yX2_heaviestAt] [191, 192, 65, 66, 67, 68, 193, 194, 195, 196, 197, 198, 199, 200, 60, 201, 202, 203, 204, 205, 206, 207, 208, 209] (by decide +kernel) (by decide +kernel) w h).1
set_option maxRecDepth 20000 in
theorem ggL_acts_L_act_8 : ∀ w ∈ ([Cond.static yX2_heaviestAt, Cond.code yX2_heaviestAt cX2_heaviestAt 1 (some .int), Cond.fieldLink RX2 13 "PickSlots$Slots" "HEAVIEST" "[I", Cond.methodLink RX4 146 yX4_goTo, Cond.instanceMethod yX4_goTo, Cond.selects RX4 yX4_goTo yX4_goTo, Cond.code yX4_goTo cX4_goTo 6 (some .int), Cond.methodLink RX4 155 yX4_savedByGoing, Cond.instanceMethod yX4_savedByGoing, Cond.selects RX4 yX4_savedByGoing yX4_savedByGoing, Cond.code yX4_savedByGoing cX4_savedByGoing 5 (some .int), Cond.methodLink RX4 149 yX4_walkOfGoing, Cond.instanceMethod yX4_walkOfGoing, Cond.selects RX4 yX4_walkOfGoing yX4_walkOfGoing, Cond.code yX4_walkOfGoing cX4_walkOfGoing 6 (some .int), Cond.methodLink RX4 161 yX2_wayBetween, Cond.static yX2_wayBetween, Cond.code yX2_wayBetween cX2_wayBetween 3 (some .int), Cond.methodLink RX2 16 Lib.Math.abs.name, Cond.static Lib.Math.abs.name, Cond.code Lib.Math.abs.name Lib.Math.abs.code 1 (some .int), Cond.methodLink RX4 107 yX4_standIn, Cond.instanceMethod yX4_standIn, Cond.selects RX4 yX4_standIn yX4_standIn] : List Cond), w ∈ wsL_acts := fun w h => (goodIn_r (big := wsL_acts) [Cond.static yX2_heaviestAt, Cond.code yX2_heaviestAt cX2_heaviestAt 1 (some .int), Cond.fieldLink RX2 13 "PickSlots$Slots" "HEAVIEST" "[I", Cond.methodLink RX4 146 yX4_goTo, Cond.instanceMethod yX4_goTo, Cond.selects RX4 yX4_goTo yX4_goTo, Cond.code yX4_goTo cX4_goTo 6 (some .int), Cond.methodLink RX4 155 yX4_savedByGoing, Cond.instanceMethod yX4_savedByGoing, Cond.selects RX4 yX4_savedByGoing yX4_savedByGoing, Cond.code yX4_savedByGoing cX4_savedByGoing 5 (some .int), Cond.methodLink RX4 149 yX4_walkOfGoing, Cond.instanceMethod yX4_walkOfGoing, Cond.selects RX4 yX4_walkOfGoing yX4_walkOfGoing, Cond.code yX4_walkOfGoing cX4_walkOfGoing 6 (some .int), Cond.methodLink RX4 161 yX2_wayBetween, Cond.static yX2_wayBetween, Cond.code yX2_wayBetween cX2_wayBetween 3 (some .int), Cond.methodLink RX2 16 Lib.Math.abs.name, Cond.static Lib.Math.abs.name, Cond.code Lib.Math.abs.name Lib.Math.abs.code 1 (some .int), Cond.methodLink RX4 107 yX4_standIn, Cond.instanceMethod yX4_standIn, Cond.selects RX4 yX4_standIn yX4_standIn] [210, 211, 95, 212, 213, 214, 215, 216, 217, 218, 219, 220, 221, 222, 223, 224, 225, 226, 227, 228, 229, 230, 231, 232] (by decide +kernel) (by decide +kernel) w h).1
set_option maxRecDepth 20000 in
theorem ggL_acts_L_act_9 : ∀ w ∈ ([Cond.code yX4_standIn cX4_standIn 3 none, Cond.methodLink RL 63 yX5_exchange, Cond.instanceMethod yX5_exchange, Cond.selects RX5 yX5_exchange yX5_exchange, Cond.code yX5_exchange cX5_exchange 3 (some .int), Cond.methodLink RX5 86 yX4_exchangeGoods, Cond.instanceMethod yX4_exchangeGoods, Cond.selects RX4 yX4_exchangeGoods yX4_exchangeGoods, Cond.code yX4_exchangeGoods cX4_exchangeGoods 3 (some .int), Cond.methodLink RL 72 yX5_improve, Cond.instanceMethod yX5_improve, Cond.selects RX5 yX5_improve yX5_improve, Cond.code yX5_improve cX5_improve 2 (some .int), Cond.methodLink RX5 95 yX4_doBest, Cond.instanceMethod yX4_doBest, Cond.selects RX4 yX4_doBest yX4_doBest, Cond.code yX4_doBest cX4_doBest 4 (some .int), Cond.methodLink RX4 158 yX4_bestGoing, Cond.instanceMethod yX4_bestGoing, Cond.selects RX4 yX4_bestGoing yX4_bestGoing, Cond.code yX4_bestGoing cX4_bestGoing 5 (some .int), Cond.methodLink RX4 152 yX4_worthOfGoing, Cond.instanceMethod yX4_worthOfGoing, Cond.selects RX4 yX4_worthOfGoing yX4_worthOfGoing] : List Cond), w ∈ wsL_acts := fun w h => (goodIn_r (big := wsL_acts) [Cond.code yX4_standIn cX4_standIn 3 none, Cond.methodLink RL 63 yX5_exchange, Cond.instanceMethod yX5_exchange, Cond.selects RX5 yX5_exchange yX5_exchange, Cond.code yX5_exchange cX5_exchange 3 (some .int), Cond.methodLink RX5 86 yX4_exchangeGoods, Cond.instanceMethod yX4_exchangeGoods, Cond.selects RX4 yX4_exchangeGoods yX4_exchangeGoods, Cond.code yX4_exchangeGoods cX4_exchangeGoods 3 (some .int), Cond.methodLink RL 72 yX5_improve, Cond.instanceMethod yX5_improve, Cond.selects RX5 yX5_improve yX5_improve, Cond.code yX5_improve cX5_improve 2 (some .int), Cond.methodLink RX5 95 yX4_doBest, Cond.instanceMethod yX4_doBest, Cond.selects RX4 yX4_doBest yX4_doBest, Cond.code yX4_doBest cX4_doBest 4 (some .int), Cond.methodLink RX4 158 yX4_bestGoing, Cond.instanceMethod yX4_bestGoing, Cond.selects RX4 yX4_bestGoing yX4_bestGoing, Cond.code yX4_bestGoing cX4_bestGoing 5 (some .int), Cond.methodLink RX4 152 yX4_worthOfGoing, Cond.instanceMethod yX4_worthOfGoing, Cond.selects RX4 yX4_worthOfGoing yX4_worthOfGoing] [233, 234, 235, 236, 237, 238, 239, 240, 241, 242, 243, 244, 245, 246, 247, 248, 249, 250, 251, 252, 253, 254, 255, 256] (by decide +kernel) (by decide +kernel) w h).1
set_option maxRecDepth 20000 in
theorem ggL_acts_L_act_10 : ∀ w ∈ ([Cond.code yX4_worthOfGoing cX4_worthOfGoing 3 (some .int), Cond.methodLink RL 45 yX5_take, Cond.instanceMethod yX5_take, Cond.selects RX5 yX5_take yX5_take, Cond.code yX5_take cX5_take 2 (some .int), Cond.methodLink RX5 61 yX4_takeOutOfSlot, Cond.instanceMethod yX4_takeOutOfSlot, Cond.selects RX4 yX4_takeOutOfSlot yX4_takeOutOfSlot, Cond.code yX4_takeOutOfSlot cX4_takeOutOfSlot 3 (some .int), Cond.methodLink RL 35 yX5_demand, Cond.instanceMethod yX5_demand, Cond.selects RX5 yX5_demand yX5_demand, Cond.code yX5_demand cX5_demand 4 (some .int), Cond.methodLink RX5 51 yX4_changeDemand, Cond.instanceMethod yX4_changeDemand, Cond.selects RX4 yX4_changeDemand yX4_changeDemand, Cond.code yX4_changeDemand cX4_changeDemand 5 (some .int), Cond.static yX5_isSeason, Cond.code yX5_isSeason cX5_isSeason 1 (some .boolean), Cond.methodLink RL 81 yX5_set, Cond.instanceMethod yX5_set, Cond.selects RX5 yX5_set yX5_set, Cond.code yX5_set cX5_set 3 (some .int), Cond.methodLink RX5 122 yX4_changeSetting] : List Cond), w ∈ wsL_acts := fun w h => (goodIn_r (big := wsL_acts) [Cond.code yX4_worthOfGoing cX4_worthOfGoing 3 (some .int), Cond.methodLink RL 45 yX5_take, Cond.instanceMethod yX5_take, Cond.selects RX5 yX5_take yX5_take, Cond.code yX5_take cX5_take 2 (some .int), Cond.methodLink RX5 61 yX4_takeOutOfSlot, Cond.instanceMethod yX4_takeOutOfSlot, Cond.selects RX4 yX4_takeOutOfSlot yX4_takeOutOfSlot, Cond.code yX4_takeOutOfSlot cX4_takeOutOfSlot 3 (some .int), Cond.methodLink RL 35 yX5_demand, Cond.instanceMethod yX5_demand, Cond.selects RX5 yX5_demand yX5_demand, Cond.code yX5_demand cX5_demand 4 (some .int), Cond.methodLink RX5 51 yX4_changeDemand, Cond.instanceMethod yX4_changeDemand, Cond.selects RX4 yX4_changeDemand yX4_changeDemand, Cond.code yX4_changeDemand cX4_changeDemand 5 (some .int), Cond.static yX5_isSeason, Cond.code yX5_isSeason cX5_isSeason 1 (some .boolean), Cond.methodLink RL 81 yX5_set, Cond.instanceMethod yX5_set, Cond.selects RX5 yX5_set yX5_set, Cond.code yX5_set cX5_set 3 (some .int), Cond.methodLink RX5 122 yX4_changeSetting] [257, 258, 259, 260, 261, 262, 263, 264, 265, 266, 267, 268, 269, 270, 271, 272, 273, 101, 102, 274, 275, 276, 277, 278] (by decide +kernel) (by decide +kernel) w h).1
set_option maxRecDepth 20000 in
theorem ggL_acts_L_act_11 : ∀ w ∈ ([Cond.instanceMethod yX4_changeSetting, Cond.selects RX4 yX4_changeSetting yX4_changeSetting, Cond.code yX4_changeSetting cX4_changeSetting 4 (some .int), Cond.fieldLink RX4 199 "PickSlots$Warehouse" "LEAST_SETTINGS" "[I", Cond.fieldLink RX4 202 "PickSlots$Warehouse" "GREATEST_SETTINGS" "[I", Cond.methodLink RL 42 yX5_place, Cond.instanceMethod yX5_place, Cond.selects RX5 yX5_place yX5_place, Cond.code yX5_place cX5_place 3 (some .int), Cond.methodLink RX5 58 yX4_putIntoSlot, Cond.instanceMethod yX4_putIntoSlot, Cond.selects RX4 yX4_putIntoSlot yX4_putIntoSlot, Cond.code yX4_putIntoSlot cX4_putIntoSlot 3 (some .int), Cond.methodLink RL 39 yX5_deliver, Cond.instanceMethod yX5_deliver, Cond.selects RX5 yX5_deliver yX5_deliver, Cond.code yX5_deliver cX5_deliver 3 (some .int), Cond.methodLink RX5 55 yX4_addToStore, Cond.instanceMethod yX4_addToStore, Cond.selects RX4 yX4_addToStore yX4_addToStore, Cond.code yX4_addToStore cX4_addToStore 3 (some .int), Cond.constant RX4 99 (100000)] : List Cond), w ∈ wsL_acts := fun w h => (goodIn_r (big := wsL_acts) [Cond.instanceMethod yX4_changeSetting, Cond.selects RX4 yX4_changeSetting yX4_changeSetting, Cond.code yX4_changeSetting cX4_changeSetting 4 (some .int), Cond.fieldLink RX4 199 "PickSlots$Warehouse" "LEAST_SETTINGS" "[I", Cond.fieldLink RX4 202 "PickSlots$Warehouse" "GREATEST_SETTINGS" "[I", Cond.methodLink RL 42 yX5_place, Cond.instanceMethod yX5_place, Cond.selects RX5 yX5_place yX5_place, Cond.code yX5_place cX5_place 3 (some .int), Cond.methodLink RX5 58 yX4_putIntoSlot, Cond.instanceMethod yX4_putIntoSlot, Cond.selects RX4 yX4_putIntoSlot yX4_putIntoSlot, Cond.code yX4_putIntoSlot cX4_putIntoSlot 3 (some .int), Cond.methodLink RL 39 yX5_deliver, Cond.instanceMethod yX5_deliver, Cond.selects RX5 yX5_deliver yX5_deliver, Cond.code yX5_deliver cX5_deliver 3 (some .int), Cond.methodLink RX5 55 yX4_addToStore, Cond.instanceMethod yX4_addToStore, Cond.selects RX4 yX4_addToStore yX4_addToStore, Cond.code yX4_addToStore cX4_addToStore 3 (some .int), Cond.constant RX4 99 (100000)] [279, 280, 281, 282, 283, 284, 285, 286, 287, 288, 289, 290, 291, 292, 293, 294, 295, 296, 297, 298, 299, 300] (by decide +kernel) (by decide +kernel) w h).1
set_option maxRecDepth 20000 in
theorem ggL_acts_L_act_12 : ∀ w ∈ (wsX50 : List Cond), w ∈ wsL_acts := fun w h => (goodIn_r (big := wsL_acts) wsX50 [353, 354, 355, 356, 357, 358, 359, 360, 361] (by decide +kernel) (by decide +kernel) w h).1
set_option maxRecDepth 20000 in
theorem ggL_acts_L_act_13 : ∀ w ∈ (wsX10 : List Cond), w ∈ wsL_acts := fun w h => (goodIn_r (big := wsL_acts) wsX10 [362, 363, 364, 365, 366, 367] (by decide +kernel) (by decide +kernel) w h).1
set_option maxRecDepth 20000 in
theorem ggL_acts_L_act_14 : ∀ w ∈ (wsX40 : List Cond), w ∈ wsL_acts := fun w h => (goodIn_r (big := wsL_acts) wsX40 [368, 369, 370, 371, 372, 373, 374, 375, 376, 377, 378, 379, 380] (by decide +kernel) (by decide +kernel) w h).1
set_option maxRecDepth 20000 in
theorem ggL_acts_L_act_15 : ∀ w ∈ (wsX00 : List Cond), w ∈ wsL_acts := fun w h => (goodIn_r (big := wsL_acts) wsX00 [381, 382, 383, 384, 385, 386, 387] (by decide +kernel) (by decide +kernel) w h).1
set_option maxRecDepth 20000 in
theorem ggL_acts_L_act_m : ∀ w ∈ wsL_act, w ∈ wsL_acts := by
  show ∀ w ∈ (([Cond.code yL_act cL_act 8 (some .int)] : List Cond) ++ (([Cond.methodLink RL 19 yX5_count, Cond.instanceMethod yX5_count, Cond.selects RX5 yX5_count yX5_count, Cond.initialized RX5, Cond.code yX5_count cX5_count 2 (some .int), Cond.fieldLink RX5 112 "PickSlots" "states" "I", Cond.fieldLink RX5 18 "PickSlots" "text" "LPickSlots$OrderText;", Cond.fieldLink RX5 33 "PickSlots" "now" "LPickSlots$Warehouse;", Cond.methodLink RX5 119 yX4_numberOfWarehouse, Cond.instanceMethod yX4_numberOfWarehouse, Cond.selects RX4 yX4_numberOfWarehouse yX4_numberOfWarehouse, Cond.initialized RX4, Cond.code yX4_numberOfWarehouse cX4_numberOfWarehouse 2 (some .int), Cond.fieldLink RX4 59 "PickSlots$Warehouse" "goods" "I", Cond.fieldLink RX4 63 "PickSlots$Warehouse" "week" "I", Cond.fieldLink RX4 24 "PickSlots$Warehouse" "unitsInSlot" "[I", Cond.fieldLink RX4 27 "PickSlots$Warehouse" "unitsInStore" "[I", Cond.fieldLink RX4 41 "PickSlots$Warehouse" "settings" "[I", Cond.methodLink RX4 191 yX4_placedGoods, Cond.instanceMethod yX4_placedGoods, Cond.selects RX4 yX4_placedGoods yX4_placedGoods, Cond.code yX4_placedGoods cX4_placedGoods 4 (some .int), Cond.methodLink RX4 100 yX4_isPlaced, Cond.instanceMethod yX4_isPlaced] : List Cond) ++ (([Cond.selects RX4 yX4_isPlaced yX4_isPlaced, Cond.code yX4_isPlaced cX4_isPlaced 2 (some .boolean), Cond.fieldLink RX4 21 "PickSlots$Warehouse" "slotOfGood" "[I", Cond.methodLink RX4 78 yX2_isSlot, Cond.static yX2_isSlot, Cond.initialized RX2, Cond.code yX2_isSlot cX2_isSlot 1 (some .boolean), Cond.methodLink RX4 138 yX4_presentSeason, Cond.instanceMethod yX4_presentSeason, Cond.selects RX4 yX4_presentSeason yX4_presentSeason, Cond.code yX4_presentSeason cX4_presentSeason 1 (some .int), Cond.methodLink RX4 164 yX4_weeksLeft, Cond.instanceMethod yX4_weeksLeft, Cond.selects RX4 yX4_weeksLeft yX4_weeksLeft, Cond.code yX4_weeksLeft cX4_weeksLeft 1 (some .int), Cond.methodLink RX4 195 yX4_sumOf, Cond.instanceMethod yX4_sumOf, Cond.selects RX4 yX4_sumOf yX4_sumOf, Cond.code yX4_sumOf cX4_sumOf 4 (some .int), Cond.methodLink RL 91 yL_up, Cond.static yL_up, Cond.initialized RL, Cond.code yL_up cL_up 2 (some .int), Cond.constant RL 8 (2147483647)] : List Cond) ++ (([Cond.methodLink RL 54 yX5_pick, Cond.instanceMethod yX5_pick, Cond.selects RX5 yX5_pick yX5_pick, Cond.code yX5_pick cX5_pick 3 (some .int), Cond.fieldLink RX5 37 "PickSlots" "trial" "LPickSlots$Warehouse;", Cond.methodLink RX5 40 yX5_startTrial, Cond.instanceMethod yX5_startTrial, Cond.selects RX5 yX5_startTrial yX5_startTrial, Cond.code yX5_startTrial cX5_startTrial 1 none, Cond.methodLink RX5 137 yX4_copyFrom, Cond.instanceMethod yX4_copyFrom, Cond.selects RX4 yX4_copyFrom yX4_copyFrom, Cond.code yX4_copyFrom cX4_copyFrom 2 none, Cond.fieldLink RX4 9 "PickSlots$Warehouse" "weights" "[I", Cond.fieldLink RX4 15 "PickSlots$Warehouse" "capacities" "[I", Cond.fieldLink RX4 18 "PickSlots$Warehouse" "seasonDemands" "[I", Cond.fieldLink RX4 30 "PickSlots$Warehouse" "weekPicks" "[I", Cond.fieldLink RX4 33 "PickSlots$Warehouse" "unitsPicked" "[I", Cond.fieldLink RX4 38 "PickSlots$Warehouse" "goodInSlot" "[I", Cond.fieldLink RX4 47 "PickSlots$Warehouse" "accounts" "LPickSlots$Accounts;", Cond.methodLink RX4 51 yX4_copyRow, Cond.static yX4_copyRow, Cond.code yX4_copyRow cX4_copyRow 2 none, Cond.methodLink RX4 66 Lib.Math.min.name] : List Cond) ++ (([Cond.static Lib.Math.min.name, Cond.initialized "java/lang/Math", Cond.code Lib.Math.min.name Lib.Math.min.code 2 (some .int), Cond.methodLink RX4 72 arraycopyName, Cond.native arraycopyName, Cond.static arraycopyName, Cond.initialized "java/lang/System", Cond.methodLink RX4 55 yX0_copyFrom, Cond.instanceMethod yX0_copyFrom, Cond.selects RX0 yX0_copyFrom yX0_copyFrom, Cond.initialized RX0, Cond.code yX0_copyFrom cX0_copyFrom 2 none, Cond.fieldLink RX0 7 "PickSlots$Accounts" "pickWalk" "I", Cond.fieldLink RX0 13 "PickSlots$Accounts" "refillWalk" "I", Cond.fieldLink RX0 16 "PickSlots$Accounts" "moveWalk" "I", Cond.fieldLink RX0 19 "PickSlots$Accounts" "trips" "I", Cond.fieldLink RX0 22 "PickSlots$Accounts" "saved" "I", Cond.fieldLink RX0 25 "PickSlots$Accounts" "moves" "I", Cond.fieldLink RX0 28 "PickSlots$Accounts" "picks" "I", Cond.methodLink RX5 73 yX4_pickUnits, Cond.instanceMethod yX4_pickUnits, Cond.selects RX4 yX4_pickUnits yX4_pickUnits, Cond.code yX4_pickUnits cX4_pickUnits 6 (some .int), Cond.methodLink RX4 90 yX4_isGood] : List Cond) ++ (([Cond.instanceMethod yX4_isGood, Cond.selects RX4 yX4_isGood yX4_isGood, Cond.code yX4_isGood cX4_isGood 2 (some .boolean), Cond.static yX5_isIn, Cond.code yX5_isIn cX5_isIn 3 (some .boolean), Cond.methodLink RX4 117 yX4_unitsToBring, Cond.instanceMethod yX4_unitsToBring, Cond.selects RX4 yX4_unitsToBring yX4_unitsToBring, Cond.code yX4_unitsToBring cX4_unitsToBring 2 (some .int), Cond.methodLink RX4 120 yX4_bring, Cond.instanceMethod yX4_bring, Cond.selects RX4 yX4_bring yX4_bring, Cond.code yX4_bring cX4_bring 5 (some .int), Cond.methodLink RX4 129 yX4_tripsFor, Cond.instanceMethod yX4_tripsFor, Cond.selects RX4 yX4_tripsFor yX4_tripsFor, Cond.code yX4_tripsFor cX4_tripsFor 3 (some .int), Cond.methodLink RX4 111 yX2_walkTo, Cond.static yX2_walkTo, Cond.code yX2_walkTo cX2_walkTo 1 (some .int), Cond.fieldLink RX2 9 "PickSlots$Slots" "REACHES" "[I", Cond.methodLink RX5 47 yX5_endTrial, Cond.instanceMethod yX5_endTrial, Cond.selects RX5 yX5_endTrial yX5_endTrial] : List Cond) ++ (([Cond.code yX5_endTrial cX5_endTrial 2 (some .int), Cond.methodLink RX5 141 yX5_keepTrial, Cond.instanceMethod yX5_keepTrial, Cond.selects RX5 yX5_keepTrial yX5_keepTrial, Cond.code yX5_keepTrial cX5_keepTrial 2 none, Cond.fieldLink RX5 11 "PickSlots" "history" "[LPickSlots$Warehouse;", Cond.methodLink RX5 144 yX5_dropOldestState, Cond.instanceMethod yX5_dropOldestState, Cond.selects RX5 yX5_dropOldestState yX5_dropOldestState, Cond.code yX5_dropOldestState cX5_dropOldestState 3 none, Cond.methodLink RL 57 yX5_refill, Cond.instanceMethod yX5_refill, Cond.selects RX5 yX5_refill yX5_refill, Cond.code yX5_refill cX5_refill 2 (some .int), Cond.methodLink RX5 76 yX4_refillSlot, Cond.instanceMethod yX4_refillSlot, Cond.selects RX4 yX4_refillSlot yX4_refillSlot, Cond.code yX4_refillSlot cX4_refillSlot 3 (some .int), Cond.methodLink RL 94 yX5_endWeek, Cond.instanceMethod yX5_endWeek, Cond.selects RX5 yX5_endWeek yX5_endWeek, Cond.code yX5_endWeek cX5_endWeek 1 (some .int), Cond.methodLink RX5 79 yX4_finishWeek, Cond.instanceMethod yX4_finishWeek] : List Cond) ++ (([Cond.selects RX4 yX4_finishWeek yX4_finishWeek, Cond.code yX4_finishWeek cX4_finishWeek 4 (some .int), Cond.methodLink RX4 96 yX4_demandOf, Cond.instanceMethod yX4_demandOf, Cond.selects RX4 yX4_demandOf yX4_demandOf, Cond.code yX4_demandOf cX4_demandOf 3 (some .int), Cond.methodLink RL 60 yX5_move, Cond.instanceMethod yX5_move, Cond.selects RX5 yX5_move yX5_move, Cond.code yX5_move cX5_move 3 (some .int), Cond.methodLink RX5 83 yX4_moveGood, Cond.instanceMethod yX4_moveGood, Cond.selects RX4 yX4_moveGood yX4_moveGood, Cond.code yX4_moveGood cX4_moveGood 3 (some .int), Cond.constant RX4 145 (100000000), Cond.methodLink RX4 142 yX4_canGo, Cond.instanceMethod yX4_canGo, Cond.selects RX4 yX4_canGo yX4_canGo, Cond.code yX4_canGo cX4_canGo 5 (some .boolean), Cond.methodLink RX4 103 yX4_bears, Cond.instanceMethod yX4_bears, Cond.selects RX4 yX4_bears yX4_bears, Cond.code yX4_bears cX4_bears 3 (some .boolean), Cond.methodLink RX4 82 yX2_heaviestAt] : List Cond) ++ (([Cond.static yX2_heaviestAt, Cond.code yX2_heaviestAt cX2_heaviestAt 1 (some .int), Cond.fieldLink RX2 13 "PickSlots$Slots" "HEAVIEST" "[I", Cond.methodLink RX4 146 yX4_goTo, Cond.instanceMethod yX4_goTo, Cond.selects RX4 yX4_goTo yX4_goTo, Cond.code yX4_goTo cX4_goTo 6 (some .int), Cond.methodLink RX4 155 yX4_savedByGoing, Cond.instanceMethod yX4_savedByGoing, Cond.selects RX4 yX4_savedByGoing yX4_savedByGoing, Cond.code yX4_savedByGoing cX4_savedByGoing 5 (some .int), Cond.methodLink RX4 149 yX4_walkOfGoing, Cond.instanceMethod yX4_walkOfGoing, Cond.selects RX4 yX4_walkOfGoing yX4_walkOfGoing, Cond.code yX4_walkOfGoing cX4_walkOfGoing 6 (some .int), Cond.methodLink RX4 161 yX2_wayBetween, Cond.static yX2_wayBetween, Cond.code yX2_wayBetween cX2_wayBetween 3 (some .int), Cond.methodLink RX2 16 Lib.Math.abs.name, Cond.static Lib.Math.abs.name, Cond.code Lib.Math.abs.name Lib.Math.abs.code 1 (some .int), Cond.methodLink RX4 107 yX4_standIn, Cond.instanceMethod yX4_standIn, Cond.selects RX4 yX4_standIn yX4_standIn] : List Cond) ++ (([Cond.code yX4_standIn cX4_standIn 3 none, Cond.methodLink RL 63 yX5_exchange, Cond.instanceMethod yX5_exchange, Cond.selects RX5 yX5_exchange yX5_exchange, Cond.code yX5_exchange cX5_exchange 3 (some .int), Cond.methodLink RX5 86 yX4_exchangeGoods, Cond.instanceMethod yX4_exchangeGoods, Cond.selects RX4 yX4_exchangeGoods yX4_exchangeGoods, Cond.code yX4_exchangeGoods cX4_exchangeGoods 3 (some .int), Cond.methodLink RL 72 yX5_improve, Cond.instanceMethod yX5_improve, Cond.selects RX5 yX5_improve yX5_improve, Cond.code yX5_improve cX5_improve 2 (some .int), Cond.methodLink RX5 95 yX4_doBest, Cond.instanceMethod yX4_doBest, Cond.selects RX4 yX4_doBest yX4_doBest, Cond.code yX4_doBest cX4_doBest 4 (some .int), Cond.methodLink RX4 158 yX4_bestGoing, Cond.instanceMethod yX4_bestGoing, Cond.selects RX4 yX4_bestGoing yX4_bestGoing, Cond.code yX4_bestGoing cX4_bestGoing 5 (some .int), Cond.methodLink RX4 152 yX4_worthOfGoing, Cond.instanceMethod yX4_worthOfGoing, Cond.selects RX4 yX4_worthOfGoing yX4_worthOfGoing] : List Cond) ++ (([Cond.code yX4_worthOfGoing cX4_worthOfGoing 3 (some .int), Cond.methodLink RL 45 yX5_take, Cond.instanceMethod yX5_take, Cond.selects RX5 yX5_take yX5_take, Cond.code yX5_take cX5_take 2 (some .int), Cond.methodLink RX5 61 yX4_takeOutOfSlot, Cond.instanceMethod yX4_takeOutOfSlot, Cond.selects RX4 yX4_takeOutOfSlot yX4_takeOutOfSlot, Cond.code yX4_takeOutOfSlot cX4_takeOutOfSlot 3 (some .int), Cond.methodLink RL 35 yX5_demand, Cond.instanceMethod yX5_demand, Cond.selects RX5 yX5_demand yX5_demand, Cond.code yX5_demand cX5_demand 4 (some .int), Cond.methodLink RX5 51 yX4_changeDemand, Cond.instanceMethod yX4_changeDemand, Cond.selects RX4 yX4_changeDemand yX4_changeDemand, Cond.code yX4_changeDemand cX4_changeDemand 5 (some .int), Cond.static yX5_isSeason, Cond.code yX5_isSeason cX5_isSeason 1 (some .boolean), Cond.methodLink RL 81 yX5_set, Cond.instanceMethod yX5_set, Cond.selects RX5 yX5_set yX5_set, Cond.code yX5_set cX5_set 3 (some .int), Cond.methodLink RX5 122 yX4_changeSetting] : List Cond) ++ (([Cond.instanceMethod yX4_changeSetting, Cond.selects RX4 yX4_changeSetting yX4_changeSetting, Cond.code yX4_changeSetting cX4_changeSetting 4 (some .int), Cond.fieldLink RX4 199 "PickSlots$Warehouse" "LEAST_SETTINGS" "[I", Cond.fieldLink RX4 202 "PickSlots$Warehouse" "GREATEST_SETTINGS" "[I", Cond.methodLink RL 42 yX5_place, Cond.instanceMethod yX5_place, Cond.selects RX5 yX5_place yX5_place, Cond.code yX5_place cX5_place 3 (some .int), Cond.methodLink RX5 58 yX4_putIntoSlot, Cond.instanceMethod yX4_putIntoSlot, Cond.selects RX4 yX4_putIntoSlot yX4_putIntoSlot, Cond.code yX4_putIntoSlot cX4_putIntoSlot 3 (some .int), Cond.methodLink RL 39 yX5_deliver, Cond.instanceMethod yX5_deliver, Cond.selects RX5 yX5_deliver yX5_deliver, Cond.code yX5_deliver cX5_deliver 3 (some .int), Cond.methodLink RX5 55 yX4_addToStore, Cond.instanceMethod yX4_addToStore, Cond.selects RX4 yX4_addToStore yX4_addToStore, Cond.code yX4_addToStore cX4_addToStore 3 (some .int), Cond.constant RX4 99 (100000)] : List Cond) ++ ((wsX50 : List Cond) ++ ((wsX10 : List Cond) ++ ((wsX40 : List Cond) ++ ((wsX00 : List Cond))))))))))))))))), w ∈ wsL_acts
  exact mem_app ggL_acts_L_act_0 (mem_app ggL_acts_L_act_1 (mem_app ggL_acts_L_act_2 (mem_app ggL_acts_L_act_3 (mem_app ggL_acts_L_act_4 (mem_app ggL_acts_L_act_5 (mem_app ggL_acts_L_act_6 (mem_app ggL_acts_L_act_7 (mem_app ggL_acts_L_act_8 (mem_app ggL_acts_L_act_9 (mem_app ggL_acts_L_act_10 (mem_app ggL_acts_L_act_11 (mem_app ggL_acts_L_act_12 (mem_app ggL_acts_L_act_13 (mem_app ggL_acts_L_act_14 (ggL_acts_L_act_15)))))))))))))))
set_option maxRecDepth 20000 in
theorem ggL_acts_L_act : GoodIn wsL_acts wsL_act := goodIn_sub ggL_acts_L_act_m (by decide +kernel)
set_option maxRecDepth 20000 in
theorem gL_acts_L_act : GoodIn wsL_acts (va_wsS RL 98 yL_act wsL_act) := goodIn_app (goodIn_of _ (by decide +kernel)) ggL_acts_L_act
set_option maxRecDepth 20000 in
theorem ggL_acts_L_sound_0 : ∀ w ∈ ([Cond.code yL_sound cL_sound 13 (some .boolean)] : List Cond), w ∈ wsL_acts := List.forall_mem_singleton.mpr (List.mem_of_getElem? (i := 303) rfl)
set_option maxRecDepth 20000 in
theorem ggL_acts_L_sound_1 : ∀ w ∈ ([Cond.methodLink RL 19 yX5_count, Cond.instanceMethod yX5_count, Cond.selects RX5 yX5_count yX5_count, Cond.initialized RX5, Cond.code yX5_count cX5_count 2 (some .int), Cond.fieldLink RX5 112 "PickSlots" "states" "I", Cond.fieldLink RX5 18 "PickSlots" "text" "LPickSlots$OrderText;", Cond.fieldLink RX5 33 "PickSlots" "now" "LPickSlots$Warehouse;", Cond.methodLink RX5 119 yX4_numberOfWarehouse, Cond.instanceMethod yX4_numberOfWarehouse, Cond.selects RX4 yX4_numberOfWarehouse yX4_numberOfWarehouse, Cond.initialized RX4, Cond.code yX4_numberOfWarehouse cX4_numberOfWarehouse 2 (some .int), Cond.fieldLink RX4 59 "PickSlots$Warehouse" "goods" "I", Cond.fieldLink RX4 63 "PickSlots$Warehouse" "week" "I", Cond.fieldLink RX4 24 "PickSlots$Warehouse" "unitsInSlot" "[I", Cond.fieldLink RX4 27 "PickSlots$Warehouse" "unitsInStore" "[I", Cond.fieldLink RX4 41 "PickSlots$Warehouse" "settings" "[I", Cond.methodLink RX4 191 yX4_placedGoods, Cond.instanceMethod yX4_placedGoods, Cond.selects RX4 yX4_placedGoods yX4_placedGoods, Cond.code yX4_placedGoods cX4_placedGoods 4 (some .int), Cond.methodLink RX4 100 yX4_isPlaced, Cond.instanceMethod yX4_isPlaced] : List Cond), w ∈ wsL_acts := fun w h => (goodIn_r (big := wsL_acts) [Cond.methodLink RL 19 yX5_count, Cond.instanceMethod yX5_count, Cond.selects RX5 yX5_count yX5_count, Cond.initialized RX5, Cond.code yX5_count cX5_count 2 (some .int), Cond.fieldLink RX5 112 "PickSlots" "states" "I", Cond.fieldLink RX5 18 "PickSlots" "text" "LPickSlots$OrderText;", Cond.fieldLink RX5 33 "PickSlots" "now" "LPickSlots$Warehouse;", Cond.methodLink RX5 119 yX4_numberOfWarehouse, Cond.instanceMethod yX4_numberOfWarehouse, Cond.selects RX4 yX4_numberOfWarehouse yX4_numberOfWarehouse, Cond.initialized RX4, Cond.code yX4_numberOfWarehouse cX4_numberOfWarehouse 2 (some .int), Cond.fieldLink RX4 59 "PickSlots$Warehouse" "goods" "I", Cond.fieldLink RX4 63 "PickSlots$Warehouse" "week" "I", Cond.fieldLink RX4 24 "PickSlots$Warehouse" "unitsInSlot" "[I", Cond.fieldLink RX4 27 "PickSlots$Warehouse" "unitsInStore" "[I", Cond.fieldLink RX4 41 "PickSlots$Warehouse" "settings" "[I", Cond.methodLink RX4 191 yX4_placedGoods, Cond.instanceMethod yX4_placedGoods, Cond.selects RX4 yX4_placedGoods yX4_placedGoods, Cond.code yX4_placedGoods cX4_placedGoods 4 (some .int), Cond.methodLink RX4 100 yX4_isPlaced, Cond.instanceMethod yX4_isPlaced] [2, 3, 4, 5, 6, 7, 8, 9, 10, 11, 12, 13, 14, 15, 16, 17, 18, 19, 20, 21, 22, 23, 24, 25] (by decide +kernel) (by decide +kernel) w h).1
set_option maxRecDepth 20000 in
theorem ggL_acts_L_sound_2 : ∀ w ∈ ([Cond.selects RX4 yX4_isPlaced yX4_isPlaced, Cond.code yX4_isPlaced cX4_isPlaced 2 (some .boolean), Cond.fieldLink RX4 21 "PickSlots$Warehouse" "slotOfGood" "[I", Cond.methodLink RX4 78 yX2_isSlot, Cond.static yX2_isSlot, Cond.initialized RX2, Cond.code yX2_isSlot cX2_isSlot 1 (some .boolean), Cond.methodLink RX4 138 yX4_presentSeason, Cond.instanceMethod yX4_presentSeason, Cond.selects RX4 yX4_presentSeason yX4_presentSeason, Cond.code yX4_presentSeason cX4_presentSeason 1 (some .int), Cond.methodLink RX4 164 yX4_weeksLeft, Cond.instanceMethod yX4_weeksLeft, Cond.selects RX4 yX4_weeksLeft yX4_weeksLeft, Cond.code yX4_weeksLeft cX4_weeksLeft 1 (some .int), Cond.methodLink RX4 195 yX4_sumOf, Cond.instanceMethod yX4_sumOf, Cond.selects RX4 yX4_sumOf yX4_sumOf, Cond.code yX4_sumOf cX4_sumOf 4 (some .int), Cond.methodLink RL 22 yX5_goodOf, Cond.instanceMethod yX5_goodOf, Cond.selects RX5 yX5_goodOf yX5_goodOf, Cond.code yX5_goodOf cX5_goodOf 3 (some .int), Cond.methodLink RX5 64 yX4_numberOfGood] : List Cond), w ∈ wsL_acts := fun w h => (goodIn_r (big := wsL_acts) [Cond.selects RX4 yX4_isPlaced yX4_isPlaced, Cond.code yX4_isPlaced cX4_isPlaced 2 (some .boolean), Cond.fieldLink RX4 21 "PickSlots$Warehouse" "slotOfGood" "[I", Cond.methodLink RX4 78 yX2_isSlot, Cond.static yX2_isSlot, Cond.initialized RX2, Cond.code yX2_isSlot cX2_isSlot 1 (some .boolean), Cond.methodLink RX4 138 yX4_presentSeason, Cond.instanceMethod yX4_presentSeason, Cond.selects RX4 yX4_presentSeason yX4_presentSeason, Cond.code yX4_presentSeason cX4_presentSeason 1 (some .int), Cond.methodLink RX4 164 yX4_weeksLeft, Cond.instanceMethod yX4_weeksLeft, Cond.selects RX4 yX4_weeksLeft yX4_weeksLeft, Cond.code yX4_weeksLeft cX4_weeksLeft 1 (some .int), Cond.methodLink RX4 195 yX4_sumOf, Cond.instanceMethod yX4_sumOf, Cond.selects RX4 yX4_sumOf yX4_sumOf, Cond.code yX4_sumOf cX4_sumOf 4 (some .int), Cond.methodLink RL 22 yX5_goodOf, Cond.instanceMethod yX5_goodOf, Cond.selects RX5 yX5_goodOf yX5_goodOf, Cond.code yX5_goodOf cX5_goodOf 3 (some .int), Cond.methodLink RX5 64 yX4_numberOfGood] [26, 27, 28, 29, 30, 31, 32, 33, 34, 35, 36, 37, 38, 39, 40, 41, 42, 43, 44, 74, 75, 76, 77, 78] (by decide +kernel) (by decide +kernel) w h).1
set_option maxRecDepth 20000 in
theorem ggL_acts_L_sound_3 : ∀ w ∈ ([Cond.instanceMethod yX4_numberOfGood, Cond.selects RX4 yX4_numberOfGood yX4_numberOfGood, Cond.code yX4_numberOfGood cX4_numberOfGood 3 (some .int), Cond.fieldLink RX4 9 "PickSlots$Warehouse" "weights" "[I", Cond.fieldLink RX4 15 "PickSlots$Warehouse" "capacities" "[I", Cond.fieldLink RX4 30 "PickSlots$Warehouse" "weekPicks" "[I", Cond.fieldLink RX4 33 "PickSlots$Warehouse" "unitsPicked" "[I", Cond.methodLink RX4 90 yX4_isGood, Cond.instanceMethod yX4_isGood, Cond.selects RX4 yX4_isGood yX4_isGood, Cond.code yX4_isGood cX4_isGood 2 (some .boolean), Cond.static yX5_isIn, Cond.code yX5_isIn cX5_isIn 3 (some .boolean), Cond.methodLink RX4 114 yX2_greatestHeightFor, Cond.static yX2_greatestHeightFor, Cond.code yX2_greatestHeightFor cX2_greatestHeightFor 3 (some .int), Cond.fieldLink RX2 13 "PickSlots$Slots" "HEAVIEST" "[I", Cond.methodLink RX4 96 yX4_demandOf, Cond.instanceMethod yX4_demandOf, Cond.selects RX4 yX4_demandOf yX4_demandOf, Cond.code yX4_demandOf cX4_demandOf 3 (some .int), Cond.fieldLink RX4 18 "PickSlots$Warehouse" "seasonDemands" "[I", Cond.methodLink RL 48 yX5_slotOf, Cond.instanceMethod yX5_slotOf] : List Cond), w ∈ wsL_acts := fun w h => (goodIn_r (big := wsL_acts) [Cond.instanceMethod yX4_numberOfGood, Cond.selects RX4 yX4_numberOfGood yX4_numberOfGood, Cond.code yX4_numberOfGood cX4_numberOfGood 3 (some .int), Cond.fieldLink RX4 9 "PickSlots$Warehouse" "weights" "[I", Cond.fieldLink RX4 15 "PickSlots$Warehouse" "capacities" "[I", Cond.fieldLink RX4 30 "PickSlots$Warehouse" "weekPicks" "[I", Cond.fieldLink RX4 33 "PickSlots$Warehouse" "unitsPicked" "[I", Cond.methodLink RX4 90 yX4_isGood, Cond.instanceMethod yX4_isGood, Cond.selects RX4 yX4_isGood yX4_isGood, Cond.code yX4_isGood cX4_isGood 2 (some .boolean), Cond.static yX5_isIn, Cond.code yX5_isIn cX5_isIn 3 (some .boolean), Cond.methodLink RX4 114 yX2_greatestHeightFor, Cond.static yX2_greatestHeightFor, Cond.code yX2_greatestHeightFor cX2_greatestHeightFor 3 (some .int), Cond.fieldLink RX2 13 "PickSlots$Slots" "HEAVIEST" "[I", Cond.methodLink RX4 96 yX4_demandOf, Cond.instanceMethod yX4_demandOf, Cond.selects RX4 yX4_demandOf yX4_demandOf, Cond.code yX4_demandOf cX4_demandOf 3 (some .int), Cond.fieldLink RX4 18 "PickSlots$Warehouse" "seasonDemands" "[I", Cond.methodLink RL 48 yX5_slotOf, Cond.instanceMethod yX5_slotOf] [79, 80, 81, 82, 83, 84, 85, 86, 87, 88, 89, 90, 91, 92, 93, 94, 95, 65, 66, 67, 68, 69, 304, 305] (by decide +kernel) (by decide +kernel) w h).1
set_option maxRecDepth 20000 in
theorem ggL_acts_L_sound_4 : ∀ w ∈ ([Cond.selects RX5 yX5_slotOf yX5_slotOf, Cond.code yX5_slotOf cX5_slotOf 3 (some .int), Cond.methodLink RX5 67 yX4_numberOfSlot, Cond.instanceMethod yX4_numberOfSlot, Cond.selects RX4 yX4_numberOfSlot yX4_numberOfSlot, Cond.code yX4_numberOfSlot cX4_numberOfSlot 3 (some .int), Cond.fieldLink RX4 38 "PickSlots$Warehouse" "goodInSlot" "[I", Cond.methodLink RX4 111 yX2_walkTo, Cond.static yX2_walkTo, Cond.code yX2_walkTo cX2_walkTo 1 (some .int), Cond.fieldLink RX2 9 "PickSlots$Slots" "REACHES" "[I", Cond.methodLink RX4 82 yX2_heaviestAt, Cond.static yX2_heaviestAt, Cond.code yX2_heaviestAt cX2_heaviestAt 1 (some .int), Cond.methodLink RL 51 yX5_nearest, Cond.instanceMethod yX5_nearest, Cond.selects RX5 yX5_nearest yX5_nearest, Cond.code yX5_nearest cX5_nearest 2 (some .int), Cond.methodLink RX5 70 yX4_nearestFreeSlot, Cond.instanceMethod yX4_nearestFreeSlot, Cond.selects RX4 yX4_nearestFreeSlot yX4_nearestFreeSlot, Cond.code yX4_nearestFreeSlot cX4_nearestFreeSlot 5 (some .int), Cond.methodLink RX4 103 yX4_bears, Cond.instanceMethod yX4_bears] : List Cond), w ∈ wsL_acts := fun w h => (goodIn_r (big := wsL_acts) [Cond.selects RX5 yX5_slotOf yX5_slotOf, Cond.code yX5_slotOf cX5_slotOf 3 (some .int), Cond.methodLink RX5 67 yX4_numberOfSlot, Cond.instanceMethod yX4_numberOfSlot, Cond.selects RX4 yX4_numberOfSlot yX4_numberOfSlot, Cond.code yX4_numberOfSlot cX4_numberOfSlot 3 (some .int), Cond.fieldLink RX4 38 "PickSlots$Warehouse" "goodInSlot" "[I", Cond.methodLink RX4 111 yX2_walkTo, Cond.static yX2_walkTo, Cond.code yX2_walkTo cX2_walkTo 1 (some .int), Cond.fieldLink RX2 9 "PickSlots$Slots" "REACHES" "[I", Cond.methodLink RX4 82 yX2_heaviestAt, Cond.static yX2_heaviestAt, Cond.code yX2_heaviestAt cX2_heaviestAt 1 (some .int), Cond.methodLink RL 51 yX5_nearest, Cond.instanceMethod yX5_nearest, Cond.selects RX5 yX5_nearest yX5_nearest, Cond.code yX5_nearest cX5_nearest 2 (some .int), Cond.methodLink RX5 70 yX4_nearestFreeSlot, Cond.instanceMethod yX4_nearestFreeSlot, Cond.selects RX4 yX4_nearestFreeSlot yX4_nearestFreeSlot, Cond.code yX4_nearestFreeSlot cX4_nearestFreeSlot 5 (some .int), Cond.methodLink RX4 103 yX4_bears, Cond.instanceMethod yX4_bears] [306, 307, 308, 309, 310, 311, 124, 70, 71, 72, 73, 209, 210, 211, 312, 313, 314, 315, 316, 317, 318, 319, 205, 206] (by decide +kernel) (by decide +kernel) w h).1
set_option maxRecDepth 20000 in
theorem ggL_acts_L_sound_5 : ∀ w ∈ ([Cond.selects RX4 yX4_bears yX4_bears, Cond.code yX4_bears cX4_bears 3 (some .boolean), Cond.methodLink RL 78 yX5_atBest, Cond.instanceMethod yX5_atBest, Cond.selects RX5 yX5_atBest yX5_atBest, Cond.code yX5_atBest cX5_atBest 2 (some .int), Cond.fieldLink RX5 25 "PickSlots" "demands" "LPickSlots$SortedRow;", Cond.fieldLink RX5 29 "PickSlots" "walks" "LPickSlots$SortedRow;", Cond.methodLink RX5 98 yX5_isSeason, Cond.static yX5_isSeason, Cond.code yX5_isSeason cX5_isSeason 1 (some .boolean), Cond.methodLink RX5 105 yX4_shortestWalk, Cond.instanceMethod yX4_shortestWalk, Cond.selects RX4 yX4_shortestWalk yX4_shortestWalk, Cond.code yX4_shortestWalk cX4_shortestWalk 6 (some .int), Cond.methodLink RX4 181 yX3_insert, Cond.instanceMethod yX3_insert, Cond.selects RX3 yX3_insert yX3_insert, Cond.initialized RX3, Cond.code yX3_insert cX3_insert 3 none, Cond.fieldLink RX3 15 "PickSlots$SortedRow" "size" "I", Cond.fieldLink RX3 9 "PickSlots$SortedRow" "values" "[I", Cond.methodLink RX4 185 yX3_valueAt, Cond.instanceMethod yX3_valueAt] : List Cond), w ∈ wsL_acts := fun w h => (goodIn_r (big := wsL_acts) [Cond.selects RX4 yX4_bears yX4_bears, Cond.code yX4_bears cX4_bears 3 (some .boolean), Cond.methodLink RL 78 yX5_atBest, Cond.instanceMethod yX5_atBest, Cond.selects RX5 yX5_atBest yX5_atBest, Cond.code yX5_atBest cX5_atBest 2 (some .int), Cond.fieldLink RX5 25 "PickSlots" "demands" "LPickSlots$SortedRow;", Cond.fieldLink RX5 29 "PickSlots" "walks" "LPickSlots$SortedRow;", Cond.methodLink RX5 98 yX5_isSeason, Cond.static yX5_isSeason, Cond.code yX5_isSeason cX5_isSeason 1 (some .boolean), Cond.methodLink RX5 105 yX4_shortestWalk, Cond.instanceMethod yX4_shortestWalk, Cond.selects RX4 yX4_shortestWalk yX4_shortestWalk, Cond.code yX4_shortestWalk cX4_shortestWalk 6 (some .int), Cond.methodLink RX4 181 yX3_insert, Cond.instanceMethod yX3_insert, Cond.selects RX3 yX3_insert yX3_insert, Cond.initialized RX3, Cond.code yX3_insert cX3_insert 3 none, Cond.fieldLink RX3 15 "PickSlots$SortedRow" "size" "I", Cond.fieldLink RX3 9 "PickSlots$SortedRow" "values" "[I", Cond.methodLink RX4 185 yX3_valueAt, Cond.instanceMethod yX3_valueAt] [207, 208, 320, 321, 322, 323, 324, 325, 100, 101, 102, 326, 327, 328, 329, 330, 331, 332, 333, 334, 335, 336, 337, 338] (by decide +kernel) (by decide +kernel) w h).1
set_option maxRecDepth 20000 in
theorem ggL_acts_L_sound_6 : ∀ w ∈ ([Cond.selects RX3 yX3_valueAt yX3_valueAt, Cond.code yX3_valueAt cX3_valueAt 2 (some .int), Cond.methodLink RL 75 yX5_weekly, Cond.instanceMethod yX5_weekly, Cond.selects RX5 yX5_weekly yX5_weekly, Cond.code yX5_weekly cX5_weekly 2 (some .int), Cond.methodLink RX5 102 yX4_weeklyWalk, Cond.instanceMethod yX4_weeklyWalk, Cond.selects RX4 yX4_weeklyWalk yX4_weeklyWalk, Cond.code yX4_weeklyWalk cX4_weeklyWalk 4 (some .int), Cond.methodLink RL 13 yX5_account, Cond.instanceMethod yX5_account, Cond.selects RX5 yX5_account yX5_account, Cond.code yX5_account cX5_account 2 (some .int), Cond.methodLink RX5 109 yX4_numberOfAccount, Cond.instanceMethod yX4_numberOfAccount, Cond.selects RX4 yX4_numberOfAccount yX4_numberOfAccount, Cond.code yX4_numberOfAccount cX4_numberOfAccount 2 (some .int), Cond.fieldLink RX4 47 "PickSlots$Warehouse" "accounts" "LPickSlots$Accounts;", Cond.constant RX4 145 (100000000), Cond.methodLink RX4 188 yX4_weeklyWalk] : List Cond), w ∈ wsL_acts := fun w h => (goodIn_r (big := wsL_acts) [Cond.selects RX3 yX3_valueAt yX3_valueAt, Cond.code yX3_valueAt cX3_valueAt 2 (some .int), Cond.methodLink RL 75 yX5_weekly, Cond.instanceMethod yX5_weekly, Cond.selects RX5 yX5_weekly yX5_weekly, Cond.code yX5_weekly cX5_weekly 2 (some .int), Cond.methodLink RX5 102 yX4_weeklyWalk, Cond.instanceMethod yX4_weeklyWalk, Cond.selects RX4 yX4_weeklyWalk yX4_weeklyWalk, Cond.code yX4_weeklyWalk cX4_weeklyWalk 4 (some .int), Cond.methodLink RL 13 yX5_account, Cond.instanceMethod yX5_account, Cond.selects RX5 yX5_account yX5_account, Cond.code yX5_account cX5_account 2 (some .int), Cond.methodLink RX5 109 yX4_numberOfAccount, Cond.instanceMethod yX4_numberOfAccount, Cond.selects RX4 yX4_numberOfAccount yX4_numberOfAccount, Cond.code yX4_numberOfAccount cX4_numberOfAccount 2 (some .int), Cond.fieldLink RX4 47 "PickSlots$Warehouse" "accounts" "LPickSlots$Accounts;", Cond.constant RX4 145 (100000000), Cond.methodLink RX4 188 yX4_weeklyWalk] [339, 340, 96, 97, 98, 99, 103, 62, 63, 64, 51, 52, 53, 54, 55, 56, 57, 58, 59, 60, 61] (by decide +kernel) (by decide +kernel) w h).1
set_option maxRecDepth 20000 in
theorem ggL_acts_L_sound_7 : ∀ w ∈ (wsX50 : List Cond), w ∈ wsL_acts := fun w h => (goodIn_r (big := wsL_acts) wsX50 [353, 354, 355, 356, 357, 358, 359, 360, 361] (by decide +kernel) (by decide +kernel) w h).1
set_option maxRecDepth 20000 in
theorem ggL_acts_L_sound_8 : ∀ w ∈ (wsX10 : List Cond), w ∈ wsL_acts := fun w h => (goodIn_r (big := wsL_acts) wsX10 [362, 363, 364, 365, 366, 367] (by decide +kernel) (by decide +kernel) w h).1
set_option maxRecDepth 20000 in
theorem ggL_acts_L_sound_9 : ∀ w ∈ (wsX40 : List Cond), w ∈ wsL_acts := fun w h => (goodIn_r (big := wsL_acts) wsX40 [368, 369, 370, 371, 372, 373, 374, 375, 376, 377, 378, 379, 380] (by decide +kernel) (by decide +kernel) w h).1
set_option maxRecDepth 20000 in
theorem ggL_acts_L_sound_10 : ∀ w ∈ (wsX30 : List Cond), w ∈ wsL_acts := fun w h => (goodIn_r (big := wsL_acts) wsX30 [388, 389] (by decide +kernel) (by decide +kernel) w h).1
set_option maxRecDepth 20000 in
theorem ggL_acts_L_sound_11 : ∀ w ∈ (wsX00 : List Cond), w ∈ wsL_acts := fun w h => (goodIn_r (big := wsL_acts) wsX00 [381, 382, 383, 384, 385, 386, 387] (by decide +kernel) (by decide +kernel) w h).1
set_option maxRecDepth 20000 in
theorem ggL_acts_L_sound_m : ∀ w ∈ wsL_sound, w ∈ wsL_acts := by
  show ∀ w ∈ (([Cond.code yL_sound cL_sound 13 (some .boolean)] : List Cond) ++ (([Cond.methodLink RL 19 yX5_count, Cond.instanceMethod yX5_count, Cond.selects RX5 yX5_count yX5_count, Cond.initialized RX5, Cond.code yX5_count cX5_count 2 (some .int), Cond.fieldLink RX5 112 "PickSlots" "states" "I", Cond.fieldLink RX5 18 "PickSlots" "text" "LPickSlots$OrderText;", Cond.fieldLink RX5 33 "PickSlots" "now" "LPickSlots$Warehouse;", Cond.methodLink RX5 119 yX4_numberOfWarehouse, Cond.instanceMethod yX4_numberOfWarehouse, Cond.selects RX4 yX4_numberOfWarehouse yX4_numberOfWarehouse, Cond.initialized RX4, Cond.code yX4_numberOfWarehouse cX4_numberOfWarehouse 2 (some .int), Cond.fieldLink RX4 59 "PickSlots$Warehouse" "goods" "I", Cond.fieldLink RX4 63 "PickSlots$Warehouse" "week" "I", Cond.fieldLink RX4 24 "PickSlots$Warehouse" "unitsInSlot" "[I", Cond.fieldLink RX4 27 "PickSlots$Warehouse" "unitsInStore" "[I", Cond.fieldLink RX4 41 "PickSlots$Warehouse" "settings" "[I", Cond.methodLink RX4 191 yX4_placedGoods, Cond.instanceMethod yX4_placedGoods, Cond.selects RX4 yX4_placedGoods yX4_placedGoods, Cond.code yX4_placedGoods cX4_placedGoods 4 (some .int), Cond.methodLink RX4 100 yX4_isPlaced, Cond.instanceMethod yX4_isPlaced] : List Cond) ++ (([Cond.selects RX4 yX4_isPlaced yX4_isPlaced, Cond.code yX4_isPlaced cX4_isPlaced 2 (some .boolean), Cond.fieldLink RX4 21 "PickSlots$Warehouse" "slotOfGood" "[I", Cond.methodLink RX4 78 yX2_isSlot, Cond.static yX2_isSlot, Cond.initialized RX2, Cond.code yX2_isSlot cX2_isSlot 1 (some .boolean), Cond.methodLink RX4 138 yX4_presentSeason, Cond.instanceMethod yX4_presentSeason, Cond.selects RX4 yX4_presentSeason yX4_presentSeason, Cond.code yX4_presentSeason cX4_presentSeason 1 (some .int), Cond.methodLink RX4 164 yX4_weeksLeft, Cond.instanceMethod yX4_weeksLeft, Cond.selects RX4 yX4_weeksLeft yX4_weeksLeft, Cond.code yX4_weeksLeft cX4_weeksLeft 1 (some .int), Cond.methodLink RX4 195 yX4_sumOf, Cond.instanceMethod yX4_sumOf, Cond.selects RX4 yX4_sumOf yX4_sumOf, Cond.code yX4_sumOf cX4_sumOf 4 (some .int), Cond.methodLink RL 22 yX5_goodOf, Cond.instanceMethod yX5_goodOf, Cond.selects RX5 yX5_goodOf yX5_goodOf, Cond.code yX5_goodOf cX5_goodOf 3 (some .int), Cond.methodLink RX5 64 yX4_numberOfGood] : List Cond) ++ (([Cond.instanceMethod yX4_numberOfGood, Cond.selects RX4 yX4_numberOfGood yX4_numberOfGood, Cond.code yX4_numberOfGood cX4_numberOfGood 3 (some .int), Cond.fieldLink RX4 9 "PickSlots$Warehouse" "weights" "[I", Cond.fieldLink RX4 15 "PickSlots$Warehouse" "capacities" "[I", Cond.fieldLink RX4 30 "PickSlots$Warehouse" "weekPicks" "[I", Cond.fieldLink RX4 33 "PickSlots$Warehouse" "unitsPicked" "[I", Cond.methodLink RX4 90 yX4_isGood, Cond.instanceMethod yX4_isGood, Cond.selects RX4 yX4_isGood yX4_isGood, Cond.code yX4_isGood cX4_isGood 2 (some .boolean), Cond.static yX5_isIn, Cond.code yX5_isIn cX5_isIn 3 (some .boolean), Cond.methodLink RX4 114 yX2_greatestHeightFor, Cond.static yX2_greatestHeightFor, Cond.code yX2_greatestHeightFor cX2_greatestHeightFor 3 (some .int), Cond.fieldLink RX2 13 "PickSlots$Slots" "HEAVIEST" "[I", Cond.methodLink RX4 96 yX4_demandOf, Cond.instanceMethod yX4_demandOf, Cond.selects RX4 yX4_demandOf yX4_demandOf, Cond.code yX4_demandOf cX4_demandOf 3 (some .int), Cond.fieldLink RX4 18 "PickSlots$Warehouse" "seasonDemands" "[I", Cond.methodLink RL 48 yX5_slotOf, Cond.instanceMethod yX5_slotOf] : List Cond) ++ (([Cond.selects RX5 yX5_slotOf yX5_slotOf, Cond.code yX5_slotOf cX5_slotOf 3 (some .int), Cond.methodLink RX5 67 yX4_numberOfSlot, Cond.instanceMethod yX4_numberOfSlot, Cond.selects RX4 yX4_numberOfSlot yX4_numberOfSlot, Cond.code yX4_numberOfSlot cX4_numberOfSlot 3 (some .int), Cond.fieldLink RX4 38 "PickSlots$Warehouse" "goodInSlot" "[I", Cond.methodLink RX4 111 yX2_walkTo, Cond.static yX2_walkTo, Cond.code yX2_walkTo cX2_walkTo 1 (some .int), Cond.fieldLink RX2 9 "PickSlots$Slots" "REACHES" "[I", Cond.methodLink RX4 82 yX2_heaviestAt, Cond.static yX2_heaviestAt, Cond.code yX2_heaviestAt cX2_heaviestAt 1 (some .int), Cond.methodLink RL 51 yX5_nearest, Cond.instanceMethod yX5_nearest, Cond.selects RX5 yX5_nearest yX5_nearest, Cond.code yX5_nearest cX5_nearest 2 (some .int), Cond.methodLink RX5 70 yX4_nearestFreeSlot, Cond.instanceMethod yX4_nearestFreeSlot, Cond.selects RX4 yX4_nearestFreeSlot yX4_nearestFreeSlot, Cond.code yX4_nearestFreeSlot cX4_nearestFreeSlot 5 (some .int), Cond.methodLink RX4 103 yX4_bears, Cond.instanceMethod yX4_bears] : List Cond) ++ (([Cond.selects RX4 yX4_bears yX4_bears, Cond.code yX4_bears cX4_bears 3 (some .boolean), Cond.methodLink RL 78 yX5_atBest, Cond.instanceMethod yX5_atBest, Cond.selects RX5 yX5_atBest yX5_atBest, Cond.code yX5_atBest cX5_atBest 2 (some .int), Cond.fieldLink RX5 25 "PickSlots" "demands" "LPickSlots$SortedRow;", Cond.fieldLink RX5 29 "PickSlots" "walks" "LPickSlots$SortedRow;", Cond.methodLink RX5 98 yX5_isSeason, Cond.static yX5_isSeason, Cond.code yX5_isSeason cX5_isSeason 1 (some .boolean), Cond.methodLink RX5 105 yX4_shortestWalk, Cond.instanceMethod yX4_shortestWalk, Cond.selects RX4 yX4_shortestWalk yX4_shortestWalk, Cond.code yX4_shortestWalk cX4_shortestWalk 6 (some .int), Cond.methodLink RX4 181 yX3_insert, Cond.instanceMethod yX3_insert, Cond.selects RX3 yX3_insert yX3_insert, Cond.initialized RX3, Cond.code yX3_insert cX3_insert 3 none, Cond.fieldLink RX3 15 "PickSlots$SortedRow" "size" "I", Cond.fieldLink RX3 9 "PickSlots$SortedRow" "values" "[I", Cond.methodLink RX4 185 yX3_valueAt, Cond.instanceMethod yX3_valueAt] : List Cond) ++ (([Cond.selects RX3 yX3_valueAt yX3_valueAt, Cond.code yX3_valueAt cX3_valueAt 2 (some .int), Cond.methodLink RL 75 yX5_weekly, Cond.instanceMethod yX5_weekly, Cond.selects RX5 yX5_weekly yX5_weekly, Cond.code yX5_weekly cX5_weekly 2 (some .int), Cond.methodLink RX5 102 yX4_weeklyWalk, Cond.instanceMethod yX4_weeklyWalk, Cond.selects RX4 yX4_weeklyWalk yX4_weeklyWalk, Cond.code yX4_weeklyWalk cX4_weeklyWalk 4 (some .int), Cond.methodLink RL 13 yX5_account, Cond.instanceMethod yX5_account, Cond.selects RX5 yX5_account yX5_account, Cond.code yX5_account cX5_account 2 (some .int), Cond.methodLink RX5 109 yX4_numberOfAccount, Cond.instanceMethod yX4_numberOfAccount, Cond.selects RX4 yX4_numberOfAccount yX4_numberOfAccount, Cond.code yX4_numberOfAccount cX4_numberOfAccount 2 (some .int), Cond.fieldLink RX4 47 "PickSlots$Warehouse" "accounts" "LPickSlots$Accounts;", Cond.constant RX4 145 (100000000), Cond.methodLink RX4 188 yX4_weeklyWalk] : List Cond) ++ ((wsX50 : List Cond) ++ ((wsX10 : List Cond) ++ ((wsX40 : List Cond) ++ ((wsX30 : List Cond) ++ ((wsX00 : List Cond))))))))))))), w ∈ wsL_acts
  exact mem_app ggL_acts_L_sound_0 (mem_app ggL_acts_L_sound_1 (mem_app ggL_acts_L_sound_2 (mem_app ggL_acts_L_sound_3 (mem_app ggL_acts_L_sound_4 (mem_app ggL_acts_L_sound_5 (mem_app ggL_acts_L_sound_6 (mem_app ggL_acts_L_sound_7 (mem_app ggL_acts_L_sound_8 (mem_app ggL_acts_L_sound_9 (mem_app ggL_acts_L_sound_10 (ggL_acts_L_sound_11)))))))))))
set_option maxRecDepth 20000 in
theorem ggL_acts_L_sound : GoodIn wsL_acts wsL_sound := goodIn_sub ggL_acts_L_sound_m (by decide +kernel)
set_option maxRecDepth 20000 in
theorem gL_acts_L_sound : GoodIn wsL_acts (va_wsS RL 102 yL_sound wsL_sound) := goodIn_app (goodIn_of _ (by decide +kernel)) ggL_acts_L_sound
set_option maxRecDepth 20000 in
theorem ggL_acts_X5_best : GoodIn wsL_acts wsX5_best := goodIn_r _ [344, 9, 345, 346, 347, 13, 348, 90, 5, 91, 250, 251, 252, 253, 15, 201, 202, 203, 204, 28, 124, 29, 30, 31, 32, 205, 206, 207, 208, 82, 209, 210, 211, 95, 86, 87, 88, 89, 254, 255, 256, 257, 216, 217, 218, 219, 33, 34, 35, 36, 16, 65, 66, 67, 68, 69, 70, 71, 72, 73, 37, 38, 39, 40, 220, 221, 222, 223, 224, 225, 226, 227, 228, 130, 229, 353, 354, 355, 356, 357, 358, 359, 360, 361, 368, 369, 370, 371, 372, 373, 374, 375, 376, 377, 378, 379, 380] (by decide +kernel) (by decide +kernel)
set_option maxRecDepth 20000 in
theorem gL_acts_X5_best : GoodIn wsL_acts (wsV RL 69 RX5 yX5_best wsX5_best) := goodIn_app (goodIn_of _ (by decide +kernel)) ggL_acts_X5_best
set_option maxRecDepth 20000 in
theorem ggL_acts_X5_undo : GoodIn wsL_acts wsX5_undo := goodIn_r _ [352, 7, 9, 172, 353, 354, 355, 356, 357, 358, 359, 360, 361] (by decide +kernel) (by decide +kernel)
set_option maxRecDepth 20000 in
theorem gL_acts_X5_undo : GoodIn wsL_acts (wsV RL 106 RX5 yX5_undo wsX5_undo) := goodIn_app (goodIn_of _ (by decide +kernel)) ggL_acts_X5_undo
theorem dL_acts_0 : decode cL_acts 0 = .ok (.aload_n 0, 1) := by decide +kernel
theorem dL_acts_1 : decode cL_acts 1 = .ok (.bipush 8, 2) := by decide +kernel
theorem dL_acts_3 : decode cL_acts 3 = .ok (.invokevirtual 19, 3) := by decide +kernel
theorem dL_acts_6 : decode cL_acts 6 = .ok (.istore_n 3, 1) := by decide +kernel
theorem dL_acts_7 : decode cL_acts 7 = .ok (.aload_n 0, 1) := by decide +kernel
theorem dL_acts_8 : decode cL_acts 8 = .ok (.invokestatic 26, 3) := by decide +kernel
theorem dL_acts_11 : decode cL_acts 11 = .ok (.lstore 4, 2) := by decide +kernel
theorem dL_acts_13 : decode cL_acts 13 = .ok (.aload_n 0, 1) := by decide +kernel
theorem dL_acts_14 : decode cL_acts 14 = .ok (.iconst 4, 1) := by decide +kernel
theorem dL_acts_15 : decode cL_acts 15 = .ok (.invokevirtual 13, 3) := by decide +kernel
theorem dL_acts_18 : decode cL_acts 18 = .ok (.istore 6, 2) := by decide +kernel
theorem dL_acts_20 : decode cL_acts 20 = .ok (.aload_n 0, 1) := by decide +kernel
theorem dL_acts_21 : decode cL_acts 21 = .ok (.aload_n 0, 1) := by decide +kernel
theorem dL_acts_22 : decode cL_acts 22 = .ok (.iconst 3, 1) := by decide +kernel
theorem dL_acts_23 : decode cL_acts 23 = .ok (.invokevirtual 19, 3) := by decide +kernel
theorem dL_acts_26 : decode cL_acts 26 = .ok (.invokevirtual 75, 3) := by decide +kernel
theorem dL_acts_29 : decode cL_acts 29 = .ok (.istore 7, 2) := by decide +kernel
theorem dL_acts_31 : decode cL_acts 31 = .ok (.iload_n 1, 1) := by decide +kernel
theorem dL_acts_32 : decode cL_acts 32 = .ok (.iconst 4, 1) := by decide +kernel
theorem dL_acts_33 : decode cL_acts 33 = .ok (.ishr, 1) := by decide +kernel
theorem dL_acts_34 : decode cL_acts 34 = .ok (.aload_n 0, 1) := by decide +kernel
theorem dL_acts_35 : decode cL_acts 35 = .ok (.iconst 0, 1) := by decide +kernel
theorem dL_acts_36 : decode cL_acts 36 = .ok (.invokevirtual 19, 3) := by decide +kernel
theorem dL_acts_39 : decode cL_acts 39 = .ok (.invokestatic 91, 3) := by decide +kernel
theorem dL_acts_42 : decode cL_acts 42 = .ok (.istore 8, 2) := by decide +kernel
theorem dL_acts_44 : decode cL_acts 44 = .ok (.aload_n 2, 1) := by decide +kernel
theorem dL_acts_45 : decode cL_acts 45 = .ok (.iload 8, 2) := by decide +kernel
theorem dL_acts_47 : decode cL_acts 47 = .ok (.iaload, 1) := by decide +kernel
theorem dL_acts_48 : decode cL_acts 48 = .ok (.istore 9, 2) := by decide +kernel
theorem dL_acts_50 : decode cL_acts 50 = .ok (.aload_n 0, 1) := by decide +kernel
theorem dL_acts_51 : decode cL_acts 51 = .ok (.iload_n 1, 1) := by decide +kernel
theorem dL_acts_52 : decode cL_acts 52 = .ok (.aload_n 2, 1) := by decide +kernel
theorem dL_acts_53 : decode cL_acts 53 = .ok (.invokestatic 98, 3) := by decide +kernel
theorem dL_acts_56 : decode cL_acts 56 = .ok (.istore 10, 2) := by decide +kernel
theorem dL_acts_58 : decode cL_acts 58 = .ok (.iload 10, 2) := by decide +kernel
theorem dL_acts_60 : decode cL_acts 60 = .ok (.ifCond .ge 29, 3) := by decide +kernel
theorem dL_acts_63 : decode cL_acts 63 = .ok (.aload_n 0, 1) := by decide +kernel
theorem dL_acts_64 : decode cL_acts 64 = .ok (.invokestatic 26, 3) := by decide +kernel
theorem dL_acts_67 : decode cL_acts 67 = .ok (.lload 4, 2) := by decide +kernel
theorem dL_acts_69 : decode cL_acts 69 = .ok (.lcmp, 1) := by decide +kernel
theorem dL_acts_70 : decode cL_acts 70 = .ok (.ifCond .ne 17, 3) := by decide +kernel
theorem dL_acts_73 : decode cL_acts 73 = .ok (.aload_n 0, 1) := by decide +kernel
theorem dL_acts_74 : decode cL_acts 74 = .ok (.bipush 8, 2) := by decide +kernel
theorem dL_acts_76 : decode cL_acts 76 = .ok (.invokevirtual 19, 3) := by decide +kernel
theorem dL_acts_79 : decode cL_acts 79 = .ok (.iload_n 3, 1) := by decide +kernel
theorem dL_acts_80 : decode cL_acts 80 = .ok (.if_icmp .ne 7, 3) := by decide +kernel
theorem dL_acts_83 : decode cL_acts 83 = .ok (.iconst 1, 1) := by decide +kernel
theorem dL_acts_84 : decode cL_acts 84 = .ok (.goto 4, 3) := by decide +kernel
theorem dL_acts_87 : decode cL_acts 87 = .ok (.iconst 0, 1) := by decide +kernel
theorem dL_acts_88 : decode cL_acts 88 = .ok (.ireturn, 1) := by decide +kernel
theorem dL_acts_89 : decode cL_acts 89 = .ok (.iload_n 1, 1) := by decide +kernel
theorem dL_acts_90 : decode cL_acts 90 = .ok (.bipush 12, 2) := by decide +kernel
theorem dL_acts_92 : decode cL_acts 92 = .ok (.invokestatic 91, 3) := by decide +kernel
theorem dL_acts_95 : decode cL_acts 95 = .ok (.iconst 3, 1) := by decide +kernel
theorem dL_acts_96 : decode cL_acts 96 = .ok (.if_icmp .le 18, 3) := by decide +kernel
theorem dL_acts_99 : decode cL_acts 99 = .ok (.iload_n 1, 1) := by decide +kernel
theorem dL_acts_100 : decode cL_acts 100 = .ok (.bipush 12, 2) := by decide +kernel
theorem dL_acts_102 : decode cL_acts 102 = .ok (.invokestatic 91, 3) := by decide +kernel
theorem dL_acts_105 : decode cL_acts 105 = .ok (.bipush 7, 2) := by decide +kernel
theorem dL_acts_107 : decode cL_acts 107 = .ok (.if_icmp .ge 7, 3) := by decide +kernel
theorem dL_acts_110 : decode cL_acts 110 = .ok (.iconst 1, 1) := by decide +kernel
theorem dL_acts_111 : decode cL_acts 111 = .ok (.goto 4, 3) := by decide +kernel
theorem dL_acts_114 : decode cL_acts 114 = .ok (.iconst 0, 1) := by decide +kernel
theorem dL_acts_115 : decode cL_acts 115 = .ok (.istore 11, 2) := by decide +kernel
theorem dL_acts_117 : decode cL_acts 117 = .ok (.aload_n 0, 1) := by decide +kernel
theorem dL_acts_118 : decode cL_acts 118 = .ok (.aload_n 2, 1) := by decide +kernel
theorem dL_acts_119 : decode cL_acts 119 = .ok (.invokestatic 102, 3) := by decide +kernel
theorem dL_acts_122 : decode cL_acts 122 = .ok (.ifCond .eq 69, 3) := by decide +kernel
theorem dL_acts_125 : decode cL_acts 125 = .ok (.aload_n 0, 1) := by decide +kernel
theorem dL_acts_126 : decode cL_acts 126 = .ok (.bipush 8, 2) := by decide +kernel
theorem dL_acts_128 : decode cL_acts 128 = .ok (.invokevirtual 19, 3) := by decide +kernel
theorem dL_acts_131 : decode cL_acts 131 = .ok (.iload_n 3, 1) := by decide +kernel
theorem dL_acts_132 : decode cL_acts 132 = .ok (.iconst 4, 1) := by decide +kernel
theorem dL_acts_133 : decode cL_acts 133 = .ok (.if_icmp .ge 9, 3) := by decide +kernel
theorem dL_acts_136 : decode cL_acts 136 = .ok (.iload_n 3, 1) := by decide +kernel
theorem dL_acts_137 : decode cL_acts 137 = .ok (.iconst 1, 1) := by decide +kernel
theorem dL_acts_138 : decode cL_acts 138 = .ok (.iadd, 1) := by decide +kernel
theorem dL_acts_139 : decode cL_acts 139 = .ok (.goto 4, 3) := by decide +kernel
theorem dL_acts_142 : decode cL_acts 142 = .ok (.iconst 4, 1) := by decide +kernel
theorem dL_acts_143 : decode cL_acts 143 = .ok (.if_icmp .ne 48, 3) := by decide +kernel
theorem dL_acts_146 : decode cL_acts 146 = .ok (.iload 11, 2) := by decide +kernel
theorem dL_acts_148 : decode cL_acts 148 = .ok (.ifCond .eq 29, 3) := by decide +kernel
theorem dL_acts_151 : decode cL_acts 151 = .ok (.iload 7, 2) := by decide +kernel
theorem dL_acts_153 : decode cL_acts 153 = .ok (.aload_n 0, 1) := by decide +kernel
theorem dL_acts_154 : decode cL_acts 154 = .ok (.aload_n 0, 1) := by decide +kernel
theorem dL_acts_155 : decode cL_acts 155 = .ok (.iconst 3, 1) := by decide +kernel
theorem dL_acts_156 : decode cL_acts 156 = .ok (.invokevirtual 19, 3) := by decide +kernel
theorem dL_acts_159 : decode cL_acts 159 = .ok (.invokevirtual 75, 3) := by decide +kernel
theorem dL_acts_162 : decode cL_acts 162 = .ok (.isub, 1) := by decide +kernel
theorem dL_acts_163 : decode cL_acts 163 = .ok (.aload_n 0, 1) := by decide +kernel
theorem dL_acts_164 : decode cL_acts 164 = .ok (.iconst 4, 1) := by decide +kernel
theorem dL_acts_165 : decode cL_acts 165 = .ok (.invokevirtual 13, 3) := by decide +kernel
theorem dL_acts_168 : decode cL_acts 168 = .ok (.iload 6, 2) := by decide +kernel
theorem dL_acts_170 : decode cL_acts 170 = .ok (.isub, 1) := by decide +kernel
theorem dL_acts_171 : decode cL_acts 171 = .ok (.if_icmp .ne 20, 3) := by decide +kernel
theorem dL_acts_174 : decode cL_acts 174 = .ok (.goto 13, 3) := by decide +kernel
theorem dL_acts_177 : decode cL_acts 177 = .ok (.aload_n 0, 1) := by decide +kernel
theorem dL_acts_178 : decode cL_acts 178 = .ok (.iconst 4, 1) := by decide +kernel
theorem dL_acts_179 : decode cL_acts 179 = .ok (.invokevirtual 13, 3) := by decide +kernel
theorem dL_acts_182 : decode cL_acts 182 = .ok (.iload 6, 2) := by decide +kernel
theorem dL_acts_184 : decode cL_acts 184 = .ok (.if_icmp .ne 7, 3) := by decide +kernel
theorem dL_acts_187 : decode cL_acts 187 = .ok (.iconst 1, 1) := by decide +kernel
theorem dL_acts_188 : decode cL_acts 188 = .ok (.goto 4, 3) := by decide +kernel
theorem dL_acts_191 : decode cL_acts 191 = .ok (.iconst 0, 1) := by decide +kernel
theorem dL_acts_192 : decode cL_acts 192 = .ok (.istore 12, 2) := by decide +kernel
theorem dL_acts_194 : decode cL_acts 194 = .ok (.iload 12, 2) := by decide +kernel
theorem dL_acts_196 : decode cL_acts 196 = .ok (.ifCond .eq 79, 3) := by decide +kernel
theorem dL_acts_199 : decode cL_acts 199 = .ok (.iload_n 1, 1) := by decide +kernel
theorem dL_acts_200 : decode cL_acts 200 = .ok (.bipush 12, 2) := by decide +kernel
theorem dL_acts_202 : decode cL_acts 202 = .ok (.invokestatic 91, 3) := by decide +kernel
theorem dL_acts_205 : decode cL_acts 205 = .ok (.bipush 6, 2) := by decide +kernel
theorem dL_acts_207 : decode cL_acts 207 = .ok (.if_icmp .ne 28, 3) := by decide +kernel
theorem dL_acts_210 : decode cL_acts 210 = .ok (.iload 10, 2) := by decide +kernel
theorem dL_acts_212 : decode cL_acts 212 = .ok (.iconst 1, 1) := by decide +kernel
theorem dL_acts_213 : decode cL_acts 213 = .ok (.iload_n 1, 1) := by decide +kernel
theorem dL_acts_214 : decode cL_acts 214 = .ok (.bipush 8, 2) := by decide +kernel
theorem dL_acts_216 : decode cL_acts 216 = .ok (.ishr, 1) := by decide +kernel
theorem dL_acts_217 : decode cL_acts 217 = .ok (.iconst 3, 1) := by decide +kernel
theorem dL_acts_218 : decode cL_acts 218 = .ok (.invokestatic 91, 3) := by decide +kernel
theorem dL_acts_221 : decode cL_acts 221 = .ok (.iadd, 1) := by decide +kernel
theorem dL_acts_222 : decode cL_acts 222 = .ok (.if_icmp .eq 13, 3) := by decide +kernel
theorem dL_acts_225 : decode cL_acts 225 = .ok (.aload_n 0, 1) := by decide +kernel
theorem dL_acts_226 : decode cL_acts 226 = .ok (.iconst 0, 1) := by decide +kernel
theorem dL_acts_227 : decode cL_acts 227 = .ok (.invokevirtual 69, 3) := by decide +kernel
theorem dL_acts_230 : decode cL_acts 230 = .ok (.bipush (-4), 2) := by decide +kernel
theorem dL_acts_232 : decode cL_acts 232 = .ok (.if_icmp .ne 43, 3) := by decide +kernel
theorem dL_acts_235 : decode cL_acts 235 = .ok (.iload_n 1, 1) := by decide +kernel
theorem dL_acts_236 : decode cL_acts 236 = .ok (.bipush 12, 2) := by decide +kernel
theorem dL_acts_238 : decode cL_acts 238 = .ok (.invokestatic 91, 3) := by decide +kernel
theorem dL_acts_241 : decode cL_acts 241 = .ok (.iconst 4, 1) := by decide +kernel
theorem dL_acts_242 : decode cL_acts 242 = .ok (.if_icmp .eq 13, 3) := by decide +kernel
theorem dL_acts_245 : decode cL_acts 245 = .ok (.iload_n 1, 1) := by decide +kernel
theorem dL_acts_246 : decode cL_acts 246 = .ok (.bipush 12, 2) := by decide +kernel
theorem dL_acts_248 : decode cL_acts 248 = .ok (.invokestatic 91, 3) := by decide +kernel
theorem dL_acts_251 : decode cL_acts 251 = .ok (.iconst 5, 1) := by decide +kernel
theorem dL_acts_252 : decode cL_acts 252 = .ok (.if_icmp .ne 19, 3) := by decide +kernel
theorem dL_acts_255 : decode cL_acts 255 = .ok (.iload 10, 2) := by decide +kernel
theorem dL_acts_257 : decode cL_acts 257 = .ok (.ldc 90, 2) := by decide +kernel
theorem dL_acts_259 : decode cL_acts 259 = .ok (.isub, 1) := by decide +kernel
theorem dL_acts_260 : decode cL_acts 260 = .ok (.aload_n 0, 1) := by decide +kernel
theorem dL_acts_261 : decode cL_acts 261 = .ok (.iconst 4, 1) := by decide +kernel
theorem dL_acts_262 : decode cL_acts 262 = .ok (.invokevirtual 13, 3) := by decide +kernel
theorem dL_acts_265 : decode cL_acts 265 = .ok (.iload 6, 2) := by decide +kernel
theorem dL_acts_267 : decode cL_acts 267 = .ok (.isub, 1) := by decide +kernel
theorem dL_acts_268 : decode cL_acts 268 = .ok (.if_icmp .ne 7, 3) := by decide +kernel
theorem dL_acts_271 : decode cL_acts 271 = .ok (.iconst 1, 1) := by decide +kernel
theorem dL_acts_272 : decode cL_acts 272 = .ok (.goto 4, 3) := by decide +kernel
theorem dL_acts_275 : decode cL_acts 275 = .ok (.iconst 0, 1) := by decide +kernel
theorem dL_acts_276 : decode cL_acts 276 = .ok (.istore 12, 2) := by decide +kernel
theorem dL_acts_278 : decode cL_acts 278 = .ok (.iload 12, 2) := by decide +kernel
theorem dL_acts_280 : decode cL_acts 280 = .ok (.ifCond .eq 12, 3) := by decide +kernel
theorem dL_acts_283 : decode cL_acts 283 = .ok (.iload_n 1, 1) := by decide +kernel
theorem dL_acts_284 : decode cL_acts 284 = .ok (.bipush 20, 2) := by decide +kernel
theorem dL_acts_286 : decode cL_acts 286 = .ok (.ishr, 1) := by decide +kernel
theorem dL_acts_287 : decode cL_acts 287 = .ok (.iconst 1, 1) := by decide +kernel
theorem dL_acts_288 : decode cL_acts 288 = .ok (.iand, 1) := by decide +kernel
theorem dL_acts_289 : decode cL_acts 289 = .ok (.ifCond .ne 6, 3) := by decide +kernel
theorem dL_acts_292 : decode cL_acts 292 = .ok (.iload 12, 2) := by decide +kernel
theorem dL_acts_294 : decode cL_acts 294 = .ok (.ireturn, 1) := by decide +kernel
theorem dL_acts_295 : decode cL_acts 295 = .ok (.aload_n 2, 1) := by decide +kernel
theorem dL_acts_296 : decode cL_acts 296 = .ok (.iload 8, 2) := by decide +kernel
theorem dL_acts_298 : decode cL_acts 298 = .ok (.iload 9, 2) := by decide +kernel
theorem dL_acts_300 : decode cL_acts 300 = .ok (.iastore, 1) := by decide +kernel
theorem dL_acts_301 : decode cL_acts 301 = .ok (.aload_n 0, 1) := by decide +kernel
theorem dL_acts_302 : decode cL_acts 302 = .ok (.invokevirtual 106, 3) := by decide +kernel
theorem dL_acts_305 : decode cL_acts 305 = .ok (.iload_n 3, 1) := by decide +kernel
theorem dL_acts_306 : decode cL_acts 306 = .ok (.iconst 4, 1) := by decide +kernel
theorem dL_acts_307 : decode cL_acts 307 = .ok (.if_icmp .ge 7, 3) := by decide +kernel
theorem dL_acts_310 : decode cL_acts 310 = .ok (.iload_n 3, 1) := by decide +kernel
theorem dL_acts_311 : decode cL_acts 311 = .ok (.goto 4, 3) := by decide +kernel
theorem dL_acts_314 : decode cL_acts 314 = .ok (.iconst 3, 1) := by decide +kernel
theorem dL_acts_315 : decode cL_acts 315 = .ok (.if_icmp .ne 17, 3) := by decide +kernel
theorem dL_acts_318 : decode cL_acts 318 = .ok (.aload_n 0, 1) := by decide +kernel
theorem dL_acts_319 : decode cL_acts 319 = .ok (.invokestatic 26, 3) := by decide +kernel
theorem dL_acts_322 : decode cL_acts 322 = .ok (.lload 4, 2) := by decide +kernel
theorem dL_acts_324 : decode cL_acts 324 = .ok (.lcmp, 1) := by decide +kernel
theorem dL_acts_325 : decode cL_acts 325 = .ok (.ifCond .ne 7, 3) := by decide +kernel
theorem dL_acts_328 : decode cL_acts 328 = .ok (.iconst 1, 1) := by decide +kernel
theorem dL_acts_329 : decode cL_acts 329 = .ok (.goto 4, 3) := by decide +kernel
theorem dL_acts_332 : decode cL_acts 332 = .ok (.iconst 0, 1) := by decide +kernel
theorem dL_acts_333 : decode cL_acts 333 = .ok (.ireturn, 1) := by decide +kernel
