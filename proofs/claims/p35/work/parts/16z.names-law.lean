theorem dL_low_0 : decode cL_low 0 = .ok (.iload_n 0, 1) := by decide +kernel
theorem dL_low_1 : decode cL_low 1 = .ok (.ldc 7, 2) := by decide +kernel
theorem dL_low_3 : decode cL_low 3 = .ok (.iand, 1) := by decide +kernel
theorem dL_low_4 : decode cL_low 4 = .ok (.iload_n 1, 1) := by decide +kernel
theorem dL_low_5 : decode cL_low 5 = .ok (.irem, 1) := by decide +kernel
theorem dL_low_6 : decode cL_low 6 = .ok (.ireturn, 1) := by decide +kernel
theorem dL_cell_0 : decode cL_cell 0 = .ok (.iload_n 1, 1) := by decide +kernel
theorem dL_cell_1 : decode cL_cell 1 = .ok (.aload_n 0, 1) := by decide +kernel
theorem dL_cell_2 : decode cL_cell 2 = .ok (.arraylength, 1) := by decide +kernel
theorem dL_cell_3 : decode cL_cell 3 = .ok (.if_icmp .ge 9, 3) := by decide +kernel
theorem dL_cell_6 : decode cL_cell 6 = .ok (.aload_n 0, 1) := by decide +kernel
theorem dL_cell_7 : decode cL_cell 7 = .ok (.iload_n 1, 1) := by decide +kernel
theorem dL_cell_8 : decode cL_cell 8 = .ok (.iaload, 1) := by decide +kernel
theorem dL_cell_9 : decode cL_cell 9 = .ok (.goto 11, 3) := by decide +kernel
theorem dL_cell_12 : decode cL_cell 12 = .ok (.ldc 8, 2) := by decide +kernel
theorem dL_cell_14 : decode cL_cell 14 = .ok (.iload_n 1, 1) := by decide +kernel
theorem dL_cell_15 : decode cL_cell 15 = .ok (.imul, 1) := by decide +kernel
theorem dL_cell_16 : decode cL_cell 16 = .ok (.sipush 977, 3) := by decide +kernel
theorem dL_cell_19 : decode cL_cell 19 = .ok (.iadd, 1) := by decide +kernel
theorem dL_cell_20 : decode cL_cell 20 = .ok (.ireturn, 1) := by decide +kernel
set_option maxRecDepth 20000 in
theorem ggL_sea_L_cell : GoodIn wsL_sea wsL_cell := goodIn_r _ [4, 5] (by decide +kernel) (by decide +kernel)
set_option maxRecDepth 20000 in
theorem gL_sea_L_cell : GoodIn wsL_sea (va_wsS RL 9 yL_cell wsL_cell) := goodIn_app (goodIn_of _ (by decide +kernel)) ggL_sea_L_cell
set_option maxRecDepth 20000 in
theorem ggL_sea_L_low : GoodIn wsL_sea wsL_low := goodIn_r _ [8, 9] (by decide +kernel) (by decide +kernel)
set_option maxRecDepth 20000 in
theorem gL_sea_L_low : GoodIn wsL_sea (va_wsS RL 15 yL_low wsL_low) := goodIn_app (goodIn_of _ (by decide +kernel)) ggL_sea_L_low
set_option maxRecDepth 20000 in
theorem ggL_sea_X3_sea : GoodIn wsL_sea wsX3_sea := goodIn_r _ [14, 15, 16, 17, 18, 13, 19, 20, 21, 22, 23, 24, 25, 26, 27, 28, 29, 30, 31, 32, 33, 34, 35, 36, 37, 38, 39, 40, 76, 77, 78, 79, 80, 81, 82, 83, 84, 85, 86, 87, 88, 89, 90, 91, 92, 93, 94, 95, 96, 97, 98, 99, 100] (by decide +kernel) (by decide +kernel)
set_option maxRecDepth 20000 in
theorem gL_sea_X3_sea : GoodIn wsL_sea (wsV RL 19 RX3 yX3_sea wsX3_sea) := goodIn_app (goodIn_of _ (by decide +kernel)) ggL_sea_X3_sea
set_option maxRecDepth 20000 in
theorem ggL_sea_X3_wind : GoodIn wsL_sea wsX3_wind := goodIn_r _ [44, 15, 45, 46, 17, 18, 13, 19, 47, 48, 49, 20, 21, 22, 23, 24, 50, 51, 52, 28, 53, 31, 32, 36, 76, 77, 78, 79, 80, 81, 82, 83, 84, 85, 86, 87, 88, 89, 90, 91, 92, 93, 94, 95, 96, 97, 98, 99, 100] (by decide +kernel) (by decide +kernel)
set_option maxRecDepth 20000 in
theorem gL_sea_X3_wind : GoodIn wsL_sea (wsV RL 25 RX3 yX3_wind wsX3_wind) := goodIn_app (goodIn_of _ (by decide +kernel)) ggL_sea_X3_wind
set_option maxRecDepth 20000 in
theorem ggL_sea_X3_floe : GoodIn wsL_sea wsX3_floe := goodIn_r _ [57, 15, 16, 58, 59, 13, 60, 17, 18, 19, 61, 62, 63, 20, 21, 22, 23, 24, 64, 65, 66, 67, 68, 69, 70, 71, 28, 72, 73, 33, 74, 75, 36, 76, 77, 78, 79, 80, 81, 82, 83, 84, 85, 86, 87, 88, 89, 90, 91, 92, 93, 94, 95, 96, 97, 98, 99, 100] (by decide +kernel) (by decide +kernel)
set_option maxRecDepth 20000 in
theorem gL_sea_X3_floe : GoodIn wsL_sea (wsV RL 29 RX3 yX3_floe wsX3_floe) := goodIn_app (goodIn_of _ (by decide +kernel)) ggL_sea_X3_floe
theorem dL_sea_0 : decode cL_sea 0 = .ok (.aload_n 3, 1) := by decide +kernel
theorem dL_sea_1 : decode cL_sea 1 = .ok (.bipush 15, 2) := by decide +kernel
theorem dL_sea_3 : decode cL_sea 3 = .ok (.iload_n 2, 1) := by decide +kernel
theorem dL_sea_4 : decode cL_sea 4 = .ok (.iastore, 1) := by decide +kernel
theorem dL_sea_5 : decode cL_sea 5 = .ok (.aload_n 3, 1) := by decide +kernel
theorem dL_sea_6 : decode cL_sea 6 = .ok (.bipush 16, 2) := by decide +kernel
theorem dL_sea_8 : decode cL_sea 8 = .ok (.aload_n 1, 1) := by decide +kernel
theorem dL_sea_9 : decode cL_sea 9 = .ok (.iconst 0, 1) := by decide +kernel
theorem dL_sea_10 : decode cL_sea 10 = .ok (.invokestatic 9, 3) := by decide +kernel
theorem dL_sea_13 : decode cL_sea 13 = .ok (.bipush 100, 2) := by decide +kernel
theorem dL_sea_15 : decode cL_sea 15 = .ok (.invokestatic 15, 3) := by decide +kernel
theorem dL_sea_18 : decode cL_sea 18 = .ok (.iastore, 1) := by decide +kernel
theorem dL_sea_19 : decode cL_sea 19 = .ok (.aload_n 0, 1) := by decide +kernel
theorem dL_sea_20 : decode cL_sea 20 = .ok (.aload_n 3, 1) := by decide +kernel
theorem dL_sea_21 : decode cL_sea 21 = .ok (.bipush 16, 2) := by decide +kernel
theorem dL_sea_23 : decode cL_sea 23 = .ok (.iaload, 1) := by decide +kernel
theorem dL_sea_24 : decode cL_sea 24 = .ok (.invokevirtual 19, 3) := by decide +kernel
theorem dL_sea_27 : decode cL_sea 27 = .ok (.ifCond .lt 7, 3) := by decide +kernel
theorem dL_sea_30 : decode cL_sea 30 = .ok (.iconst 1, 1) := by decide +kernel
theorem dL_sea_31 : decode cL_sea 31 = .ok (.goto 4, 3) := by decide +kernel
theorem dL_sea_34 : decode cL_sea 34 = .ok (.iconst 0, 1) := by decide +kernel
theorem dL_sea_35 : decode cL_sea 35 = .ok (.istore 4, 2) := by decide +kernel
theorem dL_sea_37 : decode cL_sea 37 = .ok (.iconst 0, 1) := by decide +kernel
theorem dL_sea_38 : decode cL_sea 38 = .ok (.istore 5, 2) := by decide +kernel
theorem dL_sea_40 : decode cL_sea 40 = .ok (.iload 5, 2) := by decide +kernel
theorem dL_sea_42 : decode cL_sea 42 = .ok (.bipush 12, 2) := by decide +kernel
theorem dL_sea_44 : decode cL_sea 44 = .ok (.if_icmp .ge 103, 3) := by decide +kernel
theorem dL_sea_47 : decode cL_sea 47 = .ok (.aload_n 1, 1) := by decide +kernel
theorem dL_sea_48 : decode cL_sea 48 = .ok (.iconst 1, 1) := by decide +kernel
theorem dL_sea_49 : decode cL_sea 49 = .ok (.iload 5, 2) := by decide +kernel
theorem dL_sea_51 : decode cL_sea 51 = .ok (.bipush 6, 2) := by decide +kernel
theorem dL_sea_53 : decode cL_sea 53 = .ok (.idiv, 1) := by decide +kernel
theorem dL_sea_54 : decode cL_sea 54 = .ok (.iadd, 1) := by decide +kernel
theorem dL_sea_55 : decode cL_sea 55 = .ok (.invokestatic 9, 3) := by decide +kernel
theorem dL_sea_58 : decode cL_sea 58 = .ok (.iconst 4, 1) := by decide +kernel
theorem dL_sea_59 : decode cL_sea 59 = .ok (.iload 5, 2) := by decide +kernel
theorem dL_sea_61 : decode cL_sea 61 = .ok (.bipush 6, 2) := by decide +kernel
theorem dL_sea_63 : decode cL_sea 63 = .ok (.irem, 1) := by decide +kernel
theorem dL_sea_64 : decode cL_sea 64 = .ok (.imul, 1) := by decide +kernel
theorem dL_sea_65 : decode cL_sea 65 = .ok (.ishr, 1) := by decide +kernel
theorem dL_sea_66 : decode cL_sea 66 = .ok (.istore 6, 2) := by decide +kernel
theorem dL_sea_68 : decode cL_sea 68 = .ok (.iload 6, 2) := by decide +kernel
theorem dL_sea_70 : decode cL_sea 70 = .ok (.iconst 3, 1) := by decide +kernel
theorem dL_sea_71 : decode cL_sea 71 = .ok (.invokestatic 15, 3) := by decide +kernel
theorem dL_sea_74 : decode cL_sea 74 = .ok (.ifCond .ne 14, 3) := by decide +kernel
theorem dL_sea_77 : decode cL_sea 77 = .ok (.iload 6, 2) := by decide +kernel
theorem dL_sea_79 : decode cL_sea 79 = .ok (.iconst 2, 1) := by decide +kernel
theorem dL_sea_80 : decode cL_sea 80 = .ok (.ishr, 1) := by decide +kernel
theorem dL_sea_81 : decode cL_sea 81 = .ok (.iconst 4, 1) := by decide +kernel
theorem dL_sea_82 : decode cL_sea 82 = .ok (.invokestatic 15, 3) := by decide +kernel
theorem dL_sea_85 : decode cL_sea 85 = .ok (.goto 4, 3) := by decide +kernel
theorem dL_sea_88 : decode cL_sea 88 = .ok (.iconst 0, 1) := by decide +kernel
theorem dL_sea_89 : decode cL_sea 89 = .ok (.istore 7, 2) := by decide +kernel
theorem dL_sea_91 : decode cL_sea 91 = .ok (.iload 6, 2) := by decide +kernel
theorem dL_sea_93 : decode cL_sea 93 = .ok (.iconst 1, 1) := by decide +kernel
theorem dL_sea_94 : decode cL_sea 94 = .ok (.ishr, 1) := by decide +kernel
theorem dL_sea_95 : decode cL_sea 95 = .ok (.iconst 4, 1) := by decide +kernel
theorem dL_sea_96 : decode cL_sea 96 = .ok (.invokestatic 15, 3) := by decide +kernel
theorem dL_sea_99 : decode cL_sea 99 = .ok (.istore 8, 2) := by decide +kernel
theorem dL_sea_101 : decode cL_sea 101 = .ok (.aload_n 3, 1) := by decide +kernel
theorem dL_sea_102 : decode cL_sea 102 = .ok (.bipush 17, 2) := by decide +kernel
theorem dL_sea_104 : decode cL_sea 104 = .ok (.iload 5, 2) := by decide +kernel
theorem dL_sea_106 : decode cL_sea 106 = .ok (.iadd, 1) := by decide +kernel
theorem dL_sea_107 : decode cL_sea 107 = .ok (.iload 7, 2) := by decide +kernel
theorem dL_sea_109 : decode cL_sea 109 = .ok (.iconst 4, 1) := by decide +kernel
theorem dL_sea_110 : decode cL_sea 110 = .ok (.iload 8, 2) := by decide +kernel
theorem dL_sea_112 : decode cL_sea 112 = .ok (.imul, 1) := by decide +kernel
theorem dL_sea_113 : decode cL_sea 113 = .ok (.iadd, 1) := by decide +kernel
theorem dL_sea_114 : decode cL_sea 114 = .ok (.iastore, 1) := by decide +kernel
theorem dL_sea_115 : decode cL_sea 115 = .ok (.iload 4, 2) := by decide +kernel
theorem dL_sea_117 : decode cL_sea 117 = .ok (.ifCond .eq 21, 3) := by decide +kernel
theorem dL_sea_120 : decode cL_sea 120 = .ok (.aload_n 0, 1) := by decide +kernel
theorem dL_sea_121 : decode cL_sea 121 = .ok (.iload 5, 2) := by decide +kernel
theorem dL_sea_123 : decode cL_sea 123 = .ok (.iload 7, 2) := by decide +kernel
theorem dL_sea_125 : decode cL_sea 125 = .ok (.iload 8, 2) := by decide +kernel
theorem dL_sea_127 : decode cL_sea 127 = .ok (.invokevirtual 25, 3) := by decide +kernel
theorem dL_sea_130 : decode cL_sea 130 = .ok (.iconst 1, 1) := by decide +kernel
theorem dL_sea_131 : decode cL_sea 131 = .ok (.if_icmp .ne 7, 3) := by decide +kernel
theorem dL_sea_134 : decode cL_sea 134 = .ok (.iconst 1, 1) := by decide +kernel
theorem dL_sea_135 : decode cL_sea 135 = .ok (.goto 4, 3) := by decide +kernel
theorem dL_sea_138 : decode cL_sea 138 = .ok (.iconst 0, 1) := by decide +kernel
theorem dL_sea_139 : decode cL_sea 139 = .ok (.istore 4, 2) := by decide +kernel
theorem dL_sea_141 : decode cL_sea 141 = .ok (.iinc 5 1, 3) := by decide +kernel
theorem dL_sea_144 : decode cL_sea 144 = .ok (.goto (-104), 3) := by decide +kernel
theorem dL_sea_147 : decode cL_sea 147 = .ok (.iconst 0, 1) := by decide +kernel
theorem dL_sea_148 : decode cL_sea 148 = .ok (.istore 5, 2) := by decide +kernel
theorem dL_sea_150 : decode cL_sea 150 = .ok (.iload 5, 2) := by decide +kernel
theorem dL_sea_152 : decode cL_sea 152 = .ok (.iload_n 2, 1) := by decide +kernel
theorem dL_sea_153 : decode cL_sea 153 = .ok (.if_icmp .ge 117, 3) := by decide +kernel
theorem dL_sea_156 : decode cL_sea 156 = .ok (.aload_n 1, 1) := by decide +kernel
theorem dL_sea_157 : decode cL_sea 157 = .ok (.iconst 3, 1) := by decide +kernel
theorem dL_sea_158 : decode cL_sea 158 = .ok (.iload 5, 2) := by decide +kernel
theorem dL_sea_160 : decode cL_sea 160 = .ok (.iadd, 1) := by decide +kernel
theorem dL_sea_161 : decode cL_sea 161 = .ok (.invokestatic 9, 3) := by decide +kernel
theorem dL_sea_164 : decode cL_sea 164 = .ok (.istore 6, 2) := by decide +kernel
theorem dL_sea_166 : decode cL_sea 166 = .ok (.aload_n 3, 1) := by decide +kernel
theorem dL_sea_167 : decode cL_sea 167 = .ok (.iload 5, 2) := by decide +kernel
theorem dL_sea_169 : decode cL_sea 169 = .ok (.iload 6, 2) := by decide +kernel
theorem dL_sea_171 : decode cL_sea 171 = .ok (.bipush 6, 2) := by decide +kernel
theorem dL_sea_173 : decode cL_sea 173 = .ok (.invokestatic 15, 3) := by decide +kernel
theorem dL_sea_176 : decode cL_sea 176 = .ok (.iastore, 1) := by decide +kernel
theorem dL_sea_177 : decode cL_sea 177 = .ok (.aload_n 3, 1) := by decide +kernel
theorem dL_sea_178 : decode cL_sea 178 = .ok (.iconst 5, 1) := by decide +kernel
theorem dL_sea_179 : decode cL_sea 179 = .ok (.iload 5, 2) := by decide +kernel
theorem dL_sea_181 : decode cL_sea 181 = .ok (.iadd, 1) := by decide +kernel
theorem dL_sea_182 : decode cL_sea 182 = .ok (.iload 6, 2) := by decide +kernel
theorem dL_sea_184 : decode cL_sea 184 = .ok (.iconst 4, 1) := by decide +kernel
theorem dL_sea_185 : decode cL_sea 185 = .ok (.ishr, 1) := by decide +kernel
theorem dL_sea_186 : decode cL_sea 186 = .ok (.bipush 36, 2) := by decide +kernel
theorem dL_sea_188 : decode cL_sea 188 = .ok (.invokestatic 15, 3) := by decide +kernel
theorem dL_sea_191 : decode cL_sea 191 = .ok (.iastore, 1) := by decide +kernel
theorem dL_sea_192 : decode cL_sea 192 = .ok (.aload_n 3, 1) := by decide +kernel
theorem dL_sea_193 : decode cL_sea 193 = .ok (.bipush 10, 2) := by decide +kernel
theorem dL_sea_195 : decode cL_sea 195 = .ok (.iload 5, 2) := by decide +kernel
theorem dL_sea_197 : decode cL_sea 197 = .ok (.iadd, 1) := by decide +kernel
theorem dL_sea_198 : decode cL_sea 198 = .ok (.iload 6, 2) := by decide +kernel
theorem dL_sea_200 : decode cL_sea 200 = .ok (.bipush 11, 2) := by decide +kernel
theorem dL_sea_202 : decode cL_sea 202 = .ok (.ishr, 1) := by decide +kernel
theorem dL_sea_203 : decode cL_sea 203 = .ok (.iload 6, 2) := by decide +kernel
theorem dL_sea_205 : decode cL_sea 205 = .ok (.bipush 18, 2) := by decide +kernel
theorem dL_sea_207 : decode cL_sea 207 = .ok (.ishr, 1) := by decide +kernel
theorem dL_sea_208 : decode cL_sea 208 = .ok (.iconst 2, 1) := by decide +kernel
theorem dL_sea_209 : decode cL_sea 209 = .ok (.invokestatic 15, 3) := by decide +kernel
theorem dL_sea_212 : decode cL_sea 212 = .ok (.ifCond .ne 8, 3) := by decide +kernel
theorem dL_sea_215 : decode cL_sea 215 = .ok (.bipush 61, 2) := by decide +kernel
theorem dL_sea_217 : decode cL_sea 217 = .ok (.goto 5, 3) := by decide +kernel
theorem dL_sea_220 : decode cL_sea 220 = .ok (.bipush 12, 2) := by decide +kernel
theorem dL_sea_222 : decode cL_sea 222 = .ok (.invokestatic 15, 3) := by decide +kernel
theorem dL_sea_225 : decode cL_sea 225 = .ok (.iastore, 1) := by decide +kernel
theorem dL_sea_226 : decode cL_sea 226 = .ok (.iload 4, 2) := by decide +kernel
theorem dL_sea_228 : decode cL_sea 228 = .ok (.ifCond .eq 33, 3) := by decide +kernel
theorem dL_sea_231 : decode cL_sea 231 = .ok (.aload_n 0, 1) := by decide +kernel
theorem dL_sea_232 : decode cL_sea 232 = .ok (.aload_n 3, 1) := by decide +kernel
theorem dL_sea_233 : decode cL_sea 233 = .ok (.iload 5, 2) := by decide +kernel
theorem dL_sea_235 : decode cL_sea 235 = .ok (.iaload, 1) := by decide +kernel
theorem dL_sea_236 : decode cL_sea 236 = .ok (.aload_n 3, 1) := by decide +kernel
theorem dL_sea_237 : decode cL_sea 237 = .ok (.iconst 5, 1) := by decide +kernel
theorem dL_sea_238 : decode cL_sea 238 = .ok (.iload 5, 2) := by decide +kernel
theorem dL_sea_240 : decode cL_sea 240 = .ok (.iadd, 1) := by decide +kernel
theorem dL_sea_241 : decode cL_sea 241 = .ok (.iaload, 1) := by decide +kernel
theorem dL_sea_242 : decode cL_sea 242 = .ok (.aload_n 3, 1) := by decide +kernel
theorem dL_sea_243 : decode cL_sea 243 = .ok (.bipush 10, 2) := by decide +kernel
theorem dL_sea_245 : decode cL_sea 245 = .ok (.iload 5, 2) := by decide +kernel
theorem dL_sea_247 : decode cL_sea 247 = .ok (.iadd, 1) := by decide +kernel
theorem dL_sea_248 : decode cL_sea 248 = .ok (.iaload, 1) := by decide +kernel
theorem dL_sea_249 : decode cL_sea 249 = .ok (.invokevirtual 29, 3) := by decide +kernel
theorem dL_sea_252 : decode cL_sea 252 = .ok (.iload 5, 2) := by decide +kernel
theorem dL_sea_254 : decode cL_sea 254 = .ok (.if_icmp .ne 7, 3) := by decide +kernel
theorem dL_sea_257 : decode cL_sea 257 = .ok (.iconst 1, 1) := by decide +kernel
theorem dL_sea_258 : decode cL_sea 258 = .ok (.goto 4, 3) := by decide +kernel
theorem dL_sea_261 : decode cL_sea 261 = .ok (.iconst 0, 1) := by decide +kernel
theorem dL_sea_262 : decode cL_sea 262 = .ok (.istore 4, 2) := by decide +kernel
theorem dL_sea_264 : decode cL_sea 264 = .ok (.iinc 5 1, 3) := by decide +kernel
theorem dL_sea_267 : decode cL_sea 267 = .ok (.goto (-117), 3) := by decide +kernel
theorem dL_sea_270 : decode cL_sea 270 = .ok (.iload 4, 2) := by decide +kernel
theorem dL_sea_272 : decode cL_sea 272 = .ok (.ireturn, 1) := by decide +kernel
theorem dL_way_0 : decode cL_way 0 = .ok (.iload_n 0, 1) := by decide +kernel
theorem dL_way_1 : decode cL_way 1 = .ok (.iconst 2, 1) := by decide +kernel
theorem dL_way_2 : decode cL_way 2 = .ok (.if_icmp .eq 8, 3) := by decide +kernel
theorem dL_way_5 : decode cL_way 5 = .ok (.iload_n 0, 1) := by decide +kernel
theorem dL_way_6 : decode cL_way 6 = .ok (.iconst 4, 1) := by decide +kernel
theorem dL_way_7 : decode cL_way 7 = .ok (.if_icmp .ne 11, 3) := by decide +kernel
theorem dL_way_10 : decode cL_way 10 = .ok (.iload_n 2, 1) := by decide +kernel
theorem dL_way_11 : decode cL_way 11 = .ok (.iload_n 1, 1) := by decide +kernel
theorem dL_way_12 : decode cL_way 12 = .ok (.iconst 2, 1) := by decide +kernel
theorem dL_way_13 : decode cL_way 13 = .ok (.irem, 1) := by decide +kernel
theorem dL_way_14 : decode cL_way 14 = .ok (.iadd, 1) := by decide +kernel
theorem dL_way_15 : decode cL_way 15 = .ok (.goto 4, 3) := by decide +kernel
theorem dL_way_18 : decode cL_way 18 = .ok (.iload_n 2, 1) := by decide +kernel
theorem dL_way_19 : decode cL_way 19 = .ok (.istore_n 3, 1) := by decide +kernel
theorem dL_way_20 : decode cL_way 20 = .ok (.iload_n 0, 1) := by decide +kernel
theorem dL_way_21 : decode cL_way 21 = .ok (.iconst 4, 1) := by decide +kernel
theorem dL_way_22 : decode cL_way 22 = .ok (.if_icmp .ne 15, 3) := by decide +kernel
theorem dL_way_25 : decode cL_way 25 = .ok (.iload_n 1, 1) := by decide +kernel
theorem dL_way_26 : decode cL_way 26 = .ok (.iconst 3, 1) := by decide +kernel
theorem dL_way_27 : decode cL_way 27 = .ok (.irem, 1) := by decide +kernel
theorem dL_way_28 : decode cL_way 28 = .ok (.ifCond .ne 9, 3) := by decide +kernel
theorem dL_way_31 : decode cL_way 31 = .ok (.iload_n 3, 1) := by decide +kernel
theorem dL_way_32 : decode cL_way 32 = .ok (.iconst 2, 1) := by decide +kernel
theorem dL_way_33 : decode cL_way 33 = .ok (.iadd, 1) := by decide +kernel
theorem dL_way_34 : decode cL_way 34 = .ok (.goto 4, 3) := by decide +kernel
theorem dL_way_37 : decode cL_way 37 = .ok (.iload_n 3, 1) := by decide +kernel
theorem dL_way_38 : decode cL_way 38 = .ok (.iconst 4, 1) := by decide +kernel
theorem dL_way_39 : decode cL_way 39 = .ok (.irem, 1) := by decide +kernel
theorem dL_way_40 : decode cL_way 40 = .ok (.ireturn, 1) := by decide +kernel
theorem dL_many_0 : decode cL_many 0 = .ok (.iload_n 1, 1) := by decide +kernel
theorem dL_many_1 : decode cL_many 1 = .ok (.ifCond .eq 18, 3) := by decide +kernel
theorem dL_many_4 : decode cL_many 4 = .ok (.iload_n 0, 1) := by decide +kernel
theorem dL_many_5 : decode cL_many 5 = .ok (.iconst 3, 1) := by decide +kernel
theorem dL_many_6 : decode cL_many 6 = .ok (.if_icmp .ne 15, 3) := by decide +kernel
theorem dL_many_9 : decode cL_many 9 = .ok (.iload_n 2, 1) := by decide +kernel
theorem dL_many_10 : decode cL_many 10 = .ok (.iconst 2, 1) := by decide +kernel
theorem dL_many_11 : decode cL_many 11 = .ok (.if_icmp .ge 10, 3) := by decide +kernel
theorem dL_many_14 : decode cL_many 14 = .ok (.iload_n 1, 1) := by decide +kernel
theorem dL_many_15 : decode cL_many 15 = .ok (.iconst 1, 1) := by decide +kernel
theorem dL_many_16 : decode cL_many 16 = .ok (.if_icmp .ne 5, 3) := by decide +kernel
theorem dL_many_19 : decode cL_many 19 = .ok (.iconst 0, 1) := by decide +kernel
theorem dL_many_20 : decode cL_many 20 = .ok (.ireturn, 1) := by decide +kernel
theorem dL_many_21 : decode cL_many 21 = .ok (.iload_n 1, 1) := by decide +kernel
theorem dL_many_22 : decode cL_many 22 = .ok (.iconst 3, 1) := by decide +kernel
theorem dL_many_23 : decode cL_many 23 = .ok (.if_icmp .ne 7, 3) := by decide +kernel
theorem dL_many_26 : decode cL_many 26 = .ok (.iconst 2, 1) := by decide +kernel
theorem dL_many_27 : decode cL_many 27 = .ok (.goto 4, 3) := by decide +kernel
theorem dL_many_30 : decode cL_many 30 = .ok (.iconst 1, 1) := by decide +kernel
theorem dL_many_31 : decode cL_many 31 = .ok (.istore_n 3, 1) := by decide +kernel
theorem dL_many_32 : decode cL_many 32 = .ok (.iload_n 0, 1) := by decide +kernel
theorem dL_many_33 : decode cL_many 33 = .ok (.iconst 1, 1) := by decide +kernel
theorem dL_many_34 : decode cL_many 34 = .ok (.if_icmp .ne 7, 3) := by decide +kernel
theorem dL_many_37 : decode cL_many 37 = .ok (.iload_n 3, 1) := by decide +kernel
theorem dL_many_38 : decode cL_many 38 = .ok (.goto 24, 3) := by decide +kernel
theorem dL_many_41 : decode cL_many 41 = .ok (.iload_n 0, 1) := by decide +kernel
theorem dL_many_42 : decode cL_many 42 = .ok (.iconst 5, 1) := by decide +kernel
theorem dL_many_43 : decode cL_many 43 = .ok (.if_icmp .ne 18, 3) := by decide +kernel
theorem dL_many_46 : decode cL_many 46 = .ok (.iload_n 2, 1) := by decide +kernel
theorem dL_many_47 : decode cL_many 47 = .ok (.iconst 2, 1) := by decide +kernel
theorem dL_many_48 : decode cL_many 48 = .ok (.if_icmp .le 9, 3) := by decide +kernel
theorem dL_many_51 : decode cL_many 51 = .ok (.iload_n 3, 1) := by decide +kernel
theorem dL_many_52 : decode cL_many 52 = .ok (.iconst 1, 1) := by decide +kernel
theorem dL_many_53 : decode cL_many 53 = .ok (.isub, 1) := by decide +kernel
theorem dL_many_54 : decode cL_many 54 = .ok (.goto 8, 3) := by decide +kernel
theorem dL_many_57 : decode cL_many 57 = .ok (.iload_n 3, 1) := by decide +kernel
theorem dL_many_58 : decode cL_many 58 = .ok (.goto 4, 3) := by decide +kernel
theorem dL_many_61 : decode cL_many 61 = .ok (.iconst 1, 1) := by decide +kernel
theorem dL_many_62 : decode cL_many 62 = .ok (.ireturn, 1) := by decide +kernel
set_option maxRecDepth 20000 in
theorem ggL_drifts_L_way : GoodIn wsL_drifts wsL_way := goodIn_r _ [4] (by decide +kernel) (by decide +kernel)
set_option maxRecDepth 20000 in
theorem gL_drifts_L_way : GoodIn wsL_drifts (va_wsS RL 32 yL_way wsL_way) := goodIn_app (goodIn_of _ (by decide +kernel)) ggL_drifts_L_way
set_option maxRecDepth 20000 in
theorem ggL_drifts_L_many : GoodIn wsL_drifts wsL_many := goodIn_r _ [7] (by decide +kernel) (by decide +kernel)
set_option maxRecDepth 20000 in
theorem gL_drifts_L_many : GoodIn wsL_drifts (va_wsS RL 35 yL_many wsL_many) := goodIn_app (goodIn_of _ (by decide +kernel)) ggL_drifts_L_many
theorem dL_drifts_0 : decode cL_drifts 0 = .ok (.iload_n 1, 1) := by decide +kernel
theorem dL_drifts_1 : decode cL_drifts 1 = .ok (.bipush 6, 2) := by decide +kernel
theorem dL_drifts_3 : decode cL_drifts 3 = .ok (.idiv, 1) := by decide +kernel
theorem dL_drifts_4 : decode cL_drifts 4 = .ok (.istore 5, 2) := by decide +kernel
theorem dL_drifts_6 : decode cL_drifts 6 = .ok (.iload_n 1, 1) := by decide +kernel
theorem dL_drifts_7 : decode cL_drifts 7 = .ok (.bipush 6, 2) := by decide +kernel
theorem dL_drifts_9 : decode cL_drifts 9 = .ok (.irem, 1) := by decide +kernel
theorem dL_drifts_10 : decode cL_drifts 10 = .ok (.istore 6, 2) := by decide +kernel
theorem dL_drifts_12 : decode cL_drifts 12 = .ok (.iload_n 0, 1) := by decide +kernel
theorem dL_drifts_13 : decode cL_drifts 13 = .ok (.iload_n 2, 1) := by decide +kernel
theorem dL_drifts_14 : decode cL_drifts 14 = .ok (.iload_n 3, 1) := by decide +kernel
theorem dL_drifts_15 : decode cL_drifts 15 = .ok (.invokestatic 32, 3) := by decide +kernel
theorem dL_drifts_18 : decode cL_drifts 18 = .ok (.istore 7, 2) := by decide +kernel
theorem dL_drifts_20 : decode cL_drifts 20 = .ok (.iload_n 0, 1) := by decide +kernel
theorem dL_drifts_21 : decode cL_drifts 21 = .ok (.iload 4, 2) := by decide +kernel
theorem dL_drifts_23 : decode cL_drifts 23 = .ok (.iload 6, 2) := by decide +kernel
theorem dL_drifts_25 : decode cL_drifts 25 = .ok (.invokestatic 35, 3) := by decide +kernel
theorem dL_drifts_28 : decode cL_drifts 28 = .ok (.istore 8, 2) := by decide +kernel
theorem dL_drifts_30 : decode cL_drifts 30 = .ok (.iload 5, 2) := by decide +kernel
theorem dL_drifts_32 : decode cL_drifts 32 = .ok (.iload 7, 2) := by decide +kernel
theorem dL_drifts_34 : decode cL_drifts 34 = .ok (.iconst 1, 1) := by decide +kernel
theorem dL_drifts_35 : decode cL_drifts 35 = .ok (.if_icmp .ne 8, 3) := by decide +kernel
theorem dL_drifts_38 : decode cL_drifts 38 = .ok (.iload 8, 2) := by decide +kernel
theorem dL_drifts_40 : decode cL_drifts 40 = .ok (.goto 17, 3) := by decide +kernel
theorem dL_drifts_43 : decode cL_drifts 43 = .ok (.iload 7, 2) := by decide +kernel
theorem dL_drifts_45 : decode cL_drifts 45 = .ok (.iconst 3, 1) := by decide +kernel
theorem dL_drifts_46 : decode cL_drifts 46 = .ok (.if_icmp .ne 10, 3) := by decide +kernel
theorem dL_drifts_49 : decode cL_drifts 49 = .ok (.iconst 0, 1) := by decide +kernel
theorem dL_drifts_50 : decode cL_drifts 50 = .ok (.iload 8, 2) := by decide +kernel
theorem dL_drifts_52 : decode cL_drifts 52 = .ok (.isub, 1) := by decide +kernel
theorem dL_drifts_53 : decode cL_drifts 53 = .ok (.goto 4, 3) := by decide +kernel
theorem dL_drifts_56 : decode cL_drifts 56 = .ok (.iconst 0, 1) := by decide +kernel
theorem dL_drifts_57 : decode cL_drifts 57 = .ok (.iadd, 1) := by decide +kernel
theorem dL_drifts_58 : decode cL_drifts 58 = .ok (.istore 5, 2) := by decide +kernel
theorem dL_drifts_60 : decode cL_drifts 60 = .ok (.iload 6, 2) := by decide +kernel
theorem dL_drifts_62 : decode cL_drifts 62 = .ok (.iload 7, 2) := by decide +kernel
theorem dL_drifts_64 : decode cL_drifts 64 = .ok (.ifCond .ne 8, 3) := by decide +kernel
theorem dL_drifts_67 : decode cL_drifts 67 = .ok (.iload 8, 2) := by decide +kernel
theorem dL_drifts_69 : decode cL_drifts 69 = .ok (.goto 17, 3) := by decide +kernel
theorem dL_drifts_72 : decode cL_drifts 72 = .ok (.iload 7, 2) := by decide +kernel
theorem dL_drifts_74 : decode cL_drifts 74 = .ok (.iconst 2, 1) := by decide +kernel
theorem dL_drifts_75 : decode cL_drifts 75 = .ok (.if_icmp .ne 10, 3) := by decide +kernel
theorem dL_drifts_78 : decode cL_drifts 78 = .ok (.iconst 0, 1) := by decide +kernel
theorem dL_drifts_79 : decode cL_drifts 79 = .ok (.iload 8, 2) := by decide +kernel
theorem dL_drifts_81 : decode cL_drifts 81 = .ok (.isub, 1) := by decide +kernel
theorem dL_drifts_82 : decode cL_drifts 82 = .ok (.goto 4, 3) := by decide +kernel
theorem dL_drifts_85 : decode cL_drifts 85 = .ok (.iconst 0, 1) := by decide +kernel
theorem dL_drifts_86 : decode cL_drifts 86 = .ok (.iadd, 1) := by decide +kernel
theorem dL_drifts_87 : decode cL_drifts 87 = .ok (.istore 6, 2) := by decide +kernel
theorem dL_drifts_89 : decode cL_drifts 89 = .ok (.iload 5, 2) := by decide +kernel
theorem dL_drifts_91 : decode cL_drifts 91 = .ok (.iconst 5, 1) := by decide +kernel
theorem dL_drifts_92 : decode cL_drifts 92 = .ok (.if_icmp .le 7, 3) := by decide +kernel
theorem dL_drifts_95 : decode cL_drifts 95 = .ok (.iconst 5, 1) := by decide +kernel
theorem dL_drifts_96 : decode cL_drifts 96 = .ok (.goto 14, 3) := by decide +kernel
theorem dL_drifts_99 : decode cL_drifts 99 = .ok (.iload 5, 2) := by decide +kernel
theorem dL_drifts_101 : decode cL_drifts 101 = .ok (.ifCond .ge 7, 3) := by decide +kernel
theorem dL_drifts_104 : decode cL_drifts 104 = .ok (.iconst 0, 1) := by decide +kernel
theorem dL_drifts_105 : decode cL_drifts 105 = .ok (.goto 5, 3) := by decide +kernel
theorem dL_drifts_108 : decode cL_drifts 108 = .ok (.iload 5, 2) := by decide +kernel
theorem dL_drifts_110 : decode cL_drifts 110 = .ok (.istore 5, 2) := by decide +kernel
theorem dL_drifts_112 : decode cL_drifts 112 = .ok (.iload 6, 2) := by decide +kernel
theorem dL_drifts_114 : decode cL_drifts 114 = .ok (.iconst 5, 1) := by decide +kernel
theorem dL_drifts_115 : decode cL_drifts 115 = .ok (.if_icmp .le 7, 3) := by decide +kernel
theorem dL_drifts_118 : decode cL_drifts 118 = .ok (.iconst 5, 1) := by decide +kernel
theorem dL_drifts_119 : decode cL_drifts 119 = .ok (.goto 14, 3) := by decide +kernel
theorem dL_drifts_122 : decode cL_drifts 122 = .ok (.iload 6, 2) := by decide +kernel
theorem dL_drifts_124 : decode cL_drifts 124 = .ok (.ifCond .ge 7, 3) := by decide +kernel
theorem dL_drifts_127 : decode cL_drifts 127 = .ok (.iconst 0, 1) := by decide +kernel
theorem dL_drifts_128 : decode cL_drifts 128 = .ok (.goto 5, 3) := by decide +kernel
theorem dL_drifts_131 : decode cL_drifts 131 = .ok (.iload 6, 2) := by decide +kernel
theorem dL_drifts_133 : decode cL_drifts 133 = .ok (.istore 6, 2) := by decide +kernel
theorem dL_drifts_135 : decode cL_drifts 135 = .ok (.bipush 6, 2) := by decide +kernel
theorem dL_drifts_137 : decode cL_drifts 137 = .ok (.iload 5, 2) := by decide +kernel
theorem dL_drifts_139 : decode cL_drifts 139 = .ok (.imul, 1) := by decide +kernel
theorem dL_drifts_140 : decode cL_drifts 140 = .ok (.iload 6, 2) := by decide +kernel
theorem dL_drifts_142 : decode cL_drifts 142 = .ok (.iadd, 1) := by decide +kernel
theorem dL_drifts_143 : decode cL_drifts 143 = .ok (.ireturn, 1) := by decide +kernel
set_option maxRecDepth 20000 in
theorem ggL_drift_L_drifts : GoodIn wsL_drift wsL_drifts := goodIn_r _ [4, 5, 6, 3, 7, 8, 9, 10] (by decide +kernel) (by decide +kernel)
set_option maxRecDepth 20000 in
theorem gL_drift_L_drifts : GoodIn wsL_drift (va_wsS RL 38 yL_drifts wsL_drifts) := goodIn_app (goodIn_of _ (by decide +kernel)) ggL_drift_L_drifts
theorem dL_drift_0 : decode cL_drift 0 = .ok (.aload_n 0, 1) := by decide +kernel
theorem dL_drift_1 : decode cL_drift 1 = .ok (.bipush 17, 2) := by decide +kernel
theorem dL_drift_3 : decode cL_drift 3 = .ok (.iload_n 3, 1) := by decide +kernel
theorem dL_drift_4 : decode cL_drift 4 = .ok (.bipush 12, 2) := by decide +kernel
theorem dL_drift_6 : decode cL_drift 6 = .ok (.irem, 1) := by decide +kernel
theorem dL_drift_7 : decode cL_drift 7 = .ok (.iadd, 1) := by decide +kernel
theorem dL_drift_8 : decode cL_drift 8 = .ok (.iaload, 1) := by decide +kernel
theorem dL_drift_9 : decode cL_drift 9 = .ok (.istore 4, 2) := by decide +kernel
theorem dL_drift_11 : decode cL_drift 11 = .ok (.iload_n 1, 1) := by decide +kernel
theorem dL_drift_12 : decode cL_drift 12 = .ok (.iload_n 2, 1) := by decide +kernel
theorem dL_drift_13 : decode cL_drift 13 = .ok (.iload_n 3, 1) := by decide +kernel
theorem dL_drift_14 : decode cL_drift 14 = .ok (.iload 4, 2) := by decide +kernel
theorem dL_drift_16 : decode cL_drift 16 = .ok (.iconst 4, 1) := by decide +kernel
theorem dL_drift_17 : decode cL_drift 17 = .ok (.irem, 1) := by decide +kernel
theorem dL_drift_18 : decode cL_drift 18 = .ok (.iload 4, 2) := by decide +kernel
theorem dL_drift_20 : decode cL_drift 20 = .ok (.iconst 4, 1) := by decide +kernel
theorem dL_drift_21 : decode cL_drift 21 = .ok (.idiv, 1) := by decide +kernel
theorem dL_drift_22 : decode cL_drift 22 = .ok (.invokestatic 38, 3) := by decide +kernel
theorem dL_drift_25 : decode cL_drift 25 = .ok (.ireturn, 1) := by decide +kernel
theorem dL_far_0 : decode cL_far 0 = .ok (.iload_n 0, 1) := by decide +kernel
theorem dL_far_1 : decode cL_far 1 = .ok (.bipush 6, 2) := by decide +kernel
theorem dL_far_3 : decode cL_far 3 = .ok (.irem, 1) := by decide +kernel
theorem dL_far_4 : decode cL_far 4 = .ok (.iload_n 1, 1) := by decide +kernel
theorem dL_far_5 : decode cL_far 5 = .ok (.bipush 6, 2) := by decide +kernel
theorem dL_far_7 : decode cL_far 7 = .ok (.irem, 1) := by decide +kernel
theorem dL_far_8 : decode cL_far 8 = .ok (.if_icmp .le 15, 3) := by decide +kernel
theorem dL_far_11 : decode cL_far 11 = .ok (.iload_n 0, 1) := by decide +kernel
theorem dL_far_12 : decode cL_far 12 = .ok (.bipush 6, 2) := by decide +kernel
theorem dL_far_14 : decode cL_far 14 = .ok (.irem, 1) := by decide +kernel
theorem dL_far_15 : decode cL_far 15 = .ok (.iload_n 1, 1) := by decide +kernel
theorem dL_far_16 : decode cL_far 16 = .ok (.bipush 6, 2) := by decide +kernel
theorem dL_far_18 : decode cL_far 18 = .ok (.irem, 1) := by decide +kernel
theorem dL_far_19 : decode cL_far 19 = .ok (.isub, 1) := by decide +kernel
theorem dL_far_20 : decode cL_far 20 = .ok (.goto 12, 3) := by decide +kernel
theorem dL_far_23 : decode cL_far 23 = .ok (.iload_n 1, 1) := by decide +kernel
theorem dL_far_24 : decode cL_far 24 = .ok (.bipush 6, 2) := by decide +kernel
theorem dL_far_26 : decode cL_far 26 = .ok (.irem, 1) := by decide +kernel
theorem dL_far_27 : decode cL_far 27 = .ok (.iload_n 0, 1) := by decide +kernel
theorem dL_far_28 : decode cL_far 28 = .ok (.bipush 6, 2) := by decide +kernel
theorem dL_far_30 : decode cL_far 30 = .ok (.irem, 1) := by decide +kernel
theorem dL_far_31 : decode cL_far 31 = .ok (.isub, 1) := by decide +kernel
theorem dL_far_32 : decode cL_far 32 = .ok (.istore_n 2, 1) := by decide +kernel
theorem dL_far_33 : decode cL_far 33 = .ok (.iload_n 2, 1) := by decide +kernel
theorem dL_far_34 : decode cL_far 34 = .ok (.iload_n 0, 1) := by decide +kernel
theorem dL_far_35 : decode cL_far 35 = .ok (.bipush 6, 2) := by decide +kernel
theorem dL_far_37 : decode cL_far 37 = .ok (.idiv, 1) := by decide +kernel
theorem dL_far_38 : decode cL_far 38 = .ok (.iload_n 1, 1) := by decide +kernel
theorem dL_far_39 : decode cL_far 39 = .ok (.bipush 6, 2) := by decide +kernel
theorem dL_far_41 : decode cL_far 41 = .ok (.idiv, 1) := by decide +kernel
theorem dL_far_42 : decode cL_far 42 = .ok (.if_icmp .le 15, 3) := by decide +kernel
theorem dL_far_45 : decode cL_far 45 = .ok (.iload_n 0, 1) := by decide +kernel
theorem dL_far_46 : decode cL_far 46 = .ok (.bipush 6, 2) := by decide +kernel
theorem dL_far_48 : decode cL_far 48 = .ok (.idiv, 1) := by decide +kernel
theorem dL_far_49 : decode cL_far 49 = .ok (.iload_n 1, 1) := by decide +kernel
theorem dL_far_50 : decode cL_far 50 = .ok (.bipush 6, 2) := by decide +kernel
theorem dL_far_52 : decode cL_far 52 = .ok (.idiv, 1) := by decide +kernel
theorem dL_far_53 : decode cL_far 53 = .ok (.isub, 1) := by decide +kernel
theorem dL_far_54 : decode cL_far 54 = .ok (.goto 12, 3) := by decide +kernel
theorem dL_far_57 : decode cL_far 57 = .ok (.iload_n 1, 1) := by decide +kernel
theorem dL_far_58 : decode cL_far 58 = .ok (.bipush 6, 2) := by decide +kernel
theorem dL_far_60 : decode cL_far 60 = .ok (.idiv, 1) := by decide +kernel
theorem dL_far_61 : decode cL_far 61 = .ok (.iload_n 0, 1) := by decide +kernel
theorem dL_far_62 : decode cL_far 62 = .ok (.bipush 6, 2) := by decide +kernel
theorem dL_far_64 : decode cL_far 64 = .ok (.idiv, 1) := by decide +kernel
theorem dL_far_65 : decode cL_far 65 = .ok (.isub, 1) := by decide +kernel
theorem dL_far_66 : decode cL_far 66 = .ok (.iadd, 1) := by decide +kernel
theorem dL_far_67 : decode cL_far 67 = .ok (.ireturn, 1) := by decide +kernel
set_option maxRecDepth 20000 in
theorem ggL_law_X3_init : GoodIn wsL_law wsX3_init := goodIn_r _ [7, 8, 9, 10, 11, 12, 13, 14, 15, 16, 17, 18, 19, 20, 21, 22, 23, 3, 24, 25, 26, 27, 28, 29, 30, 31, 32, 33, 34, 35, 36, 37, 38, 39, 40, 41, 42, 43, 44, 45, 418, 419, 420, 421, 422, 423, 424, 425, 426, 427, 428, 429, 430, 406, 407, 408, 409, 410, 411, 412, 413, 414, 415, 416, 417, 431, 432, 433, 434] (by decide +kernel) (by decide +kernel)
set_option maxRecDepth 20000 in
theorem gL_law_X3_init : GoodIn wsL_law (wsX3_init) := ggL_law_X3_init
set_option maxRecDepth 20000 in
theorem ggL_law_L_cell : GoodIn wsL_law wsL_cell := goodIn_r _ [49, 50] (by decide +kernel) (by decide +kernel)
set_option maxRecDepth 20000 in
theorem gL_law_L_cell : GoodIn wsL_law (va_wsS RL 9 yL_cell wsL_cell) := goodIn_app (goodIn_of _ (by decide +kernel)) ggL_law_L_cell
set_option maxRecDepth 20000 in
theorem ggL_law_L_low : GoodIn wsL_law wsL_low := goodIn_r _ [53, 54] (by decide +kernel) (by decide +kernel)
set_option maxRecDepth 20000 in
theorem gL_law_L_low : GoodIn wsL_law (va_wsS RL 15 yL_low wsL_low) := goodIn_app (goodIn_of _ (by decide +kernel)) ggL_law_L_low
set_option maxRecDepth 20000 in
theorem ggL_law_L_sea : GoodIn wsL_law wsL_sea := goodIn_r _ [57, 46, 47, 48, 49, 50, 51, 52, 53, 54, 58, 59, 60, 2, 61, 14, 62, 63, 64, 65, 66, 67, 68, 69, 70, 71, 72, 73, 13, 74, 75, 30, 31, 76, 77, 78, 79, 38, 39, 40, 41, 80, 81, 82, 83, 84, 85, 86, 87, 88, 89, 90, 91, 92, 93, 94, 95, 96, 97, 98, 99, 100, 101, 102, 103, 104, 105, 106, 107, 108, 109, 110, 111, 32, 33, 34, 406, 407, 408, 409, 410, 411, 412, 413, 414, 415, 416, 417, 418, 419, 420, 421, 422, 423, 424, 425, 426, 427, 428, 429, 430] (by decide +kernel) (by decide +kernel)
set_option maxRecDepth 20000 in
theorem gL_law_L_sea : GoodIn wsL_law (va_wsS RL 70 yL_sea wsL_sea) := goodIn_app (goodIn_of _ (by decide +kernel)) ggL_law_L_sea
set_option maxRecDepth 20000 in
theorem ggL_law_X3_count : GoodIn wsL_law wsX3_count := goodIn_r _ [115, 14, 62, 116, 117, 118, 119, 20, 120, 121, 122, 123, 13, 124, 76, 33, 125, 2, 126, 66, 67, 68, 69, 70, 406, 407, 408, 409, 410, 411, 412, 413, 414, 415, 416, 417, 418, 419, 420, 421, 422, 423, 424, 425, 426, 427, 428, 429, 430, 431, 432, 433, 434] (by decide +kernel) (by decide +kernel)
set_option maxRecDepth 20000 in
theorem gL_law_X3_count : GoodIn wsL_law (wsV RL 46 RX3 yX3_count wsX3_count) := goodIn_app (goodIn_of _ (by decide +kernel)) ggL_law_X3_count
set_option maxRecDepth 20000 in
theorem ggL_law_X3_of : GoodIn wsL_law wsX3_of := goodIn_r _ [130, 14, 131, 132, 133, 134, 135, 136, 2, 137, 62, 63, 64, 65, 66, 67, 68, 69, 70, 138, 125, 126, 406, 407, 408, 409, 410, 411, 412, 413, 414, 415, 416, 417, 418, 419, 420, 421, 422, 423, 424, 425, 426, 427, 428, 429, 430] (by decide +kernel) (by decide +kernel)
set_option maxRecDepth 20000 in
theorem gL_law_X3_of : GoodIn wsL_law (wsV RL 53 RX3 yX3_of wsX3_of) := goodIn_app (goodIn_of _ (by decide +kernel)) ggL_law_X3_of
set_option maxRecDepth 20000 in
theorem ggL_law_X3_image : GoodIn wsL_law wsX3_image := goodIn_r _ [142, 16, 11, 12, 13, 14, 63, 64, 2, 65, 66, 67, 68, 69, 70, 26, 27, 28, 29, 9, 10, 3, 30, 31, 32, 33, 34, 35, 36, 37, 38, 39, 40, 41, 143, 144, 145, 146, 75, 147, 148, 149, 150, 76, 77, 78, 79, 406, 407, 408, 409, 410, 411, 412, 413, 414, 415, 416, 417, 418, 419, 420, 421, 422, 423, 424, 425, 426, 427, 428, 429, 430] (by decide +kernel) (by decide +kernel)
set_option maxRecDepth 20000 in
theorem gL_law_X3_image : GoodIn wsL_law (wsV RL 73 RX3 yX3_image wsX3_image) := goodIn_app (goodIn_of _ (by decide +kernel)) ggL_law_X3_image
set_option maxRecDepth 20000 in
theorem ggL_law_X3_then : GoodIn wsL_law wsX3_then := goodIn_r _ [154, 14, 134, 135, 136, 2, 137, 62, 63, 64, 65, 66, 67, 68, 69, 70, 155, 156, 157, 13, 158, 32, 33, 75, 159, 160, 161, 162, 163, 164, 165, 166, 30, 31, 167, 168, 169, 170, 171, 172, 173, 174, 175, 176, 177, 178, 179, 180, 181, 182, 183, 406, 407, 408, 409, 410, 411, 412, 413, 414, 415, 416, 417, 418, 419, 420, 421, 422, 423, 424, 425, 426, 427, 428, 429, 430] (by decide +kernel) (by decide +kernel)
set_option maxRecDepth 20000 in
theorem gL_law_X3_then : GoodIn wsL_law (wsV RL 76 RX3 yX3_then wsX3_then) := goodIn_app (goodIn_of _ (by decide +kernel)) ggL_law_X3_then
set_option maxRecDepth 20000 in
theorem ggL_law_L_far : GoodIn wsL_law wsL_far := goodIn_r _ [186] (by decide +kernel) (by decide +kernel)
set_option maxRecDepth 20000 in
theorem gL_law_L_far : GoodIn wsL_law (va_wsS RL 79 yL_far wsL_far) := goodIn_app (goodIn_of _ (by decide +kernel)) ggL_law_L_far
set_option maxRecDepth 20000 in
theorem ggL_law_X3_month : GoodIn wsL_law wsX3_month := goodIn_r _ [190, 14, 63, 64, 2, 65, 66, 67, 68, 69, 70, 191, 192, 193, 13, 194, 79, 37, 147, 148, 149, 150, 75, 33, 34, 195, 196, 197, 198, 76, 32, 199, 176, 173, 177, 163, 164, 165, 166, 30, 31, 167, 168, 169, 170, 171, 172, 174, 175, 178, 179, 180, 181, 182, 183, 121, 122, 123, 124, 125, 126, 406, 407, 408, 409, 410, 411, 412, 413, 414, 415, 416, 417, 418, 419, 420, 421, 422, 423, 424, 425, 426, 427, 428, 429, 430] (by decide +kernel) (by decide +kernel)
set_option maxRecDepth 20000 in
theorem gL_law_X3_month : GoodIn wsL_law (wsV RL 60 RX3 yX3_month wsX3_month) := goodIn_app (goodIn_of _ (by decide +kernel)) ggL_law_X3_month
set_option maxRecDepth 20000 in
theorem ggL_law_X3_undo : GoodIn wsL_law wsX3_undo := goodIn_r _ [203, 14, 119, 116, 204, 205, 206, 2, 207, 208, 209, 210, 211, 13, 212, 79, 37, 75, 33, 147, 148, 149, 150, 34, 406, 407, 408, 409, 410, 411, 412, 413, 414, 415, 416, 417, 418, 419, 420, 421, 422, 423, 424, 425, 426, 427, 428, 429, 430] (by decide +kernel) (by decide +kernel)
set_option maxRecDepth 20000 in
theorem gL_law_X3_undo : GoodIn wsL_law (wsV RL 82 RX3 yX3_undo wsX3_undo) := goodIn_app (goodIn_of _ (by decide +kernel)) ggL_law_X3_undo
set_option maxRecDepth 20000 in
theorem ggL_law_X3_out : GoodIn wsL_law wsX3_out := goodIn_r _ [216, 14, 131, 132, 134, 135, 136, 2, 137, 62, 63, 64, 65, 217, 218, 219, 13, 220, 75, 125, 126, 163, 164, 165, 166, 30, 31, 167, 168, 169, 170, 171, 172, 173, 174, 175, 176, 177, 178, 179, 180, 181, 182, 183, 66, 67, 68, 69, 70, 406, 407, 408, 409, 410, 411, 412, 413, 414, 415, 416, 417, 418, 419, 420, 421, 422, 423, 424, 425, 426, 427, 428, 429, 430] (by decide +kernel) (by decide +kernel)
set_option maxRecDepth 20000 in
theorem gL_law_X3_out : GoodIn wsL_law (wsV RL 86 RX3 yX3_out wsX3_out) := goodIn_app (goodIn_of _ (by decide +kernel)) ggL_law_X3_out
set_option maxRecDepth 20000 in
theorem ggL_law_X3_need : GoodIn wsL_law wsX3_need := goodIn_r _ [224, 14, 131, 132, 133, 225, 176, 173, 177, 134, 135, 136, 2, 137, 62, 63, 64, 65, 66, 67, 68, 69, 70, 217, 218, 219, 13, 220, 75, 125, 126, 163, 164, 165, 166, 30, 31, 167, 168, 169, 170, 171, 172, 174, 175, 178, 179, 180, 181, 182, 183, 406, 407, 408, 409, 410, 411, 412, 413, 414, 415, 416, 417, 418, 419, 420, 421, 422, 423, 424, 425, 426, 427, 428, 429, 430] (by decide +kernel) (by decide +kernel)
set_option maxRecDepth 20000 in
theorem gL_law_X3_need : GoodIn wsL_law (wsV RL 89 RX3 yX3_need wsX3_need) := goodIn_app (goodIn_of _ (by decide +kernel)) ggL_law_X3_need
set_option maxRecDepth 20000 in
theorem ggL_law_X3_feed : GoodIn wsL_law wsX3_feed := goodIn_r _ [229, 14, 133, 230, 172, 173, 174, 134, 135, 136, 2, 137, 62, 63, 64, 65, 66, 67, 68, 69, 70, 191, 192, 193, 13, 194, 79, 37, 147, 148, 149, 150, 75, 33, 34, 406, 407, 408, 409, 410, 411, 412, 413, 414, 415, 416, 417, 418, 419, 420, 421, 422, 423, 424, 425, 426, 427, 428, 429, 430] (by decide +kernel) (by decide +kernel)
set_option maxRecDepth 20000 in
theorem gL_law_X3_feed : GoodIn wsL_law (wsV RL 63 RX3 yX3_feed wsX3_feed) := goodIn_app (goodIn_of _ (by decide +kernel)) ggL_law_X3_feed
set_option maxRecDepth 20000 in
theorem ggL_law_X3_from : GoodIn wsL_law wsX3_from := goodIn_r _ [234, 16, 14, 63, 64, 2, 65, 66, 67, 68, 69, 70, 204, 205, 206, 207, 208, 143, 144, 145, 13, 146, 75, 30, 147, 148, 149, 150, 31, 76, 32, 33, 34, 77, 35, 78, 36, 79, 37, 406, 407, 408, 409, 410, 411, 412, 413, 414, 415, 416, 417, 418, 419, 420, 421, 422, 423, 424, 425, 426, 427, 428, 429, 430] (by decide +kernel) (by decide +kernel)
set_option maxRecDepth 20000 in
theorem gL_law_X3_from : GoodIn wsL_law (wsV RL 92 RX3 yX3_from wsX3_from) := goodIn_app (goodIn_of _ (by decide +kernel)) ggL_law_X3_from
set_option maxRecDepth 20000 in
theorem ggL_law_X3_enter : GoodIn wsL_law wsX3_enter := goodIn_r _ [238, 14, 97, 98, 2, 99, 63, 64, 65, 66, 67, 68, 69, 70, 217, 218, 219, 13, 220, 75, 125, 126, 163, 164, 165, 166, 30, 31, 167, 168, 169, 170, 171, 172, 173, 174, 175, 176, 177, 178, 179, 180, 181, 182, 183, 406, 407, 408, 409, 410, 411, 412, 413, 414, 415, 416, 417, 418, 419, 420, 421, 422, 423, 424, 425, 426, 427, 428, 429, 430] (by decide +kernel) (by decide +kernel)
set_option maxRecDepth 20000 in
theorem gL_law_X3_enter : GoodIn wsL_law (wsV RL 95 RX3 yX3_enter wsX3_enter) := goodIn_app (goodIn_of _ (by decide +kernel)) ggL_law_X3_enter
set_option maxRecDepth 20000 in
theorem ggL_law_X3_nearest : GoodIn wsL_law wsX3_nearest := goodIn_r _ [242, 14, 132, 131, 116, 243, 244, 245, 2, 246, 134, 135, 136, 137, 62, 63, 64, 65, 247, 248, 249, 66, 67, 68, 69, 70, 250, 251, 252, 253, 254, 173, 255, 256, 164, 165, 13, 166, 30, 31, 167, 168, 169, 170, 171, 172, 174, 175, 176, 177, 178, 179, 180, 181, 182, 183, 406, 407, 408, 409, 410, 411, 412, 413, 414, 415, 416, 417, 418, 419, 420, 421, 422, 423, 424, 425, 426, 427, 428, 429, 430] (by decide +kernel) (by decide +kernel)
set_option maxRecDepth 20000 in
theorem gL_law_X3_nearest : GoodIn wsL_law (wsV RL 98 RX3 yX3_nearest wsX3_nearest) := goodIn_app (goodIn_of _ (by decide +kernel)) ggL_law_X3_nearest
set_option maxRecDepth 20000 in
theorem ggL_law_X3_leave : GoodIn wsL_law wsX3_leave := goodIn_r _ [260, 70, 243, 244, 245, 2, 246, 134, 135, 136, 137, 14, 62, 63, 64, 65, 261, 262, 263, 264, 24, 155, 156, 157, 13, 158, 32, 33, 75, 159, 160, 161, 162, 163, 164, 165, 166, 30, 31, 167, 168, 169, 170, 171, 172, 173, 174, 175, 176, 177, 178, 179, 180, 181, 182, 183, 250, 251, 252, 253, 254, 255, 265, 266, 267, 268, 34, 199, 269, 270, 271, 272, 273, 274, 275, 276, 406, 407, 408, 409, 410, 411, 412, 413, 414, 415, 416, 417, 418, 419, 420, 421, 422, 423, 424, 425, 426, 427, 428, 429, 430] (by decide +kernel) (by decide +kernel)
set_option maxRecDepth 20000 in
theorem gL_law_X3_leave : GoodIn wsL_law (wsV RL 101 RX3 yX3_leave wsX3_leave) := goodIn_app (goodIn_of _ (by decide +kernel)) ggL_law_X3_leave
set_option maxRecDepth 20000 in
theorem ggL_law_X3_dogs : GoodIn wsL_law wsX3_dogs := goodIn_r _ [280, 14, 132, 225, 176, 173, 177, 134, 135, 136, 2, 137, 62, 63, 64, 65, 247, 248, 249, 66, 67, 68, 69, 70, 250, 251, 252, 253, 254, 255, 281, 282, 283, 284, 285, 286, 287, 155, 156, 157, 13, 158, 32, 33, 75, 159, 160, 161, 162, 163, 164, 165, 166, 30, 31, 167, 168, 169, 170, 171, 172, 174, 175, 178, 179, 180, 181, 182, 183, 406, 407, 408, 409, 410, 411, 412, 413, 414, 415, 416, 417, 418, 419, 420, 421, 422, 423, 424, 425, 426, 427, 428, 429, 430] (by decide +kernel) (by decide +kernel)
set_option maxRecDepth 20000 in
theorem gL_law_X3_dogs : GoodIn wsL_law (wsV RL 104 RX3 yX3_dogs wsX3_dogs) := goodIn_app (goodIn_of _ (by decide +kernel)) ggL_law_X3_dogs
set_option maxRecDepth 20000 in
theorem ggL_law_L_drift : GoodIn wsL_law wsL_drift := goodIn_r _ [290, 291, 292, 48, 293, 294, 295, 296, 297, 298, 299] (by decide +kernel) (by decide +kernel)
set_option maxRecDepth 20000 in
theorem gL_law_L_drift : GoodIn wsL_law (va_wsS RL 42 yL_drift wsL_drift) := goodIn_app (goodIn_of _ (by decide +kernel)) ggL_law_L_drift
set_option maxRecDepth 20000 in
theorem ggL_law_X3_forget : GoodIn wsL_law wsX3_forget := goodIn_r _ [303, 14, 117, 118, 247, 248, 2, 249, 63, 64, 65, 66, 67, 68, 69, 70, 406, 407, 408, 409, 410, 411, 412, 413, 414, 415, 416, 417, 418, 419, 420, 421, 422, 423, 424, 425, 426, 427, 428, 429, 430] (by decide +kernel) (by decide +kernel)
set_option maxRecDepth 20000 in
theorem gL_law_X3_forget : GoodIn wsL_law (wsV RL 107 RX3 yX3_forget wsX3_forget) := goodIn_app (goodIn_of _ (by decide +kernel)) ggL_law_X3_forget
set_option maxRecDepth 20000 in
theorem ggL_law_X3_found : GoodIn wsL_law wsX3_found := goodIn_r _ [307, 14, 117, 97, 98, 2, 99, 63, 64, 65, 100, 101, 102, 66, 67, 68, 69, 70, 103, 104, 105, 106, 107, 308, 309, 310, 13, 311, 77, 35, 406, 407, 408, 409, 410, 411, 412, 413, 414, 415, 416, 417, 418, 419, 420, 421, 422, 423, 424, 425, 426, 427, 428, 429, 430] (by decide +kernel) (by decide +kernel)
set_option maxRecDepth 20000 in
theorem gL_law_X3_found : GoodIn wsL_law (wsV RL 110 RX3 yX3_found wsX3_found) := goodIn_app (goodIn_of _ (by decide +kernel)) ggL_law_X3_found
set_option maxRecDepth 20000 in
theorem ggL_law_X3_whence : GoodIn wsL_law wsX3_whence := goodIn_r _ [315, 14, 247, 248, 2, 249, 63, 64, 65, 66, 67, 68, 69, 70, 316, 317, 318, 13, 319, 77, 35, 159, 160, 161, 162, 163, 164, 165, 166, 30, 31, 167, 168, 169, 170, 171, 172, 173, 174, 175, 176, 177, 178, 179, 180, 181, 182, 183, 406, 407, 408, 409, 410, 411, 412, 413, 414, 415, 416, 417, 418, 419, 420, 421, 422, 423, 424, 425, 426, 427, 428, 429, 430] (by decide +kernel) (by decide +kernel)
set_option maxRecDepth 20000 in
theorem gL_law_X3_whence : GoodIn wsL_law (wsV RL 113 RX3 yX3_whence wsX3_whence) := goodIn_app (goodIn_of _ (by decide +kernel)) ggL_law_X3_whence
set_option maxRecDepth 20000 in
theorem ggL_law_L_many : GoodIn wsL_law wsL_many := goodIn_r _ [299] (by decide +kernel) (by decide +kernel)
set_option maxRecDepth 20000 in
theorem gL_law_L_many : GoodIn wsL_law (va_wsS RL 35 yL_many wsL_many) := goodIn_app (goodIn_of _ (by decide +kernel)) ggL_law_L_many
set_option maxRecDepth 20000 in
theorem ggL_law_L_way : GoodIn wsL_law wsL_way := goodIn_r _ [296] (by decide +kernel) (by decide +kernel)
set_option maxRecDepth 20000 in
theorem gL_law_L_way : GoodIn wsL_law (va_wsS RL 32 yL_way wsL_way) := goodIn_app (goodIn_of _ (by decide +kernel)) ggL_law_L_way
set_option maxRecDepth 20000 in
theorem ggL_law_X3_note : GoodIn wsL_law wsX3_note := goodIn_r _ [323, 14, 118, 134, 135, 136, 2, 137, 62, 63, 64, 65, 86, 87, 88, 66, 67, 68, 69, 70, 103, 104, 105, 106, 107, 324, 325, 326, 13, 327, 78, 36, 406, 407, 408, 409, 410, 411, 412, 413, 414, 415, 416, 417, 418, 419, 420, 421, 422, 423, 424, 425, 426, 427, 428, 429, 430] (by decide +kernel) (by decide +kernel)
set_option maxRecDepth 20000 in
theorem gL_law_X3_note : GoodIn wsL_law (wsV RL 116 RX3 yX3_note wsX3_note) := goodIn_app (goodIn_of _ (by decide +kernel)) ggL_law_X3_note
set_option maxRecDepth 20000 in
theorem ggL_law_X3_is : GoodIn wsL_law wsX3_is := goodIn_r _ [331, 14, 134, 135, 136, 2, 137, 62, 63, 64, 65, 332, 333, 334, 13, 335, 336, 337, 338, 339, 78, 36, 340, 341, 342, 343, 344, 179, 169, 180, 345, 182, 183, 66, 67, 68, 69, 70, 406, 407, 408, 409, 410, 411, 412, 413, 414, 415, 416, 417, 418, 419, 420, 421, 422, 423, 424, 425, 426, 427, 428, 429, 430] (by decide +kernel) (by decide +kernel)
set_option maxRecDepth 20000 in
theorem gL_law_X3_is : GoodIn wsL_law (wsV RL 120 RX3 yX3_is wsX3_is) := goodIn_app (goodIn_of _ (by decide +kernel)) ggL_law_X3_is
set_option maxRecDepth 20000 in
theorem ggL_law_X3_waits : GoodIn wsL_law wsX3_waits := goodIn_r _ [349, 14, 116, 132, 134, 135, 136, 2, 137, 62, 63, 64, 65, 66, 67, 68, 69, 70, 332, 333, 334, 13, 335, 336, 337, 338, 339, 78, 36, 340, 341, 342, 343, 344, 179, 169, 180, 345, 182, 183, 350, 351, 352, 353, 199, 176, 173, 177, 354, 355, 356, 357, 30, 31, 358, 359, 360, 178, 181, 406, 407, 408, 409, 410, 411, 412, 413, 414, 415, 416, 417, 418, 419, 420, 421, 422, 423, 424, 425, 426, 427, 428, 429, 430] (by decide +kernel) (by decide +kernel)
set_option maxRecDepth 20000 in
theorem gL_law_X3_waits : GoodIn wsL_law (wsV RL 123 RX3 yX3_waits wsX3_waits) := goodIn_app (goodIn_of _ (by decide +kernel)) ggL_law_X3_waits
set_option maxRecDepth 20000 in
theorem ggL_law_X3_calms : GoodIn wsL_law wsX3_calms := goodIn_r _ [364, 22, 14, 132, 131, 116, 365, 134, 135, 136, 2, 137, 62, 63, 64, 65, 66, 67, 68, 69, 70, 366, 367, 40, 368, 369, 370, 371, 372, 23, 84, 373, 148, 149, 150, 374, 168, 169, 170, 171, 172, 173, 174, 175, 176, 177, 178, 179, 180, 181, 182, 183, 256, 164, 165, 13, 166, 30, 31, 167, 375, 376, 377, 378, 379, 25, 380, 381, 382, 406, 407, 408, 409, 410, 411, 412, 413, 414, 415, 416, 417, 418, 419, 420, 421, 422, 423, 424, 425, 426, 427, 428, 429, 430] (by decide +kernel) (by decide +kernel)
set_option maxRecDepth 20000 in
theorem gL_law_X3_calms : GoodIn wsL_law (wsV RL 126 RX3 yX3_calms wsX3_calms) := goodIn_app (goodIn_of _ (by decide +kernel)) ggL_law_X3_calms
set_option maxRecDepth 20000 in
theorem ggL_law_X3_part : GoodIn wsL_law wsX3_part := goodIn_r _ [386, 379, 25, 247, 248, 2, 249, 63, 64, 65, 66, 67, 68, 69, 70, 406, 407, 408, 409, 410, 411, 412, 413, 414, 415, 416, 417] (by decide +kernel) (by decide +kernel)
set_option maxRecDepth 20000 in
theorem gL_law_X3_part : GoodIn wsL_law (wsV RL 129 RX3 yX3_part wsX3_part) := goodIn_app (goodIn_of _ (by decide +kernel)) ggL_law_X3_part
set_option maxRecDepth 20000 in
theorem ggL_law_X3_years : GoodIn wsL_law wsX3_years := goodIn_r _ [390, 391, 14, 62, 63, 64, 2, 65, 66, 67, 68, 69, 70, 392, 393, 394, 13, 395, 33, 396, 397, 398, 399, 400, 401, 32, 75, 167, 168, 169, 170, 171, 172, 173, 174, 175, 176, 177, 178, 179, 180, 181, 182, 183, 138, 125, 126, 406, 407, 408, 409, 410, 411, 412, 413, 414, 415, 416, 417, 418, 419, 420, 421, 422, 423, 424, 425, 426, 427, 428, 429, 430] (by decide +kernel) (by decide +kernel)
set_option maxRecDepth 20000 in
theorem gL_law_X3_years : GoodIn wsL_law (wsV RL 134 RX3 yX3_years wsX3_years) := goodIn_app (goodIn_of _ (by decide +kernel)) ggL_law_X3_years
set_option maxRecDepth 20000 in
theorem ggL_law_X3_moves : GoodIn wsL_law wsX3_moves := goodIn_r _ [405, 14, 132, 134, 135, 136, 2, 137, 62, 63, 64, 65, 100, 101, 102, 66, 67, 68, 69, 70, 191, 192, 193, 13, 194, 79, 37, 147, 148, 149, 150, 75, 33, 34, 406, 407, 408, 409, 410, 411, 412, 413, 414, 415, 416, 417, 418, 419, 420, 421, 422, 423, 424, 425, 426, 427, 428, 429, 430] (by decide +kernel) (by decide +kernel)
set_option maxRecDepth 20000 in
theorem gL_law_X3_moves : GoodIn wsL_law (wsV RL 66 RX3 yX3_moves wsX3_moves) := goodIn_app (goodIn_of _ (by decide +kernel)) ggL_law_X3_moves
theorem dL_law_0 : decode cL_law 0 = .ok (.new 20, 3) := by decide +kernel
theorem dL_law_3 : decode cL_law 3 = .ok (.dup, 1) := by decide +kernel
theorem dL_law_4 : decode cL_law 4 = .ok (.invokespecial 69, 3) := by decide +kernel
theorem dL_law_7 : decode cL_law 7 = .ok (.astore_n 1, 1) := by decide +kernel
theorem dL_law_8 : decode cL_law 8 = .ok (.bipush 29, 2) := by decide +kernel
theorem dL_law_10 : decode cL_law 10 = .ok (.newarray .int, 2) := by decide +kernel
theorem dL_law_12 : decode cL_law 12 = .ok (.astore_n 2, 1) := by decide +kernel
theorem dL_law_13 : decode cL_law 13 = .ok (.iconst 1, 1) := by decide +kernel
theorem dL_law_14 : decode cL_law 14 = .ok (.aload_n 0, 1) := by decide +kernel
theorem dL_law_15 : decode cL_law 15 = .ok (.bipush 8, 2) := by decide +kernel
theorem dL_law_17 : decode cL_law 17 = .ok (.invokestatic 9, 3) := by decide +kernel
theorem dL_law_20 : decode cL_law 20 = .ok (.iconst 5, 1) := by decide +kernel
theorem dL_law_21 : decode cL_law 21 = .ok (.invokestatic 15, 3) := by decide +kernel
theorem dL_law_24 : decode cL_law 24 = .ok (.iadd, 1) := by decide +kernel
theorem dL_law_25 : decode cL_law 25 = .ok (.istore_n 3, 1) := by decide +kernel
theorem dL_law_26 : decode cL_law 26 = .ok (.aload_n 1, 1) := by decide +kernel
theorem dL_law_27 : decode cL_law 27 = .ok (.aload_n 0, 1) := by decide +kernel
theorem dL_law_28 : decode cL_law 28 = .ok (.iload_n 3, 1) := by decide +kernel
theorem dL_law_29 : decode cL_law 29 = .ok (.aload_n 2, 1) := by decide +kernel
theorem dL_law_30 : decode cL_law 30 = .ok (.invokestatic 70, 3) := by decide +kernel
theorem dL_law_33 : decode cL_law 33 = .ok (.ifCond .ne 5, 3) := by decide +kernel
theorem dL_law_36 : decode cL_law 36 = .ok (.iconst 0, 1) := by decide +kernel
theorem dL_law_37 : decode cL_law 37 = .ok (.ireturn, 1) := by decide +kernel
theorem dL_law_38 : decode cL_law 38 = .ok (.aload_n 2, 1) := by decide +kernel
theorem dL_law_39 : decode cL_law 39 = .ok (.bipush 16, 2) := by decide +kernel
theorem dL_law_41 : decode cL_law 41 = .ok (.iaload, 1) := by decide +kernel
theorem dL_law_42 : decode cL_law 42 = .ok (.istore 4, 2) := by decide +kernel
theorem dL_law_44 : decode cL_law 44 = .ok (.iconst 0, 1) := by decide +kernel
theorem dL_law_45 : decode cL_law 45 = .ok (.istore 5, 2) := by decide +kernel
theorem dL_law_47 : decode cL_law 47 = .ok (.iload 5, 2) := by decide +kernel
theorem dL_law_49 : decode cL_law 49 = .ok (.bipush 9, 2) := by decide +kernel
theorem dL_law_51 : decode cL_law 51 = .ok (.if_icmp .ge 1678, 3) := by decide +kernel
theorem dL_law_54 : decode cL_law 54 = .ok (.aload_n 0, 1) := by decide +kernel
theorem dL_law_55 : decode cL_law 55 = .ok (.bipush 10, 2) := by decide +kernel
theorem dL_law_57 : decode cL_law 57 = .ok (.iload 5, 2) := by decide +kernel
theorem dL_law_59 : decode cL_law 59 = .ok (.iadd, 1) := by decide +kernel
theorem dL_law_60 : decode cL_law 60 = .ok (.invokestatic 9, 3) := by decide +kernel
theorem dL_law_63 : decode cL_law 63 = .ok (.istore 6, 2) := by decide +kernel
theorem dL_law_65 : decode cL_law 65 = .ok (.iload 6, 2) := by decide +kernel
theorem dL_law_67 : decode cL_law 67 = .ok (.iload_n 3, 1) := by decide +kernel
theorem dL_law_68 : decode cL_law 68 = .ok (.invokestatic 15, 3) := by decide +kernel
theorem dL_law_71 : decode cL_law 71 = .ok (.istore 7, 2) := by decide +kernel
theorem dL_law_73 : decode cL_law 73 = .ok (.iload 7, 2) := by decide +kernel
theorem dL_law_75 : decode cL_law 75 = .ok (.iconst 1, 1) := by decide +kernel
theorem dL_law_76 : decode cL_law 76 = .ok (.iadd, 1) := by decide +kernel
theorem dL_law_77 : decode cL_law 77 = .ok (.iload_n 3, 1) := by decide +kernel
theorem dL_law_78 : decode cL_law 78 = .ok (.irem, 1) := by decide +kernel
theorem dL_law_79 : decode cL_law 79 = .ok (.istore 8, 2) := by decide +kernel
theorem dL_law_81 : decode cL_law 81 = .ok (.aload_n 1, 1) := by decide +kernel
theorem dL_law_82 : decode cL_law 82 = .ok (.iconst 5, 1) := by decide +kernel
theorem dL_law_83 : decode cL_law 83 = .ok (.invokevirtual 46, 3) := by decide +kernel
theorem dL_law_86 : decode cL_law 86 = .ok (.istore 9, 2) := by decide +kernel
theorem dL_law_88 : decode cL_law 88 = .ok (.aload_n 1, 1) := by decide +kernel
theorem dL_law_89 : decode cL_law 89 = .ok (.iconst 1, 1) := by decide +kernel
theorem dL_law_90 : decode cL_law 90 = .ok (.invokevirtual 46, 3) := by decide +kernel
theorem dL_law_93 : decode cL_law 93 = .ok (.istore 10, 2) := by decide +kernel
theorem dL_law_95 : decode cL_law 95 = .ok (.aload_n 1, 1) := by decide +kernel
theorem dL_law_96 : decode cL_law 96 = .ok (.iload 7, 2) := by decide +kernel
theorem dL_law_98 : decode cL_law 98 = .ok (.iconst 1, 1) := by decide +kernel
theorem dL_law_99 : decode cL_law 99 = .ok (.invokevirtual 53, 3) := by decide +kernel
theorem dL_law_102 : decode cL_law 102 = .ok (.istore 11, 2) := by decide +kernel
theorem dL_law_104 : decode cL_law 104 = .ok (.aload_n 1, 1) := by decide +kernel
theorem dL_law_105 : decode cL_law 105 = .ok (.iload 7, 2) := by decide +kernel
theorem dL_law_107 : decode cL_law 107 = .ok (.iconst 2, 1) := by decide +kernel
theorem dL_law_108 : decode cL_law 108 = .ok (.invokevirtual 53, 3) := by decide +kernel
theorem dL_law_111 : decode cL_law 111 = .ok (.istore 12, 2) := by decide +kernel
theorem dL_law_113 : decode cL_law 113 = .ok (.aload_n 1, 1) := by decide +kernel
theorem dL_law_114 : decode cL_law 114 = .ok (.iconst 0, 1) := by decide +kernel
theorem dL_law_115 : decode cL_law 115 = .ok (.invokevirtual 73, 3) := by decide +kernel
theorem dL_law_118 : decode cL_law 118 = .ok (.iconst 1, 1) := by decide +kernel
theorem dL_law_119 : decode cL_law 119 = .ok (.if_icmp .ne 66, 3) := by decide +kernel
theorem dL_law_122 : decode cL_law 122 = .ok (.iload 10, 2) := by decide +kernel
theorem dL_law_124 : decode cL_law 124 = .ok (.iload 4, 2) := by decide +kernel
theorem dL_law_126 : decode cL_law 126 = .ok (.if_icmp .ne 59, 3) := by decide +kernel
theorem dL_law_129 : decode cL_law 129 = .ok (.iload 11, 2) := by decide +kernel
theorem dL_law_131 : decode cL_law 131 = .ok (.ifCond .lt 54, 3) := by decide +kernel
theorem dL_law_134 : decode cL_law 134 = .ok (.iload 11, 2) := by decide +kernel
theorem dL_law_136 : decode cL_law 136 = .ok (.bipush 36, 2) := by decide +kernel
theorem dL_law_138 : decode cL_law 138 = .ok (.if_icmp .ge 47, 3) := by decide +kernel
theorem dL_law_141 : decode cL_law 141 = .ok (.iload 12, 2) := by decide +kernel
theorem dL_law_143 : decode cL_law 143 = .ok (.ifCond .lt 42, 3) := by decide +kernel
theorem dL_law_146 : decode cL_law 146 = .ok (.iload 12, 2) := by decide +kernel
theorem dL_law_148 : decode cL_law 148 = .ok (.bipush 100, 2) := by decide +kernel
theorem dL_law_150 : decode cL_law 150 = .ok (.if_icmp .ge 35, 3) := by decide +kernel
theorem dL_law_153 : decode cL_law 153 = .ok (.aload_n 1, 1) := by decide +kernel
theorem dL_law_154 : decode cL_law 154 = .ok (.iload 7, 2) := by decide +kernel
theorem dL_law_156 : decode cL_law 156 = .ok (.iconst 0, 1) := by decide +kernel
theorem dL_law_157 : decode cL_law 157 = .ok (.invokevirtual 76, 3) := by decide +kernel
theorem dL_law_160 : decode cL_law 160 = .ok (.iload 11, 2) := by decide +kernel
theorem dL_law_162 : decode cL_law 162 = .ok (.if_icmp .ne 23, 3) := by decide +kernel
theorem dL_law_165 : decode cL_law 165 = .ok (.iload 11, 2) := by decide +kernel
theorem dL_law_167 : decode cL_law 167 = .ok (.aload_n 1, 1) := by decide +kernel
theorem dL_law_168 : decode cL_law 168 = .ok (.iload 7, 2) := by decide +kernel
theorem dL_law_170 : decode cL_law 170 = .ok (.iconst 1, 1) := by decide +kernel
theorem dL_law_171 : decode cL_law 171 = .ok (.invokevirtual 76, 3) := by decide +kernel
theorem dL_law_174 : decode cL_law 174 = .ok (.invokestatic 79, 3) := by decide +kernel
theorem dL_law_177 : decode cL_law 177 = .ok (.iconst 2, 1) := by decide +kernel
theorem dL_law_178 : decode cL_law 178 = .ok (.if_icmp .gt 7, 3) := by decide +kernel
theorem dL_law_181 : decode cL_law 181 = .ok (.iconst 1, 1) := by decide +kernel
theorem dL_law_182 : decode cL_law 182 = .ok (.goto 4, 3) := by decide +kernel
theorem dL_law_185 : decode cL_law 185 = .ok (.iconst 0, 1) := by decide +kernel
theorem dL_law_186 : decode cL_law 186 = .ok (.istore 13, 2) := by decide +kernel
theorem dL_law_188 : decode cL_law 188 = .ok (.iconst 1, 1) := by decide +kernel
theorem dL_law_189 : decode cL_law 189 = .ok (.iload 6, 2) := by decide +kernel
theorem dL_law_191 : decode cL_law 191 = .ok (.iconst 3, 1) := by decide +kernel
theorem dL_law_192 : decode cL_law 192 = .ok (.ishr, 1) := by decide +kernel
theorem dL_law_193 : decode cL_law 193 = .ok (.bipush 20, 2) := by decide +kernel
theorem dL_law_195 : decode cL_law 195 = .ok (.invokestatic 15, 3) := by decide +kernel
theorem dL_law_198 : decode cL_law 198 = .ok (.iadd, 1) := by decide +kernel
theorem dL_law_199 : decode cL_law 199 = .ok (.istore 14, 2) := by decide +kernel
theorem dL_law_201 : decode cL_law 201 = .ok (.aload_n 1, 1) := by decide +kernel
theorem dL_law_202 : decode cL_law 202 = .ok (.iload 7, 2) := by decide +kernel
theorem dL_law_204 : decode cL_law 204 = .ok (.iload 14, 2) := by decide +kernel
theorem dL_law_206 : decode cL_law 206 = .ok (.invokevirtual 76, 3) := by decide +kernel
theorem dL_law_209 : decode cL_law 209 = .ok (.istore 15, 2) := by decide +kernel
theorem dL_law_211 : decode cL_law 211 = .ok (.iload 13, 2) := by decide +kernel
theorem dL_law_213 : decode cL_law 213 = .ok (.ifCond .eq 88, 3) := by decide +kernel
theorem dL_law_216 : decode cL_law 216 = .ok (.aload_n 1, 1) := by decide +kernel
theorem dL_law_217 : decode cL_law 217 = .ok (.iload 14, 2) := by decide +kernel
theorem dL_law_219 : decode cL_law 219 = .ok (.invokevirtual 60, 3) := by decide +kernel
theorem dL_law_222 : decode cL_law 222 = .ok (.ifCond .lt 79, 3) := by decide +kernel
theorem dL_law_225 : decode cL_law 225 = .ok (.aload_n 1, 1) := by decide +kernel
theorem dL_law_226 : decode cL_law 226 = .ok (.iconst 1, 1) := by decide +kernel
theorem dL_law_227 : decode cL_law 227 = .ok (.invokevirtual 46, 3) := by decide +kernel
theorem dL_law_230 : decode cL_law 230 = .ok (.iload 10, 2) := by decide +kernel
theorem dL_law_232 : decode cL_law 232 = .ok (.iload 14, 2) := by decide +kernel
theorem dL_law_234 : decode cL_law 234 = .ok (.iadd, 1) := by decide +kernel
theorem dL_law_235 : decode cL_law 235 = .ok (.if_icmp .ne 66, 3) := by decide +kernel
theorem dL_law_238 : decode cL_law 238 = .ok (.aload_n 1, 1) := by decide +kernel
theorem dL_law_239 : decode cL_law 239 = .ok (.iload 7, 2) := by decide +kernel
theorem dL_law_241 : decode cL_law 241 = .ok (.iconst 1, 1) := by decide +kernel
theorem dL_law_242 : decode cL_law 242 = .ok (.invokevirtual 53, 3) := by decide +kernel
theorem dL_law_245 : decode cL_law 245 = .ok (.iload 15, 2) := by decide +kernel
theorem dL_law_247 : decode cL_law 247 = .ok (.if_icmp .ne 54, 3) := by decide +kernel
theorem dL_law_250 : decode cL_law 250 = .ok (.aload_n 1, 1) := by decide +kernel
theorem dL_law_251 : decode cL_law 251 = .ok (.iload 7, 2) := by decide +kernel
theorem dL_law_253 : decode cL_law 253 = .ok (.iconst 2, 1) := by decide +kernel
theorem dL_law_254 : decode cL_law 254 = .ok (.invokevirtual 53, 3) := by decide +kernel
theorem dL_law_257 : decode cL_law 257 = .ok (.iload 12, 2) := by decide +kernel
theorem dL_law_259 : decode cL_law 259 = .ok (.iload 14, 2) := by decide +kernel
theorem dL_law_261 : decode cL_law 261 = .ok (.if_icmp .le 11, 3) := by decide +kernel
theorem dL_law_264 : decode cL_law 264 = .ok (.iload 12, 2) := by decide +kernel
theorem dL_law_266 : decode cL_law 266 = .ok (.iload 14, 2) := by decide +kernel
theorem dL_law_268 : decode cL_law 268 = .ok (.isub, 1) := by decide +kernel
theorem dL_law_269 : decode cL_law 269 = .ok (.goto 4, 3) := by decide +kernel
theorem dL_law_272 : decode cL_law 272 = .ok (.iconst 0, 1) := by decide +kernel
theorem dL_law_273 : decode cL_law 273 = .ok (.if_icmp .ne 28, 3) := by decide +kernel
theorem dL_law_276 : decode cL_law 276 = .ok (.aload_n 1, 1) := by decide +kernel
theorem dL_law_277 : decode cL_law 277 = .ok (.invokevirtual 82, 3) := by decide +kernel
theorem dL_law_280 : decode cL_law 280 = .ok (.iload 10, 2) := by decide +kernel
theorem dL_law_282 : decode cL_law 282 = .ok (.if_icmp .ne 19, 3) := by decide +kernel
theorem dL_law_285 : decode cL_law 285 = .ok (.aload_n 1, 1) := by decide +kernel
theorem dL_law_286 : decode cL_law 286 = .ok (.iload 7, 2) := by decide +kernel
theorem dL_law_288 : decode cL_law 288 = .ok (.iconst 1, 1) := by decide +kernel
theorem dL_law_289 : decode cL_law 289 = .ok (.invokevirtual 53, 3) := by decide +kernel
theorem dL_law_292 : decode cL_law 292 = .ok (.iload 11, 2) := by decide +kernel
theorem dL_law_294 : decode cL_law 294 = .ok (.if_icmp .ne 7, 3) := by decide +kernel
theorem dL_law_297 : decode cL_law 297 = .ok (.iconst 1, 1) := by decide +kernel
theorem dL_law_298 : decode cL_law 298 = .ok (.goto 4, 3) := by decide +kernel
theorem dL_law_301 : decode cL_law 301 = .ok (.iconst 0, 1) := by decide +kernel
theorem dL_law_302 : decode cL_law 302 = .ok (.istore 13, 2) := by decide +kernel
theorem dL_law_304 : decode cL_law 304 = .ok (.aload_n 1, 1) := by decide +kernel
theorem dL_law_305 : decode cL_law 305 = .ok (.iload 7, 2) := by decide +kernel
theorem dL_law_307 : decode cL_law 307 = .ok (.invokevirtual 86, 3) := by decide +kernel
theorem dL_law_310 : decode cL_law 310 = .ok (.istore 16, 2) := by decide +kernel
theorem dL_law_312 : decode cL_law 312 = .ok (.aload_n 1, 1) := by decide +kernel
theorem dL_law_313 : decode cL_law 313 = .ok (.iload 7, 2) := by decide +kernel
theorem dL_law_315 : decode cL_law 315 = .ok (.invokevirtual 89, 3) := by decide +kernel
theorem dL_law_318 : decode cL_law 318 = .ok (.istore 17, 2) := by decide +kernel
theorem dL_law_320 : decode cL_law 320 = .ok (.iload 13, 2) := by decide +kernel
theorem dL_law_322 : decode cL_law 322 = .ok (.ifCond .eq 72, 3) := by decide +kernel
theorem dL_law_325 : decode cL_law 325 = .ok (.iload 16, 2) := by decide +kernel
theorem dL_law_327 : decode cL_law 327 = .ok (.iconst (-1), 1) := by decide +kernel
theorem dL_law_328 : decode cL_law 328 = .ok (.if_icmp .lt 66, 3) := by decide +kernel
theorem dL_law_331 : decode cL_law 331 = .ok (.iload 16, 2) := by decide +kernel
theorem dL_law_333 : decode cL_law 333 = .ok (.bipush 61, 2) := by decide +kernel
theorem dL_law_335 : decode cL_law 335 = .ok (.if_icmp .ge 59, 3) := by decide +kernel
theorem dL_law_338 : decode cL_law 338 = .ok (.iload 16, 2) := by decide +kernel
theorem dL_law_340 : decode cL_law 340 = .ok (.ifCond .ge 7, 3) := by decide +kernel
theorem dL_law_343 : decode cL_law 343 = .ok (.iconst 1, 1) := by decide +kernel
theorem dL_law_344 : decode cL_law 344 = .ok (.goto 4, 3) := by decide +kernel
theorem dL_law_347 : decode cL_law 347 = .ok (.iconst 0, 1) := by decide +kernel
theorem dL_law_348 : decode cL_law 348 = .ok (.iload 17, 2) := by decide +kernel
theorem dL_law_350 : decode cL_law 350 = .ok (.ifCond .ge 7, 3) := by decide +kernel
theorem dL_law_353 : decode cL_law 353 = .ok (.iconst 1, 1) := by decide +kernel
theorem dL_law_354 : decode cL_law 354 = .ok (.goto 4, 3) := by decide +kernel
theorem dL_law_357 : decode cL_law 357 = .ok (.iconst 0, 1) := by decide +kernel
theorem dL_law_358 : decode cL_law 358 = .ok (.if_icmp .ne 36, 3) := by decide +kernel
theorem dL_law_361 : decode cL_law 361 = .ok (.iload 16, 2) := by decide +kernel
theorem dL_law_363 : decode cL_law 363 = .ok (.ifCond .ne 7, 3) := by decide +kernel
theorem dL_law_366 : decode cL_law 366 = .ok (.iconst 1, 1) := by decide +kernel
theorem dL_law_367 : decode cL_law 367 = .ok (.goto 4, 3) := by decide +kernel
theorem dL_law_370 : decode cL_law 370 = .ok (.iconst 0, 1) := by decide +kernel
theorem dL_law_371 : decode cL_law 371 = .ok (.aload_n 1, 1) := by decide +kernel
theorem dL_law_372 : decode cL_law 372 = .ok (.iload 7, 2) := by decide +kernel
theorem dL_law_374 : decode cL_law 374 = .ok (.iconst 3, 1) := by decide +kernel
theorem dL_law_375 : decode cL_law 375 = .ok (.invokevirtual 53, 3) := by decide +kernel
theorem dL_law_378 : decode cL_law 378 = .ok (.iconst 1, 1) := by decide +kernel
theorem dL_law_379 : decode cL_law 379 = .ok (.if_icmp .ne 7, 3) := by decide +kernel
theorem dL_law_382 : decode cL_law 382 = .ok (.iconst 1, 1) := by decide +kernel
theorem dL_law_383 : decode cL_law 383 = .ok (.goto 4, 3) := by decide +kernel
theorem dL_law_386 : decode cL_law 386 = .ok (.iconst 0, 1) := by decide +kernel
theorem dL_law_387 : decode cL_law 387 = .ok (.if_icmp .ne 7, 3) := by decide +kernel
theorem dL_law_390 : decode cL_law 390 = .ok (.iconst 1, 1) := by decide +kernel
theorem dL_law_391 : decode cL_law 391 = .ok (.goto 4, 3) := by decide +kernel
theorem dL_law_394 : decode cL_law 394 = .ok (.iconst 0, 1) := by decide +kernel
theorem dL_law_395 : decode cL_law 395 = .ok (.istore 13, 2) := by decide +kernel
theorem dL_law_397 : decode cL_law 397 = .ok (.iconst 0, 1) := by decide +kernel
theorem dL_law_398 : decode cL_law 398 = .ok (.istore 18, 2) := by decide +kernel
theorem dL_law_400 : decode cL_law 400 = .ok (.iload 18, 2) := by decide +kernel
theorem dL_law_402 : decode cL_law 402 = .ok (.bipush 61, 2) := by decide +kernel
theorem dL_law_404 : decode cL_law 404 = .ok (.if_icmp .ge 73, 3) := by decide +kernel
theorem dL_law_407 : decode cL_law 407 = .ok (.iload 13, 2) := by decide +kernel
theorem dL_law_409 : decode cL_law 409 = .ok (.ifCond .eq 59, 3) := by decide +kernel
theorem dL_law_412 : decode cL_law 412 = .ok (.iload 18, 2) := by decide +kernel
theorem dL_law_414 : decode cL_law 414 = .ok (.iload 16, 2) := by decide +kernel
theorem dL_law_416 : decode cL_law 416 = .ok (.if_icmp .lt 8, 3) := by decide +kernel
theorem dL_law_419 : decode cL_law 419 = .ok (.iload 16, 2) := by decide +kernel
theorem dL_law_421 : decode cL_law 421 = .ok (.ifCond .ge 21, 3) := by decide +kernel
theorem dL_law_424 : decode cL_law 424 = .ok (.aload_n 1, 1) := by decide +kernel
theorem dL_law_425 : decode cL_law 425 = .ok (.iload 7, 2) := by decide +kernel
theorem dL_law_427 : decode cL_law 427 = .ok (.iload 18, 2) := by decide +kernel
theorem dL_law_429 : decode cL_law 429 = .ok (.invokevirtual 76, 3) := by decide +kernel
theorem dL_law_432 : decode cL_law 432 = .ok (.bipush 6, 2) := by decide +kernel
theorem dL_law_434 : decode cL_law 434 = .ok (.irem, 1) := by decide +kernel
theorem dL_law_435 : decode cL_law 435 = .ok (.iconst 5, 1) := by decide +kernel
theorem dL_law_436 : decode cL_law 436 = .ok (.if_icmp .eq 32, 3) := by decide +kernel
theorem dL_law_439 : decode cL_law 439 = .ok (.goto 25, 3) := by decide +kernel
theorem dL_law_442 : decode cL_law 442 = .ok (.iload 18, 2) := by decide +kernel
theorem dL_law_444 : decode cL_law 444 = .ok (.iload 16, 2) := by decide +kernel
theorem dL_law_446 : decode cL_law 446 = .ok (.if_icmp .gt 18, 3) := by decide +kernel
theorem dL_law_449 : decode cL_law 449 = .ok (.aload_n 1, 1) := by decide +kernel
theorem dL_law_450 : decode cL_law 450 = .ok (.iload 7, 2) := by decide +kernel
theorem dL_law_452 : decode cL_law 452 = .ok (.iload 18, 2) := by decide +kernel
theorem dL_law_454 : decode cL_law 454 = .ok (.invokevirtual 76, 3) := by decide +kernel
theorem dL_law_457 : decode cL_law 457 = .ok (.bipush 6, 2) := by decide +kernel
theorem dL_law_459 : decode cL_law 459 = .ok (.irem, 1) := by decide +kernel
theorem dL_law_460 : decode cL_law 460 = .ok (.iconst 5, 1) := by decide +kernel
theorem dL_law_461 : decode cL_law 461 = .ok (.if_icmp .ne 7, 3) := by decide +kernel
theorem dL_law_464 : decode cL_law 464 = .ok (.iconst 1, 1) := by decide +kernel
theorem dL_law_465 : decode cL_law 465 = .ok (.goto 4, 3) := by decide +kernel
theorem dL_law_468 : decode cL_law 468 = .ok (.iconst 0, 1) := by decide +kernel
theorem dL_law_469 : decode cL_law 469 = .ok (.istore 13, 2) := by decide +kernel
theorem dL_law_471 : decode cL_law 471 = .ok (.iinc 18 1, 3) := by decide +kernel
theorem dL_law_474 : decode cL_law 474 = .ok (.goto (-74), 3) := by decide +kernel
theorem dL_law_477 : decode cL_law 477 = .ok (.iload 16, 2) := by decide +kernel
theorem dL_law_479 : decode cL_law 479 = .ok (.iconst 1, 1) := by decide +kernel
theorem dL_law_480 : decode cL_law 480 = .ok (.if_icmp .le 123, 3) := by decide +kernel
theorem dL_law_483 : decode cL_law 483 = .ok (.iload 17, 2) := by decide +kernel
theorem dL_law_485 : decode cL_law 485 = .ok (.ifCond .le 31, 3) := by decide +kernel
theorem dL_law_488 : decode cL_law 488 = .ok (.iload 13, 2) := by decide +kernel
theorem dL_law_490 : decode cL_law 490 = .ok (.ifCond .eq 23, 3) := by decide +kernel
theorem dL_law_493 : decode cL_law 493 = .ok (.aload_n 1, 1) := by decide +kernel
theorem dL_law_494 : decode cL_law 494 = .ok (.iload 7, 2) := by decide +kernel
theorem dL_law_496 : decode cL_law 496 = .ok (.iload 17, 2) := by decide +kernel
theorem dL_law_498 : decode cL_law 498 = .ok (.invokevirtual 63, 3) := by decide +kernel
theorem dL_law_501 : decode cL_law 501 = .ok (.iload 12, 2) := by decide +kernel
theorem dL_law_503 : decode cL_law 503 = .ok (.iload 17, 2) := by decide +kernel
theorem dL_law_505 : decode cL_law 505 = .ok (.iadd, 1) := by decide +kernel
theorem dL_law_506 : decode cL_law 506 = .ok (.if_icmp .ne 7, 3) := by decide +kernel
theorem dL_law_509 : decode cL_law 509 = .ok (.iconst 1, 1) := by decide +kernel
theorem dL_law_510 : decode cL_law 510 = .ok (.goto 4, 3) := by decide +kernel
theorem dL_law_513 : decode cL_law 513 = .ok (.iconst 0, 1) := by decide +kernel
theorem dL_law_514 : decode cL_law 514 = .ok (.istore 13, 2) := by decide +kernel
theorem dL_law_516 : decode cL_law 516 = .ok (.iload 13, 2) := by decide +kernel
theorem dL_law_518 : decode cL_law 518 = .ok (.ifCond .eq 82, 3) := by decide +kernel
theorem dL_law_521 : decode cL_law 521 = .ok (.aload_n 1, 1) := by decide +kernel
theorem dL_law_522 : decode cL_law 522 = .ok (.iload 16, 2) := by decide +kernel
theorem dL_law_524 : decode cL_law 524 = .ok (.iconst 1, 1) := by decide +kernel
theorem dL_law_525 : decode cL_law 525 = .ok (.isub, 1) := by decide +kernel
theorem dL_law_526 : decode cL_law 526 = .ok (.invokevirtual 60, 3) := by decide +kernel
theorem dL_law_529 : decode cL_law 529 = .ok (.ifCond .lt 71, 3) := by decide +kernel
theorem dL_law_532 : decode cL_law 532 = .ok (.aload_n 1, 1) := by decide +kernel
theorem dL_law_533 : decode cL_law 533 = .ok (.iload 7, 2) := by decide +kernel
theorem dL_law_535 : decode cL_law 535 = .ok (.iconst 2, 1) := by decide +kernel
theorem dL_law_536 : decode cL_law 536 = .ok (.invokevirtual 53, 3) := by decide +kernel
theorem dL_law_539 : decode cL_law 539 = .ok (.ifCond .le 61, 3) := by decide +kernel
theorem dL_law_542 : decode cL_law 542 = .ok (.aload_n 1, 1) := by decide +kernel
theorem dL_law_543 : decode cL_law 543 = .ok (.iload 7, 2) := by decide +kernel
theorem dL_law_545 : decode cL_law 545 = .ok (.iconst 3, 1) := by decide +kernel
theorem dL_law_546 : decode cL_law 546 = .ok (.invokevirtual 53, 3) := by decide +kernel
theorem dL_law_549 : decode cL_law 549 = .ok (.ifCond .ne 51, 3) := by decide +kernel
theorem dL_law_552 : decode cL_law 552 = .ok (.aload_n 1, 1) := by decide +kernel
theorem dL_law_553 : decode cL_law 553 = .ok (.iconst 1, 1) := by decide +kernel
theorem dL_law_554 : decode cL_law 554 = .ok (.invokevirtual 60, 3) := by decide +kernel
theorem dL_law_557 : decode cL_law 557 = .ok (.iconst 1, 1) := by decide +kernel
theorem dL_law_558 : decode cL_law 558 = .ok (.if_icmp .lt 42, 3) := by decide +kernel
theorem dL_law_561 : decode cL_law 561 = .ok (.aload_n 1, 1) := by decide +kernel
theorem dL_law_562 : decode cL_law 562 = .ok (.iload 7, 2) := by decide +kernel
theorem dL_law_564 : decode cL_law 564 = .ok (.iconst 3, 1) := by decide +kernel
theorem dL_law_565 : decode cL_law 565 = .ok (.invokevirtual 53, 3) := by decide +kernel
theorem dL_law_568 : decode cL_law 568 = .ok (.iconst 1, 1) := by decide +kernel
theorem dL_law_569 : decode cL_law 569 = .ok (.if_icmp .ne 31, 3) := by decide +kernel
theorem dL_law_572 : decode cL_law 572 = .ok (.iload 17, 2) := by decide +kernel
theorem dL_law_574 : decode cL_law 574 = .ok (.ifCond .eq 13, 3) := by decide +kernel
theorem dL_law_577 : decode cL_law 577 = .ok (.aload_n 1, 1) := by decide +kernel
theorem dL_law_578 : decode cL_law 578 = .ok (.iload 7, 2) := by decide +kernel
theorem dL_law_580 : decode cL_law 580 = .ok (.iconst 2, 1) := by decide +kernel
theorem dL_law_581 : decode cL_law 581 = .ok (.invokevirtual 53, 3) := by decide +kernel
theorem dL_law_584 : decode cL_law 584 = .ok (.ifCond .ne 16, 3) := by decide +kernel
theorem dL_law_587 : decode cL_law 587 = .ok (.aload_n 1, 1) := by decide +kernel
theorem dL_law_588 : decode cL_law 588 = .ok (.iconst 0, 1) := by decide +kernel
theorem dL_law_589 : decode cL_law 589 = .ok (.invokevirtual 92, 3) := by decide +kernel
theorem dL_law_592 : decode cL_law 592 = .ok (.iconst 1, 1) := by decide +kernel
theorem dL_law_593 : decode cL_law 593 = .ok (.if_icmp .ne 7, 3) := by decide +kernel
theorem dL_law_596 : decode cL_law 596 = .ok (.iconst 1, 1) := by decide +kernel
theorem dL_law_597 : decode cL_law 597 = .ok (.goto 4, 3) := by decide +kernel
theorem dL_law_600 : decode cL_law 600 = .ok (.iconst 0, 1) := by decide +kernel
theorem dL_law_601 : decode cL_law 601 = .ok (.istore 13, 2) := by decide +kernel
theorem dL_law_603 : decode cL_law 603 = .ok (.iload 6, 2) := by decide +kernel
theorem dL_law_605 : decode cL_law 605 = .ok (.bipush 8, 2) := by decide +kernel
theorem dL_law_607 : decode cL_law 607 = .ok (.ishr, 1) := by decide +kernel
theorem dL_law_608 : decode cL_law 608 = .ok (.bipush 6, 2) := by decide +kernel
theorem dL_law_610 : decode cL_law 610 = .ok (.invokestatic 15, 3) := by decide +kernel
theorem dL_law_613 : decode cL_law 613 = .ok (.istore 18, 2) := by decide +kernel
theorem dL_law_615 : decode cL_law 615 = .ok (.aload_n 1, 1) := by decide +kernel
theorem dL_law_616 : decode cL_law 616 = .ok (.iload 18, 2) := by decide +kernel
theorem dL_law_618 : decode cL_law 618 = .ok (.iload 14, 2) := by decide +kernel
theorem dL_law_620 : decode cL_law 620 = .ok (.invokevirtual 95, 3) := by decide +kernel
theorem dL_law_623 : decode cL_law 623 = .ok (.istore 19, 2) := by decide +kernel
theorem dL_law_625 : decode cL_law 625 = .ok (.iload 13, 2) := by decide +kernel
theorem dL_law_627 : decode cL_law 627 = .ok (.ifCond .eq 49, 3) := by decide +kernel
theorem dL_law_630 : decode cL_law 630 = .ok (.iload 19, 2) := by decide +kernel
theorem dL_law_632 : decode cL_law 632 = .ok (.ifCond .lt 44, 3) := by decide +kernel
theorem dL_law_635 : decode cL_law 635 = .ok (.iload 19, 2) := by decide +kernel
theorem dL_law_637 : decode cL_law 637 = .ok (.bipush 64, 2) := by decide +kernel
theorem dL_law_639 : decode cL_law 639 = .ok (.if_icmp .ge 37, 3) := by decide +kernel
theorem dL_law_642 : decode cL_law 642 = .ok (.iload 19, 2) := by decide +kernel
theorem dL_law_644 : decode cL_law 644 = .ok (.aload_n 1, 1) := by decide +kernel
theorem dL_law_645 : decode cL_law 645 = .ok (.iload 18, 2) := by decide +kernel
theorem dL_law_647 : decode cL_law 647 = .ok (.iload 14, 2) := by decide +kernel
theorem dL_law_649 : decode cL_law 649 = .ok (.bipush 9, 2) := by decide +kernel
theorem dL_law_651 : decode cL_law 651 = .ok (.iadd, 1) := by decide +kernel
theorem dL_law_652 : decode cL_law 652 = .ok (.invokevirtual 95, 3) := by decide +kernel
theorem dL_law_655 : decode cL_law 655 = .ok (.iconst (-1), 1) := by decide +kernel
theorem dL_law_656 : decode cL_law 656 = .ok (.ixor, 1) := by decide +kernel
theorem dL_law_657 : decode cL_law 657 = .ok (.iand, 1) := by decide +kernel
theorem dL_law_658 : decode cL_law 658 = .ok (.ifCond .ne 18, 3) := by decide +kernel
theorem dL_law_661 : decode cL_law 661 = .ok (.iload 14, 2) := by decide +kernel
theorem dL_law_663 : decode cL_law 663 = .ok (.iconst 3, 1) := by decide +kernel
theorem dL_law_664 : decode cL_law 664 = .ok (.if_icmp .ge 8, 3) := by decide +kernel
theorem dL_law_667 : decode cL_law 667 = .ok (.iload 19, 2) := by decide +kernel
theorem dL_law_669 : decode cL_law 669 = .ok (.ifCond .ne 7, 3) := by decide +kernel
theorem dL_law_672 : decode cL_law 672 = .ok (.iconst 1, 1) := by decide +kernel
theorem dL_law_673 : decode cL_law 673 = .ok (.goto 4, 3) := by decide +kernel
theorem dL_law_676 : decode cL_law 676 = .ok (.iconst 0, 1) := by decide +kernel
theorem dL_law_677 : decode cL_law 677 = .ok (.istore 13, 2) := by decide +kernel
theorem dL_law_679 : decode cL_law 679 = .ok (.iload_n 3, 1) := by decide +kernel
theorem dL_law_680 : decode cL_law 680 = .ok (.iconst 1, 1) := by decide +kernel
theorem dL_law_681 : decode cL_law 681 = .ok (.if_icmp .le 266, 3) := by decide +kernel
theorem dL_law_684 : decode cL_law 684 = .ok (.aload_n 1, 1) := by decide +kernel
theorem dL_law_685 : decode cL_law 685 = .ok (.iload 7, 2) := by decide +kernel
theorem dL_law_687 : decode cL_law 687 = .ok (.iload 8, 2) := by decide +kernel
theorem dL_law_689 : decode cL_law 689 = .ok (.iconst 0, 1) := by decide +kernel
theorem dL_law_690 : decode cL_law 690 = .ok (.invokevirtual 98, 3) := by decide +kernel
theorem dL_law_693 : decode cL_law 693 = .ok (.istore 20, 2) := by decide +kernel
theorem dL_law_695 : decode cL_law 695 = .ok (.aload_n 1, 1) := by decide +kernel
theorem dL_law_696 : decode cL_law 696 = .ok (.iload 7, 2) := by decide +kernel
theorem dL_law_698 : decode cL_law 698 = .ok (.iload 8, 2) := by decide +kernel
theorem dL_law_700 : decode cL_law 700 = .ok (.iconst 1, 1) := by decide +kernel
theorem dL_law_701 : decode cL_law 701 = .ok (.invokevirtual 98, 3) := by decide +kernel
theorem dL_law_704 : decode cL_law 704 = .ok (.istore 21, 2) := by decide +kernel
theorem dL_law_706 : decode cL_law 706 = .ok (.iload 13, 2) := by decide +kernel
theorem dL_law_708 : decode cL_law 708 = .ok (.ifCond .eq 57, 3) := by decide +kernel
theorem dL_law_711 : decode cL_law 711 = .ok (.iload 20, 2) := by decide +kernel
theorem dL_law_713 : decode cL_law 713 = .ok (.ifCond .lt 52, 3) := by decide +kernel
theorem dL_law_716 : decode cL_law 716 = .ok (.iload 20, 2) := by decide +kernel
theorem dL_law_718 : decode cL_law 718 = .ok (.bipush 61, 2) := by decide +kernel
theorem dL_law_720 : decode cL_law 720 = .ok (.if_icmp .ge 45, 3) := by decide +kernel
theorem dL_law_723 : decode cL_law 723 = .ok (.iload 21, 2) := by decide +kernel
theorem dL_law_725 : decode cL_law 725 = .ok (.aload_n 1, 1) := by decide +kernel
theorem dL_law_726 : decode cL_law 726 = .ok (.iload 7, 2) := by decide +kernel
theorem dL_law_728 : decode cL_law 728 = .ok (.iload 20, 2) := by decide +kernel
theorem dL_law_730 : decode cL_law 730 = .ok (.invokevirtual 76, 3) := by decide +kernel
theorem dL_law_733 : decode cL_law 733 = .ok (.aload_n 1, 1) := by decide +kernel
theorem dL_law_734 : decode cL_law 734 = .ok (.iload 8, 2) := by decide +kernel
theorem dL_law_736 : decode cL_law 736 = .ok (.iload 20, 2) := by decide +kernel
theorem dL_law_738 : decode cL_law 738 = .ok (.invokevirtual 76, 3) := by decide +kernel
theorem dL_law_741 : decode cL_law 741 = .ok (.invokestatic 79, 3) := by decide +kernel
theorem dL_law_744 : decode cL_law 744 = .ok (.if_icmp .ne 21, 3) := by decide +kernel
theorem dL_law_747 : decode cL_law 747 = .ok (.iload 20, 2) := by decide +kernel
theorem dL_law_749 : decode cL_law 749 = .ok (.aload_n 1, 1) := by decide +kernel
theorem dL_law_750 : decode cL_law 750 = .ok (.iload 8, 2) := by decide +kernel
theorem dL_law_752 : decode cL_law 752 = .ok (.iload 7, 2) := by decide +kernel
theorem dL_law_754 : decode cL_law 754 = .ok (.iconst 0, 1) := by decide +kernel
theorem dL_law_755 : decode cL_law 755 = .ok (.invokevirtual 98, 3) := by decide +kernel
theorem dL_law_758 : decode cL_law 758 = .ok (.if_icmp .ne 7, 3) := by decide +kernel
theorem dL_law_761 : decode cL_law 761 = .ok (.iconst 1, 1) := by decide +kernel
theorem dL_law_762 : decode cL_law 762 = .ok (.goto 4, 3) := by decide +kernel
theorem dL_law_765 : decode cL_law 765 = .ok (.iconst 0, 1) := by decide +kernel
theorem dL_law_766 : decode cL_law 766 = .ok (.istore 13, 2) := by decide +kernel
theorem dL_law_768 : decode cL_law 768 = .ok (.iconst 0, 1) := by decide +kernel
theorem dL_law_769 : decode cL_law 769 = .ok (.istore 22, 2) := by decide +kernel
theorem dL_law_771 : decode cL_law 771 = .ok (.iload 22, 2) := by decide +kernel
theorem dL_law_773 : decode cL_law 773 = .ok (.bipush 61, 2) := by decide +kernel
theorem dL_law_775 : decode cL_law 775 = .ok (.if_icmp .ge 66, 3) := by decide +kernel
theorem dL_law_778 : decode cL_law 778 = .ok (.aload_n 1, 1) := by decide +kernel
theorem dL_law_779 : decode cL_law 779 = .ok (.iload 7, 2) := by decide +kernel
theorem dL_law_781 : decode cL_law 781 = .ok (.iload 22, 2) := by decide +kernel
theorem dL_law_783 : decode cL_law 783 = .ok (.invokevirtual 76, 3) := by decide +kernel
theorem dL_law_786 : decode cL_law 786 = .ok (.aload_n 1, 1) := by decide +kernel
theorem dL_law_787 : decode cL_law 787 = .ok (.iload 8, 2) := by decide +kernel
theorem dL_law_789 : decode cL_law 789 = .ok (.iload 22, 2) := by decide +kernel
theorem dL_law_791 : decode cL_law 791 = .ok (.invokevirtual 76, 3) := by decide +kernel
theorem dL_law_794 : decode cL_law 794 = .ok (.invokestatic 79, 3) := by decide +kernel
theorem dL_law_797 : decode cL_law 797 = .ok (.istore 23, 2) := by decide +kernel
theorem dL_law_799 : decode cL_law 799 = .ok (.iload 13, 2) := by decide +kernel
theorem dL_law_801 : decode cL_law 801 = .ok (.ifCond .eq 31, 3) := by decide +kernel
theorem dL_law_804 : decode cL_law 804 = .ok (.iload 22, 2) := by decide +kernel
theorem dL_law_806 : decode cL_law 806 = .ok (.iload 20, 2) := by decide +kernel
theorem dL_law_808 : decode cL_law 808 = .ok (.if_icmp .ge 13, 3) := by decide +kernel
theorem dL_law_811 : decode cL_law 811 = .ok (.iload 23, 2) := by decide +kernel
theorem dL_law_813 : decode cL_law 813 = .ok (.iload 21, 2) := by decide +kernel
theorem dL_law_815 : decode cL_law 815 = .ok (.if_icmp .le 17, 3) := by decide +kernel
theorem dL_law_818 : decode cL_law 818 = .ok (.goto 10, 3) := by decide +kernel
theorem dL_law_821 : decode cL_law 821 = .ok (.iload 23, 2) := by decide +kernel
theorem dL_law_823 : decode cL_law 823 = .ok (.iload 21, 2) := by decide +kernel
theorem dL_law_825 : decode cL_law 825 = .ok (.if_icmp .lt 7, 3) := by decide +kernel
theorem dL_law_828 : decode cL_law 828 = .ok (.iconst 1, 1) := by decide +kernel
theorem dL_law_829 : decode cL_law 829 = .ok (.goto 4, 3) := by decide +kernel
theorem dL_law_832 : decode cL_law 832 = .ok (.iconst 0, 1) := by decide +kernel
theorem dL_law_833 : decode cL_law 833 = .ok (.istore 13, 2) := by decide +kernel
theorem dL_law_835 : decode cL_law 835 = .ok (.iinc 22 1, 3) := by decide +kernel
theorem dL_law_838 : decode cL_law 838 = .ok (.goto (-67), 3) := by decide +kernel
theorem dL_law_841 : decode cL_law 841 = .ok (.aload_n 1, 1) := by decide +kernel
theorem dL_law_842 : decode cL_law 842 = .ok (.iload 7, 2) := by decide +kernel
theorem dL_law_844 : decode cL_law 844 = .ok (.iload 8, 2) := by decide +kernel
theorem dL_law_846 : decode cL_law 846 = .ok (.iconst (-1), 1) := by decide +kernel
theorem dL_law_847 : decode cL_law 847 = .ok (.invokevirtual 101, 3) := by decide +kernel
theorem dL_law_850 : decode cL_law 850 = .ok (.istore 22, 2) := by decide +kernel
theorem dL_law_852 : decode cL_law 852 = .ok (.iload 13, 2) := by decide +kernel
theorem dL_law_854 : decode cL_law 854 = .ok (.ifCond .eq 34, 3) := by decide +kernel
theorem dL_law_857 : decode cL_law 857 = .ok (.iload 22, 2) := by decide +kernel
theorem dL_law_859 : decode cL_law 859 = .ok (.ifCond .lt 29, 3) := by decide +kernel
theorem dL_law_862 : decode cL_law 862 = .ok (.iload 22, 2) := by decide +kernel
theorem dL_law_864 : decode cL_law 864 = .ok (.bipush 36, 2) := by decide +kernel
theorem dL_law_866 : decode cL_law 866 = .ok (.if_icmp .gt 22, 3) := by decide +kernel
theorem dL_law_869 : decode cL_law 869 = .ok (.aload_n 1, 1) := by decide +kernel
theorem dL_law_870 : decode cL_law 870 = .ok (.iload 7, 2) := by decide +kernel
theorem dL_law_872 : decode cL_law 872 = .ok (.iload 8, 2) := by decide +kernel
theorem dL_law_874 : decode cL_law 874 = .ok (.iload 22, 2) := by decide +kernel
theorem dL_law_876 : decode cL_law 876 = .ok (.invokevirtual 101, 3) := by decide +kernel
theorem dL_law_879 : decode cL_law 879 = .ok (.bipush (-5), 2) := by decide +kernel
theorem dL_law_881 : decode cL_law 881 = .ok (.if_icmp .ne 7, 3) := by decide +kernel
theorem dL_law_884 : decode cL_law 884 = .ok (.iconst 1, 1) := by decide +kernel
theorem dL_law_885 : decode cL_law 885 = .ok (.goto 4, 3) := by decide +kernel
theorem dL_law_888 : decode cL_law 888 = .ok (.iconst 0, 1) := by decide +kernel
theorem dL_law_889 : decode cL_law 889 = .ok (.istore 13, 2) := by decide +kernel
theorem dL_law_891 : decode cL_law 891 = .ok (.iconst 1, 1) := by decide +kernel
theorem dL_law_892 : decode cL_law 892 = .ok (.istore 23, 2) := by decide +kernel
theorem dL_law_894 : decode cL_law 894 = .ok (.iload 23, 2) := by decide +kernel
theorem dL_law_896 : decode cL_law 896 = .ok (.iload 22, 2) := by decide +kernel
theorem dL_law_898 : decode cL_law 898 = .ok (.if_icmp .ge 46, 3) := by decide +kernel
theorem dL_law_901 : decode cL_law 901 = .ok (.iload 13, 2) := by decide +kernel
theorem dL_law_903 : decode cL_law 903 = .ok (.ifCond .eq 32, 3) := by decide +kernel
theorem dL_law_906 : decode cL_law 906 = .ok (.aload_n 1, 1) := by decide +kernel
theorem dL_law_907 : decode cL_law 907 = .ok (.iload 7, 2) := by decide +kernel
theorem dL_law_909 : decode cL_law 909 = .ok (.iload 8, 2) := by decide +kernel
theorem dL_law_911 : decode cL_law 911 = .ok (.iload 23, 2) := by decide +kernel
theorem dL_law_913 : decode cL_law 913 = .ok (.invokevirtual 101, 3) := by decide +kernel
theorem dL_law_916 : decode cL_law 916 = .ok (.aload_n 1, 1) := by decide +kernel
theorem dL_law_917 : decode cL_law 917 = .ok (.iload 7, 2) := by decide +kernel
theorem dL_law_919 : decode cL_law 919 = .ok (.iload 8, 2) := by decide +kernel
theorem dL_law_921 : decode cL_law 921 = .ok (.iload 23, 2) := by decide +kernel
theorem dL_law_923 : decode cL_law 923 = .ok (.iconst 1, 1) := by decide +kernel
theorem dL_law_924 : decode cL_law 924 = .ok (.isub, 1) := by decide +kernel
theorem dL_law_925 : decode cL_law 925 = .ok (.invokevirtual 101, 3) := by decide +kernel
theorem dL_law_928 : decode cL_law 928 = .ok (.if_icmp .le 7, 3) := by decide +kernel
theorem dL_law_931 : decode cL_law 931 = .ok (.iconst 1, 1) := by decide +kernel
theorem dL_law_932 : decode cL_law 932 = .ok (.goto 4, 3) := by decide +kernel
theorem dL_law_935 : decode cL_law 935 = .ok (.iconst 0, 1) := by decide +kernel
theorem dL_law_936 : decode cL_law 936 = .ok (.istore 13, 2) := by decide +kernel
theorem dL_law_938 : decode cL_law 938 = .ok (.iinc 23 1, 3) := by decide +kernel
theorem dL_law_941 : decode cL_law 941 = .ok (.goto (-47), 3) := by decide +kernel
theorem dL_law_944 : decode cL_law 944 = .ok (.goto 43, 3) := by decide +kernel
theorem dL_law_947 : decode cL_law 947 = .ok (.iload 13, 2) := by decide +kernel
theorem dL_law_949 : decode cL_law 949 = .ok (.ifCond .eq 35, 3) := by decide +kernel
theorem dL_law_952 : decode cL_law 952 = .ok (.aload_n 1, 1) := by decide +kernel
theorem dL_law_953 : decode cL_law 953 = .ok (.iload 7, 2) := by decide +kernel
theorem dL_law_955 : decode cL_law 955 = .ok (.iload 8, 2) := by decide +kernel
theorem dL_law_957 : decode cL_law 957 = .ok (.iconst 0, 1) := by decide +kernel
theorem dL_law_958 : decode cL_law 958 = .ok (.invokevirtual 98, 3) := by decide +kernel
theorem dL_law_961 : decode cL_law 961 = .ok (.bipush (-2), 2) := by decide +kernel
theorem dL_law_963 : decode cL_law 963 = .ok (.if_icmp .ne 21, 3) := by decide +kernel
theorem dL_law_966 : decode cL_law 966 = .ok (.aload_n 1, 1) := by decide +kernel
theorem dL_law_967 : decode cL_law 967 = .ok (.iload 7, 2) := by decide +kernel
theorem dL_law_969 : decode cL_law 969 = .ok (.iload 8, 2) := by decide +kernel
theorem dL_law_971 : decode cL_law 971 = .ok (.iconst (-1), 1) := by decide +kernel
theorem dL_law_972 : decode cL_law 972 = .ok (.invokevirtual 101, 3) := by decide +kernel
theorem dL_law_975 : decode cL_law 975 = .ok (.bipush (-10), 2) := by decide +kernel
theorem dL_law_977 : decode cL_law 977 = .ok (.if_icmp .ne 7, 3) := by decide +kernel
theorem dL_law_980 : decode cL_law 980 = .ok (.iconst 1, 1) := by decide +kernel
theorem dL_law_981 : decode cL_law 981 = .ok (.goto 4, 3) := by decide +kernel
theorem dL_law_984 : decode cL_law 984 = .ok (.iconst 0, 1) := by decide +kernel
theorem dL_law_985 : decode cL_law 985 = .ok (.istore 13, 2) := by decide +kernel
theorem dL_law_987 : decode cL_law 987 = .ok (.aload_n 1, 1) := by decide +kernel
theorem dL_law_988 : decode cL_law 988 = .ok (.iload 7, 2) := by decide +kernel
theorem dL_law_990 : decode cL_law 990 = .ok (.iconst 0, 1) := by decide +kernel
theorem dL_law_991 : decode cL_law 991 = .ok (.invokevirtual 104, 3) := by decide +kernel
theorem dL_law_994 : decode cL_law 994 = .ok (.istore 20, 2) := by decide +kernel
theorem dL_law_996 : decode cL_law 996 = .ok (.aload_n 1, 1) := by decide +kernel
theorem dL_law_997 : decode cL_law 997 = .ok (.iload 7, 2) := by decide +kernel
theorem dL_law_999 : decode cL_law 999 = .ok (.iconst 1, 1) := by decide +kernel
theorem dL_law_1000 : decode cL_law 1000 = .ok (.invokevirtual 104, 3) := by decide +kernel
theorem dL_law_1003 : decode cL_law 1003 = .ok (.istore 21, 2) := by decide +kernel
theorem dL_law_1005 : decode cL_law 1005 = .ok (.iload 13, 2) := by decide +kernel
theorem dL_law_1007 : decode cL_law 1007 = .ok (.ifCond .eq 63, 3) := by decide +kernel
theorem dL_law_1010 : decode cL_law 1010 = .ok (.iload 21, 2) := by decide +kernel
theorem dL_law_1012 : decode cL_law 1012 = .ok (.ifCond .le 58, 3) := by decide +kernel
theorem dL_law_1015 : decode cL_law 1015 = .ok (.iload 21, 2) := by decide +kernel
theorem dL_law_1017 : decode cL_law 1017 = .ok (.iload 20, 2) := by decide +kernel
theorem dL_law_1019 : decode cL_law 1019 = .ok (.if_icmp .gt 51, 3) := by decide +kernel
theorem dL_law_1022 : decode cL_law 1022 = .ok (.iload 20, 2) := by decide +kernel
theorem dL_law_1024 : decode cL_law 1024 = .ok (.bipush 30, 2) := by decide +kernel
theorem dL_law_1026 : decode cL_law 1026 = .ok (.if_icmp .gt 44, 3) := by decide +kernel
theorem dL_law_1029 : decode cL_law 1029 = .ok (.iload 11, 2) := by decide +kernel
theorem dL_law_1031 : decode cL_law 1031 = .ok (.bipush 14, 2) := by decide +kernel
theorem dL_law_1033 : decode cL_law 1033 = .ok (.invokestatic 79, 3) := by decide +kernel
theorem dL_law_1036 : decode cL_law 1036 = .ok (.iconst 2, 1) := by decide +kernel
theorem dL_law_1037 : decode cL_law 1037 = .ok (.iload 21, 2) := by decide +kernel
theorem dL_law_1039 : decode cL_law 1039 = .ok (.imul, 1) := by decide +kernel
theorem dL_law_1040 : decode cL_law 1040 = .ok (.if_icmp .gt 30, 3) := by decide +kernel
theorem dL_law_1043 : decode cL_law 1043 = .ok (.bipush 14, 2) := by decide +kernel
theorem dL_law_1045 : decode cL_law 1045 = .ok (.aload_n 1, 1) := by decide +kernel
theorem dL_law_1046 : decode cL_law 1046 = .ok (.iload 7, 2) := by decide +kernel
theorem dL_law_1048 : decode cL_law 1048 = .ok (.iload 20, 2) := by decide +kernel
theorem dL_law_1050 : decode cL_law 1050 = .ok (.invokevirtual 76, 3) := by decide +kernel
theorem dL_law_1053 : decode cL_law 1053 = .ok (.invokestatic 79, 3) := by decide +kernel
theorem dL_law_1056 : decode cL_law 1056 = .ok (.iconst 2, 1) := by decide +kernel
theorem dL_law_1057 : decode cL_law 1057 = .ok (.iload 20, 2) := by decide +kernel
theorem dL_law_1059 : decode cL_law 1059 = .ok (.iload 21, 2) := by decide +kernel
theorem dL_law_1061 : decode cL_law 1061 = .ok (.isub, 1) := by decide +kernel
theorem dL_law_1062 : decode cL_law 1062 = .ok (.imul, 1) := by decide +kernel
theorem dL_law_1063 : decode cL_law 1063 = .ok (.if_icmp .gt 7, 3) := by decide +kernel
theorem dL_law_1066 : decode cL_law 1066 = .ok (.iconst 1, 1) := by decide +kernel
theorem dL_law_1067 : decode cL_law 1067 = .ok (.goto 4, 3) := by decide +kernel
theorem dL_law_1070 : decode cL_law 1070 = .ok (.iconst 0, 1) := by decide +kernel
theorem dL_law_1071 : decode cL_law 1071 = .ok (.istore 13, 2) := by decide +kernel
theorem dL_law_1073 : decode cL_law 1073 = .ok (.iload 6, 2) := by decide +kernel
theorem dL_law_1075 : decode cL_law 1075 = .ok (.bipush 11, 2) := by decide +kernel
theorem dL_law_1077 : decode cL_law 1077 = .ok (.ishr, 1) := by decide +kernel
theorem dL_law_1078 : decode cL_law 1078 = .ok (.bipush 36, 2) := by decide +kernel
theorem dL_law_1080 : decode cL_law 1080 = .ok (.invokestatic 15, 3) := by decide +kernel
theorem dL_law_1083 : decode cL_law 1083 = .ok (.istore 22, 2) := by decide +kernel
theorem dL_law_1085 : decode cL_law 1085 = .ok (.iload 22, 2) := by decide +kernel
theorem dL_law_1087 : decode cL_law 1087 = .ok (.istore 23, 2) := by decide +kernel
theorem dL_law_1089 : decode cL_law 1089 = .ok (.iconst 1, 1) := by decide +kernel
theorem dL_law_1090 : decode cL_law 1090 = .ok (.iload 6, 2) := by decide +kernel
theorem dL_law_1092 : decode cL_law 1092 = .ok (.bipush 17, 2) := by decide +kernel
theorem dL_law_1094 : decode cL_law 1094 = .ok (.ishr, 1) := by decide +kernel
theorem dL_law_1095 : decode cL_law 1095 = .ok (.bipush 12, 2) := by decide +kernel
theorem dL_law_1097 : decode cL_law 1097 = .ok (.invokestatic 15, 3) := by decide +kernel
theorem dL_law_1100 : decode cL_law 1100 = .ok (.iadd, 1) := by decide +kernel
theorem dL_law_1101 : decode cL_law 1101 = .ok (.istore 24, 2) := by decide +kernel
theorem dL_law_1103 : decode cL_law 1103 = .ok (.iconst 0, 1) := by decide +kernel
theorem dL_law_1104 : decode cL_law 1104 = .ok (.istore 25, 2) := by decide +kernel
theorem dL_law_1106 : decode cL_law 1106 = .ok (.iload 25, 2) := by decide +kernel
theorem dL_law_1108 : decode cL_law 1108 = .ok (.iload 24, 2) := by decide +kernel
theorem dL_law_1110 : decode cL_law 1110 = .ok (.if_icmp .ge 21, 3) := by decide +kernel
theorem dL_law_1113 : decode cL_law 1113 = .ok (.aload_n 2, 1) := by decide +kernel
theorem dL_law_1114 : decode cL_law 1114 = .ok (.iload 18, 2) := by decide +kernel
theorem dL_law_1116 : decode cL_law 1116 = .ok (.iload 23, 2) := by decide +kernel
theorem dL_law_1118 : decode cL_law 1118 = .ok (.iload 25, 2) := by decide +kernel
theorem dL_law_1120 : decode cL_law 1120 = .ok (.invokestatic 42, 3) := by decide +kernel
theorem dL_law_1123 : decode cL_law 1123 = .ok (.istore 23, 2) := by decide +kernel
theorem dL_law_1125 : decode cL_law 1125 = .ok (.iinc 25 1, 3) := by decide +kernel
theorem dL_law_1128 : decode cL_law 1128 = .ok (.goto (-22), 3) := by decide +kernel
theorem dL_law_1131 : decode cL_law 1131 = .ok (.iload 13, 2) := by decide +kernel
theorem dL_law_1133 : decode cL_law 1133 = .ok (.ifCond .eq 29, 3) := by decide +kernel
theorem dL_law_1136 : decode cL_law 1136 = .ok (.aload_n 1, 1) := by decide +kernel
theorem dL_law_1137 : decode cL_law 1137 = .ok (.iconst 0, 1) := by decide +kernel
theorem dL_law_1138 : decode cL_law 1138 = .ok (.invokevirtual 107, 3) := by decide +kernel
theorem dL_law_1141 : decode cL_law 1141 = .ok (.ifCond .lt 21, 3) := by decide +kernel
theorem dL_law_1144 : decode cL_law 1144 = .ok (.aload_n 1, 1) := by decide +kernel
theorem dL_law_1145 : decode cL_law 1145 = .ok (.iload 18, 2) := by decide +kernel
theorem dL_law_1147 : decode cL_law 1147 = .ok (.iload 24, 2) := by decide +kernel
theorem dL_law_1149 : decode cL_law 1149 = .ok (.iload 23, 2) := by decide +kernel
theorem dL_law_1151 : decode cL_law 1151 = .ok (.invokevirtual 110, 3) := by decide +kernel
theorem dL_law_1154 : decode cL_law 1154 = .ok (.iconst 1, 1) := by decide +kernel
theorem dL_law_1155 : decode cL_law 1155 = .ok (.if_icmp .ne 7, 3) := by decide +kernel
theorem dL_law_1158 : decode cL_law 1158 = .ok (.iconst 1, 1) := by decide +kernel
theorem dL_law_1159 : decode cL_law 1159 = .ok (.goto 4, 3) := by decide +kernel
theorem dL_law_1162 : decode cL_law 1162 = .ok (.iconst 0, 1) := by decide +kernel
theorem dL_law_1163 : decode cL_law 1163 = .ok (.istore 13, 2) := by decide +kernel
theorem dL_law_1165 : decode cL_law 1165 = .ok (.aload_n 1, 1) := by decide +kernel
theorem dL_law_1166 : decode cL_law 1166 = .ok (.iconst 0, 1) := by decide +kernel
theorem dL_law_1167 : decode cL_law 1167 = .ok (.invokevirtual 113, 3) := by decide +kernel
theorem dL_law_1170 : decode cL_law 1170 = .ok (.istore 25, 2) := by decide +kernel
theorem dL_law_1172 : decode cL_law 1172 = .ok (.aload_n 1, 1) := by decide +kernel
theorem dL_law_1173 : decode cL_law 1173 = .ok (.iconst 1, 1) := by decide +kernel
theorem dL_law_1174 : decode cL_law 1174 = .ok (.invokevirtual 113, 3) := by decide +kernel
theorem dL_law_1177 : decode cL_law 1177 = .ok (.istore 26, 2) := by decide +kernel
theorem dL_law_1179 : decode cL_law 1179 = .ok (.iload 13, 2) := by decide +kernel
theorem dL_law_1181 : decode cL_law 1181 = .ok (.ifCond .eq 76, 3) := by decide +kernel
theorem dL_law_1184 : decode cL_law 1184 = .ok (.iload 25, 2) := by decide +kernel
theorem dL_law_1186 : decode cL_law 1186 = .ok (.ifCond .le 71, 3) := by decide +kernel
theorem dL_law_1189 : decode cL_law 1189 = .ok (.iload 25, 2) := by decide +kernel
theorem dL_law_1191 : decode cL_law 1191 = .ok (.bipush 36, 2) := by decide +kernel
theorem dL_law_1193 : decode cL_law 1193 = .ok (.if_icmp .gt 64, 3) := by decide +kernel
theorem dL_law_1196 : decode cL_law 1196 = .ok (.iload 26, 2) := by decide +kernel
theorem dL_law_1198 : decode cL_law 1198 = .ok (.ifCond .lt 59, 3) := by decide +kernel
theorem dL_law_1201 : decode cL_law 1201 = .ok (.iload 26, 2) := by decide +kernel
theorem dL_law_1203 : decode cL_law 1203 = .ok (.iload 22, 2) := by decide +kernel
theorem dL_law_1205 : decode cL_law 1205 = .ok (.if_icmp .gt 52, 3) := by decide +kernel
theorem dL_law_1208 : decode cL_law 1208 = .ok (.aload_n 1, 1) := by decide +kernel
theorem dL_law_1209 : decode cL_law 1209 = .ok (.iload 18, 2) := by decide +kernel
theorem dL_law_1211 : decode cL_law 1211 = .ok (.iload 24, 2) := by decide +kernel
theorem dL_law_1213 : decode cL_law 1213 = .ok (.iload 23, 2) := by decide +kernel
theorem dL_law_1215 : decode cL_law 1215 = .ok (.iconst 1, 1) := by decide +kernel
theorem dL_law_1216 : decode cL_law 1216 = .ok (.iadd, 1) := by decide +kernel
theorem dL_law_1217 : decode cL_law 1217 = .ok (.bipush 36, 2) := by decide +kernel
theorem dL_law_1219 : decode cL_law 1219 = .ok (.irem, 1) := by decide +kernel
theorem dL_law_1220 : decode cL_law 1220 = .ok (.invokevirtual 110, 3) := by decide +kernel
theorem dL_law_1223 : decode cL_law 1223 = .ok (.iconst 2, 1) := by decide +kernel
theorem dL_law_1224 : decode cL_law 1224 = .ok (.if_icmp .ne 33, 3) := by decide +kernel
theorem dL_law_1227 : decode cL_law 1227 = .ok (.aload_n 1, 1) := by decide +kernel
theorem dL_law_1228 : decode cL_law 1228 = .ok (.iconst 0, 1) := by decide +kernel
theorem dL_law_1229 : decode cL_law 1229 = .ok (.invokevirtual 113, 3) := by decide +kernel
theorem dL_law_1232 : decode cL_law 1232 = .ok (.ifCond .ne 25, 3) := by decide +kernel
theorem dL_law_1235 : decode cL_law 1235 = .ok (.aload_n 1, 1) := by decide +kernel
theorem dL_law_1236 : decode cL_law 1236 = .ok (.iconst 1, 1) := by decide +kernel
theorem dL_law_1237 : decode cL_law 1237 = .ok (.invokevirtual 113, 3) := by decide +kernel
theorem dL_law_1240 : decode cL_law 1240 = .ok (.iconst (-1), 1) := by decide +kernel
theorem dL_law_1241 : decode cL_law 1241 = .ok (.if_icmp .ne 16, 3) := by decide +kernel
theorem dL_law_1244 : decode cL_law 1244 = .ok (.aload_n 1, 1) := by decide +kernel
theorem dL_law_1245 : decode cL_law 1245 = .ok (.iconst 0, 1) := by decide +kernel
theorem dL_law_1246 : decode cL_law 1246 = .ok (.invokevirtual 107, 3) := by decide +kernel
theorem dL_law_1249 : decode cL_law 1249 = .ok (.iconst 2, 1) := by decide +kernel
theorem dL_law_1250 : decode cL_law 1250 = .ok (.if_icmp .ne 7, 3) := by decide +kernel
theorem dL_law_1253 : decode cL_law 1253 = .ok (.iconst 1, 1) := by decide +kernel
theorem dL_law_1254 : decode cL_law 1254 = .ok (.goto 4, 3) := by decide +kernel
theorem dL_law_1257 : decode cL_law 1257 = .ok (.iconst 0, 1) := by decide +kernel
theorem dL_law_1258 : decode cL_law 1258 = .ok (.istore 13, 2) := by decide +kernel
theorem dL_law_1260 : decode cL_law 1260 = .ok (.iload 6, 2) := by decide +kernel
theorem dL_law_1262 : decode cL_law 1262 = .ok (.bipush 20, 2) := by decide +kernel
theorem dL_law_1264 : decode cL_law 1264 = .ok (.ishr, 1) := by decide +kernel
theorem dL_law_1265 : decode cL_law 1265 = .ok (.iconst 4, 1) := by decide +kernel
theorem dL_law_1266 : decode cL_law 1266 = .ok (.invokestatic 15, 3) := by decide +kernel
theorem dL_law_1269 : decode cL_law 1269 = .ok (.istore 27, 2) := by decide +kernel
theorem dL_law_1271 : decode cL_law 1271 = .ok (.iload 6, 2) := by decide +kernel
theorem dL_law_1273 : decode cL_law 1273 = .ok (.bipush 22, 2) := by decide +kernel
theorem dL_law_1275 : decode cL_law 1275 = .ok (.ishr, 1) := by decide +kernel
theorem dL_law_1276 : decode cL_law 1276 = .ok (.iconst 4, 1) := by decide +kernel
theorem dL_law_1277 : decode cL_law 1277 = .ok (.invokestatic 15, 3) := by decide +kernel
theorem dL_law_1280 : decode cL_law 1280 = .ok (.istore 28, 2) := by decide +kernel
theorem dL_law_1282 : decode cL_law 1282 = .ok (.aload_n 1, 1) := by decide +kernel
theorem dL_law_1283 : decode cL_law 1283 = .ok (.iload 7, 2) := by decide +kernel
theorem dL_law_1285 : decode cL_law 1285 = .ok (.iconst 0, 1) := by decide +kernel
theorem dL_law_1286 : decode cL_law 1286 = .ok (.invokevirtual 53, 3) := by decide +kernel
theorem dL_law_1289 : decode cL_law 1289 = .ok (.istore 29, 2) := by decide +kernel
theorem dL_law_1291 : decode cL_law 1291 = .ok (.iload 29, 2) := by decide +kernel
theorem dL_law_1293 : decode cL_law 1293 = .ok (.iload 28, 2) := by decide +kernel
theorem dL_law_1295 : decode cL_law 1295 = .ok (.iload 11, 2) := by decide +kernel
theorem dL_law_1297 : decode cL_law 1297 = .ok (.bipush 6, 2) := by decide +kernel
theorem dL_law_1299 : decode cL_law 1299 = .ok (.irem, 1) := by decide +kernel
theorem dL_law_1300 : decode cL_law 1300 = .ok (.invokestatic 35, 3) := by decide +kernel
theorem dL_law_1303 : decode cL_law 1303 = .ok (.istore 30, 2) := by decide +kernel
theorem dL_law_1305 : decode cL_law 1305 = .ok (.iload 13, 2) := by decide +kernel
theorem dL_law_1307 : decode cL_law 1307 = .ok (.ifCond .eq 68, 3) := by decide +kernel
theorem dL_law_1310 : decode cL_law 1310 = .ok (.aload_n 1, 1) := by decide +kernel
theorem dL_law_1311 : decode cL_law 1311 = .ok (.iconst 1, 1) := by decide +kernel
theorem dL_law_1312 : decode cL_law 1312 = .ok (.invokevirtual 107, 3) := by decide +kernel
theorem dL_law_1315 : decode cL_law 1315 = .ok (.ifCond .lt 60, 3) := by decide +kernel
theorem dL_law_1318 : decode cL_law 1318 = .ok (.aload_n 1, 1) := by decide +kernel
theorem dL_law_1319 : decode cL_law 1319 = .ok (.iload 7, 2) := by decide +kernel
theorem dL_law_1321 : decode cL_law 1321 = .ok (.iload 10, 2) := by decide +kernel
theorem dL_law_1323 : decode cL_law 1323 = .ok (.bipush 100, 2) := by decide +kernel
theorem dL_law_1325 : decode cL_law 1325 = .ok (.irem, 1) := by decide +kernel
theorem dL_law_1326 : decode cL_law 1326 = .ok (.iload 27, 2) := by decide +kernel
theorem dL_law_1328 : decode cL_law 1328 = .ok (.iload 28, 2) := by decide +kernel
theorem dL_law_1330 : decode cL_law 1330 = .ok (.iload 11, 2) := by decide +kernel
theorem dL_law_1332 : decode cL_law 1332 = .ok (.bipush 6, 2) := by decide +kernel
theorem dL_law_1334 : decode cL_law 1334 = .ok (.irem, 1) := by decide +kernel
theorem dL_law_1335 : decode cL_law 1335 = .ok (.iload 29, 2) := by decide +kernel
theorem dL_law_1337 : decode cL_law 1337 = .ok (.iload 10, 2) := by decide +kernel
theorem dL_law_1339 : decode cL_law 1339 = .ok (.bipush 100, 2) := by decide +kernel
theorem dL_law_1341 : decode cL_law 1341 = .ok (.irem, 1) := by decide +kernel
theorem dL_law_1342 : decode cL_law 1342 = .ok (.iload 27, 2) := by decide +kernel
theorem dL_law_1344 : decode cL_law 1344 = .ok (.invokestatic 32, 3) := by decide +kernel
theorem dL_law_1347 : decode cL_law 1347 = .ok (.iload 30, 2) := by decide +kernel
theorem dL_law_1349 : decode cL_law 1349 = .ok (.invokevirtual 116, 3) := by decide +kernel
theorem dL_law_1352 : decode cL_law 1352 = .ok (.iconst 1, 1) := by decide +kernel
theorem dL_law_1353 : decode cL_law 1353 = .ok (.if_icmp .ne 22, 3) := by decide +kernel
theorem dL_law_1356 : decode cL_law 1356 = .ok (.aload_n 1, 1) := by decide +kernel
theorem dL_law_1357 : decode cL_law 1357 = .ok (.iload 7, 2) := by decide +kernel
theorem dL_law_1359 : decode cL_law 1359 = .ok (.invokevirtual 120, 3) := by decide +kernel
theorem dL_law_1362 : decode cL_law 1362 = .ok (.iload 29, 2) := by decide +kernel
theorem dL_law_1364 : decode cL_law 1364 = .ok (.ishr, 1) := by decide +kernel
theorem dL_law_1365 : decode cL_law 1365 = .ok (.iconst 1, 1) := by decide +kernel
theorem dL_law_1366 : decode cL_law 1366 = .ok (.iand, 1) := by decide +kernel
theorem dL_law_1367 : decode cL_law 1367 = .ok (.iconst 1, 1) := by decide +kernel
theorem dL_law_1368 : decode cL_law 1368 = .ok (.if_icmp .ne 7, 3) := by decide +kernel
theorem dL_law_1371 : decode cL_law 1371 = .ok (.iconst 1, 1) := by decide +kernel
theorem dL_law_1372 : decode cL_law 1372 = .ok (.goto 4, 3) := by decide +kernel
theorem dL_law_1375 : decode cL_law 1375 = .ok (.iconst 0, 1) := by decide +kernel
theorem dL_law_1376 : decode cL_law 1376 = .ok (.istore 13, 2) := by decide +kernel
theorem dL_law_1378 : decode cL_law 1378 = .ok (.aload_n 1, 1) := by decide +kernel
theorem dL_law_1379 : decode cL_law 1379 = .ok (.iload 7, 2) := by decide +kernel
theorem dL_law_1381 : decode cL_law 1381 = .ok (.invokevirtual 123, 3) := by decide +kernel
theorem dL_law_1384 : decode cL_law 1384 = .ok (.istore 31, 2) := by decide +kernel
theorem dL_law_1386 : decode cL_law 1386 = .ok (.iload 13, 2) := by decide +kernel
theorem dL_law_1388 : decode cL_law 1388 = .ok (.ifCond .eq 19, 3) := by decide +kernel
theorem dL_law_1391 : decode cL_law 1391 = .ok (.iload 31, 2) := by decide +kernel
theorem dL_law_1393 : decode cL_law 1393 = .ok (.ifCond .lt 14, 3) := by decide +kernel
theorem dL_law_1396 : decode cL_law 1396 = .ok (.iload 31, 2) := by decide +kernel
theorem dL_law_1398 : decode cL_law 1398 = .ok (.bipush 24, 2) := by decide +kernel
theorem dL_law_1400 : decode cL_law 1400 = .ok (.if_icmp .ge 7, 3) := by decide +kernel
theorem dL_law_1403 : decode cL_law 1403 = .ok (.iconst 1, 1) := by decide +kernel
theorem dL_law_1404 : decode cL_law 1404 = .ok (.goto 4, 3) := by decide +kernel
theorem dL_law_1407 : decode cL_law 1407 = .ok (.iconst 0, 1) := by decide +kernel
theorem dL_law_1408 : decode cL_law 1408 = .ok (.istore 13, 2) := by decide +kernel
theorem dL_law_1410 : decode cL_law 1410 = .ok (.iload 6, 2) := by decide +kernel
theorem dL_law_1412 : decode cL_law 1412 = .ok (.bipush 24, 2) := by decide +kernel
theorem dL_law_1414 : decode cL_law 1414 = .ok (.ishr, 1) := by decide +kernel
theorem dL_law_1415 : decode cL_law 1415 = .ok (.bipush 9, 2) := by decide +kernel
theorem dL_law_1417 : decode cL_law 1417 = .ok (.invokestatic 15, 3) := by decide +kernel
theorem dL_law_1420 : decode cL_law 1420 = .ok (.istore 32, 2) := by decide +kernel
theorem dL_law_1422 : decode cL_law 1422 = .ok (.iload 13, 2) := by decide +kernel
theorem dL_law_1424 : decode cL_law 1424 = .ok (.ifCond .eq 116, 3) := by decide +kernel
theorem dL_law_1427 : decode cL_law 1427 = .ok (.aload_n 1, 1) := by decide +kernel
theorem dL_law_1428 : decode cL_law 1428 = .ok (.iload 7, 2) := by decide +kernel
theorem dL_law_1430 : decode cL_law 1430 = .ok (.iload 32, 2) := by decide +kernel
theorem dL_law_1432 : decode cL_law 1432 = .ok (.iconst 0, 1) := by decide +kernel
theorem dL_law_1433 : decode cL_law 1433 = .ok (.invokevirtual 126, 3) := by decide +kernel
theorem dL_law_1436 : decode cL_law 1436 = .ok (.iconst 1, 1) := by decide +kernel
theorem dL_law_1437 : decode cL_law 1437 = .ok (.if_icmp .ne 103, 3) := by decide +kernel
theorem dL_law_1440 : decode cL_law 1440 = .ok (.aload_n 1, 1) := by decide +kernel
theorem dL_law_1441 : decode cL_law 1441 = .ok (.iconst 0, 1) := by decide +kernel
theorem dL_law_1442 : decode cL_law 1442 = .ok (.invokevirtual 129, 3) := by decide +kernel
theorem dL_law_1445 : decode cL_law 1445 = .ok (.aload_n 1, 1) := by decide +kernel
theorem dL_law_1446 : decode cL_law 1446 = .ok (.iload 7, 2) := by decide +kernel
theorem dL_law_1448 : decode cL_law 1448 = .ok (.iload 32, 2) := by decide +kernel
theorem dL_law_1450 : decode cL_law 1450 = .ok (.invokevirtual 76, 3) := by decide +kernel
theorem dL_law_1453 : decode cL_law 1453 = .ok (.bipush 6, 2) := by decide +kernel
theorem dL_law_1455 : decode cL_law 1455 = .ok (.irem, 1) := by decide +kernel
theorem dL_law_1456 : decode cL_law 1456 = .ok (.iconst 5, 1) := by decide +kernel
theorem dL_law_1457 : decode cL_law 1457 = .ok (.if_icmp .ne 7, 3) := by decide +kernel
theorem dL_law_1460 : decode cL_law 1460 = .ok (.lconst 1, 1) := by decide +kernel
theorem dL_law_1461 : decode cL_law 1461 = .ok (.goto 4, 3) := by decide +kernel
theorem dL_law_1464 : decode cL_law 1464 = .ok (.lconst 0, 1) := by decide +kernel
theorem dL_law_1465 : decode cL_law 1465 = .ok (.lcmp, 1) := by decide +kernel
theorem dL_law_1466 : decode cL_law 1466 = .ok (.ifCond .ne 74, 3) := by decide +kernel
theorem dL_law_1469 : decode cL_law 1469 = .ok (.aload_n 1, 1) := by decide +kernel
theorem dL_law_1470 : decode cL_law 1470 = .ok (.iconst 1, 1) := by decide +kernel
theorem dL_law_1471 : decode cL_law 1471 = .ok (.invokevirtual 129, 3) := by decide +kernel
theorem dL_law_1474 : decode cL_law 1474 = .ok (.lconst 1, 1) := by decide +kernel
theorem dL_law_1475 : decode cL_law 1475 = .ok (.lcmp, 1) := by decide +kernel
theorem dL_law_1476 : decode cL_law 1476 = .ok (.ifCond .ne 64, 3) := by decide +kernel
theorem dL_law_1479 : decode cL_law 1479 = .ok (.aload_n 1, 1) := by decide +kernel
theorem dL_law_1480 : decode cL_law 1480 = .ok (.iload 7, 2) := by decide +kernel
theorem dL_law_1482 : decode cL_law 1482 = .ok (.iload 32, 2) := by decide +kernel
theorem dL_law_1484 : decode cL_law 1484 = .ok (.bipush 10, 2) := by decide +kernel
theorem dL_law_1486 : decode cL_law 1486 = .ok (.invokevirtual 126, 3) := by decide +kernel
theorem dL_law_1489 : decode cL_law 1489 = .ok (.iconst 1, 1) := by decide +kernel
theorem dL_law_1490 : decode cL_law 1490 = .ok (.if_icmp .ne 50, 3) := by decide +kernel
theorem dL_law_1493 : decode cL_law 1493 = .ok (.aload_n 1, 1) := by decide +kernel
theorem dL_law_1494 : decode cL_law 1494 = .ok (.iconst 0, 1) := by decide +kernel
theorem dL_law_1495 : decode cL_law 1495 = .ok (.invokevirtual 129, 3) := by decide +kernel
theorem dL_law_1498 : decode cL_law 1498 = .ok (.iload 11, 2) := by decide +kernel
theorem dL_law_1500 : decode cL_law 1500 = .ok (.bipush 6, 2) := by decide +kernel
theorem dL_law_1502 : decode cL_law 1502 = .ok (.irem, 1) := by decide +kernel
theorem dL_law_1503 : decode cL_law 1503 = .ok (.iconst 5, 1) := by decide +kernel
theorem dL_law_1504 : decode cL_law 1504 = .ok (.if_icmp .ne 7, 3) := by decide +kernel
theorem dL_law_1507 : decode cL_law 1507 = .ok (.lconst 1, 1) := by decide +kernel
theorem dL_law_1508 : decode cL_law 1508 = .ok (.goto 4, 3) := by decide +kernel
theorem dL_law_1511 : decode cL_law 1511 = .ok (.lconst 0, 1) := by decide +kernel
theorem dL_law_1512 : decode cL_law 1512 = .ok (.lcmp, 1) := by decide +kernel
theorem dL_law_1513 : decode cL_law 1513 = .ok (.ifCond .ne 27, 3) := by decide +kernel
theorem dL_law_1516 : decode cL_law 1516 = .ok (.aload_n 1, 1) := by decide +kernel
theorem dL_law_1517 : decode cL_law 1517 = .ok (.iload 6, 2) := by decide +kernel
theorem dL_law_1519 : decode cL_law 1519 = .ok (.ldc 133, 2) := by decide +kernel
theorem dL_law_1521 : decode cL_law 1521 = .ok (.invokestatic 15, 3) := by decide +kernel
theorem dL_law_1524 : decode cL_law 1524 = .ok (.iconst 0, 1) := by decide +kernel
theorem dL_law_1525 : decode cL_law 1525 = .ok (.invokevirtual 134, 3) := by decide +kernel
theorem dL_law_1528 : decode cL_law 1528 = .ok (.aload_n 1, 1) := by decide +kernel
theorem dL_law_1529 : decode cL_law 1529 = .ok (.iconst 2, 1) := by decide +kernel
theorem dL_law_1530 : decode cL_law 1530 = .ok (.invokevirtual 46, 3) := by decide +kernel
theorem dL_law_1533 : decode cL_law 1533 = .ok (.if_icmp .ne 7, 3) := by decide +kernel
theorem dL_law_1536 : decode cL_law 1536 = .ok (.iconst 1, 1) := by decide +kernel
theorem dL_law_1537 : decode cL_law 1537 = .ok (.goto 4, 3) := by decide +kernel
theorem dL_law_1540 : decode cL_law 1540 = .ok (.iconst 0, 1) := by decide +kernel
theorem dL_law_1541 : decode cL_law 1541 = .ok (.istore 13, 2) := by decide +kernel
theorem dL_law_1543 : decode cL_law 1543 = .ok (.iload 13, 2) := by decide +kernel
theorem dL_law_1545 : decode cL_law 1545 = .ok (.ifCond .eq 78, 3) := by decide +kernel
theorem dL_law_1548 : decode cL_law 1548 = .ok (.aload_n 1, 1) := by decide +kernel
theorem dL_law_1549 : decode cL_law 1549 = .ok (.iload 7, 2) := by decide +kernel
theorem dL_law_1551 : decode cL_law 1551 = .ok (.bipush 35, 2) := by decide +kernel
theorem dL_law_1553 : decode cL_law 1553 = .ok (.iload 11, 2) := by decide +kernel
theorem dL_law_1555 : decode cL_law 1555 = .ok (.isub, 1) := by decide +kernel
theorem dL_law_1556 : decode cL_law 1556 = .ok (.invokevirtual 66, 3) := by decide +kernel
theorem dL_law_1559 : decode cL_law 1559 = .ok (.iload 11, 2) := by decide +kernel
theorem dL_law_1561 : decode cL_law 1561 = .ok (.if_icmp .ne 62, 3) := by decide +kernel
theorem dL_law_1564 : decode cL_law 1564 = .ok (.aload_n 1, 1) := by decide +kernel
theorem dL_law_1565 : decode cL_law 1565 = .ok (.iload 7, 2) := by decide +kernel
theorem dL_law_1567 : decode cL_law 1567 = .ok (.iconst 1, 1) := by decide +kernel
theorem dL_law_1568 : decode cL_law 1568 = .ok (.invokevirtual 53, 3) := by decide +kernel
theorem dL_law_1571 : decode cL_law 1571 = .ok (.bipush 35, 2) := by decide +kernel
theorem dL_law_1573 : decode cL_law 1573 = .ok (.iload 11, 2) := by decide +kernel
theorem dL_law_1575 : decode cL_law 1575 = .ok (.isub, 1) := by decide +kernel
theorem dL_law_1576 : decode cL_law 1576 = .ok (.if_icmp .ne 47, 3) := by decide +kernel
theorem dL_law_1579 : decode cL_law 1579 = .ok (.aload_n 1, 1) := by decide +kernel
theorem dL_law_1580 : decode cL_law 1580 = .ok (.invokevirtual 82, 3) := by decide +kernel
theorem dL_law_1583 : decode cL_law 1583 = .ok (.iload 10, 2) := by decide +kernel
theorem dL_law_1585 : decode cL_law 1585 = .ok (.if_icmp .ne 38, 3) := by decide +kernel
theorem dL_law_1588 : decode cL_law 1588 = .ok (.aload_n 1, 1) := by decide +kernel
theorem dL_law_1589 : decode cL_law 1589 = .ok (.iload 7, 2) := by decide +kernel
theorem dL_law_1591 : decode cL_law 1591 = .ok (.iconst 1, 1) := by decide +kernel
theorem dL_law_1592 : decode cL_law 1592 = .ok (.invokevirtual 53, 3) := by decide +kernel
theorem dL_law_1595 : decode cL_law 1595 = .ok (.iload 11, 2) := by decide +kernel
theorem dL_law_1597 : decode cL_law 1597 = .ok (.if_icmp .ne 26, 3) := by decide +kernel
theorem dL_law_1600 : decode cL_law 1600 = .ok (.aload_n 1, 1) := by decide +kernel
theorem dL_law_1601 : decode cL_law 1601 = .ok (.iconst 0, 1) := by decide +kernel
theorem dL_law_1602 : decode cL_law 1602 = .ok (.invokevirtual 92, 3) := by decide +kernel
theorem dL_law_1605 : decode cL_law 1605 = .ok (.iconst 1, 1) := by decide +kernel
theorem dL_law_1606 : decode cL_law 1606 = .ok (.if_icmp .ne 17, 3) := by decide +kernel
theorem dL_law_1609 : decode cL_law 1609 = .ok (.aload_n 1, 1) := by decide +kernel
theorem dL_law_1610 : decode cL_law 1610 = .ok (.iconst 5, 1) := by decide +kernel
theorem dL_law_1611 : decode cL_law 1611 = .ok (.invokevirtual 46, 3) := by decide +kernel
theorem dL_law_1614 : decode cL_law 1614 = .ok (.iload 9, 2) := by decide +kernel
theorem dL_law_1616 : decode cL_law 1616 = .ok (.if_icmp .ne 7, 3) := by decide +kernel
theorem dL_law_1619 : decode cL_law 1619 = .ok (.iconst 1, 1) := by decide +kernel
theorem dL_law_1620 : decode cL_law 1620 = .ok (.goto 4, 3) := by decide +kernel
theorem dL_law_1623 : decode cL_law 1623 = .ok (.iconst 0, 1) := by decide +kernel
theorem dL_law_1624 : decode cL_law 1624 = .ok (.istore 13, 2) := by decide +kernel
theorem dL_law_1626 : decode cL_law 1626 = .ok (.iload 6, 2) := by decide +kernel
theorem dL_law_1628 : decode cL_law 1628 = .ok (.bipush 26, 2) := by decide +kernel
theorem dL_law_1630 : decode cL_law 1630 = .ok (.ishr, 1) := by decide +kernel
theorem dL_law_1631 : decode cL_law 1631 = .ok (.iconst 3, 1) := by decide +kernel
theorem dL_law_1632 : decode cL_law 1632 = .ok (.invokestatic 15, 3) := by decide +kernel
theorem dL_law_1635 : decode cL_law 1635 = .ok (.istore 33, 2) := by decide +kernel
theorem dL_law_1637 : decode cL_law 1637 = .ok (.iload 13, 2) := by decide +kernel
theorem dL_law_1639 : decode cL_law 1639 = .ok (.ifCond .eq 71, 3) := by decide +kernel
theorem dL_law_1642 : decode cL_law 1642 = .ok (.iload 33, 2) := by decide +kernel
theorem dL_law_1644 : decode cL_law 1644 = .ok (.ifCond .ne 19, 3) := by decide +kernel
theorem dL_law_1647 : decode cL_law 1647 = .ok (.aload_n 1, 1) := by decide +kernel
theorem dL_law_1648 : decode cL_law 1648 = .ok (.iload 7, 2) := by decide +kernel
theorem dL_law_1650 : decode cL_law 1650 = .ok (.iload 22, 2) := by decide +kernel
theorem dL_law_1652 : decode cL_law 1652 = .ok (.invokevirtual 66, 3) := by decide +kernel
theorem dL_law_1655 : decode cL_law 1655 = .ok (.iload 11, 2) := by decide +kernel
theorem dL_law_1657 : decode cL_law 1657 = .ok (.if_icmp .ne 53, 3) := by decide +kernel
theorem dL_law_1660 : decode cL_law 1660 = .ok (.goto 38, 3) := by decide +kernel
theorem dL_law_1663 : decode cL_law 1663 = .ok (.iload 33, 2) := by decide +kernel
theorem dL_law_1665 : decode cL_law 1665 = .ok (.iconst 1, 1) := by decide +kernel
theorem dL_law_1666 : decode cL_law 1666 = .ok (.if_icmp .ne 26, 3) := by decide +kernel
theorem dL_law_1669 : decode cL_law 1669 = .ok (.aload_n 1, 1) := by decide +kernel
theorem dL_law_1670 : decode cL_law 1670 = .ok (.iload 7, 2) := by decide +kernel
theorem dL_law_1672 : decode cL_law 1672 = .ok (.iconst 1, 1) := by decide +kernel
theorem dL_law_1673 : decode cL_law 1673 = .ok (.iload 6, 2) := by decide +kernel
theorem dL_law_1675 : decode cL_law 1675 = .ok (.iconst 4, 1) := by decide +kernel
theorem dL_law_1676 : decode cL_law 1676 = .ok (.ishr, 1) := by decide +kernel
theorem dL_law_1677 : decode cL_law 1677 = .ok (.bipush 20, 2) := by decide +kernel
theorem dL_law_1679 : decode cL_law 1679 = .ok (.invokestatic 15, 3) := by decide +kernel
theorem dL_law_1682 : decode cL_law 1682 = .ok (.iadd, 1) := by decide +kernel
theorem dL_law_1683 : decode cL_law 1683 = .ok (.invokevirtual 63, 3) := by decide +kernel
theorem dL_law_1686 : decode cL_law 1686 = .ok (.ifCond .le 24, 3) := by decide +kernel
theorem dL_law_1689 : decode cL_law 1689 = .ok (.goto 9, 3) := by decide +kernel
theorem dL_law_1692 : decode cL_law 1692 = .ok (.iload 33, 2) := by decide +kernel
theorem dL_law_1694 : decode cL_law 1694 = .ok (.iconst 2, 1) := by decide +kernel
theorem dL_law_1695 : decode cL_law 1695 = .ok (.if_icmp .ne 15, 3) := by decide +kernel
theorem dL_law_1698 : decode cL_law 1698 = .ok (.aload_n 1, 1) := by decide +kernel
theorem dL_law_1699 : decode cL_law 1699 = .ok (.iconst 1, 1) := by decide +kernel
theorem dL_law_1700 : decode cL_law 1700 = .ok (.invokevirtual 60, 3) := by decide +kernel
theorem dL_law_1703 : decode cL_law 1703 = .ok (.ifCond .lt 7, 3) := by decide +kernel
theorem dL_law_1706 : decode cL_law 1706 = .ok (.iconst 1, 1) := by decide +kernel
theorem dL_law_1707 : decode cL_law 1707 = .ok (.goto 4, 3) := by decide +kernel
theorem dL_law_1710 : decode cL_law 1710 = .ok (.iconst 0, 1) := by decide +kernel
theorem dL_law_1711 : decode cL_law 1711 = .ok (.istore 13, 2) := by decide +kernel
theorem dL_law_1713 : decode cL_law 1713 = .ok (.iinc 4 1, 3) := by decide +kernel
theorem dL_law_1716 : decode cL_law 1716 = .ok (.iload 13, 2) := by decide +kernel
theorem dL_law_1718 : decode cL_law 1718 = .ok (.ifCond .ne 5, 3) := by decide +kernel
theorem dL_law_1721 : decode cL_law 1721 = .ok (.iconst 0, 1) := by decide +kernel
theorem dL_law_1722 : decode cL_law 1722 = .ok (.ireturn, 1) := by decide +kernel
theorem dL_law_1723 : decode cL_law 1723 = .ok (.iinc 5 1, 3) := by decide +kernel
theorem dL_law_1726 : decode cL_law 1726 = .ok (.goto (-1679), 3) := by decide +kernel
theorem dL_law_1729 : decode cL_law 1729 = .ok (.aload_n 1, 1) := by decide +kernel
theorem dL_law_1730 : decode cL_law 1730 = .ok (.iconst 1, 1) := by decide +kernel
theorem dL_law_1731 : decode cL_law 1731 = .ok (.invokevirtual 46, 3) := by decide +kernel
theorem dL_law_1734 : decode cL_law 1734 = .ok (.iload 4, 2) := by decide +kernel
theorem dL_law_1736 : decode cL_law 1736 = .ok (.if_icmp .ne 32, 3) := by decide +kernel
theorem dL_law_1739 : decode cL_law 1739 = .ok (.aload_n 1, 1) := by decide +kernel
theorem dL_law_1740 : decode cL_law 1740 = .ok (.iconst 0, 1) := by decide +kernel
theorem dL_law_1741 : decode cL_law 1741 = .ok (.invokevirtual 46, 3) := by decide +kernel
theorem dL_law_1744 : decode cL_law 1744 = .ok (.iload_n 3, 1) := by decide +kernel
theorem dL_law_1745 : decode cL_law 1745 = .ok (.if_icmp .ne 23, 3) := by decide +kernel
theorem dL_law_1748 : decode cL_law 1748 = .ok (.aload_n 1, 1) := by decide +kernel
theorem dL_law_1749 : decode cL_law 1749 = .ok (.iconst 3, 1) := by decide +kernel
theorem dL_law_1750 : decode cL_law 1750 = .ok (.invokevirtual 46, 3) := by decide +kernel
theorem dL_law_1753 : decode cL_law 1753 = .ok (.ifCond .ne 15, 3) := by decide +kernel
theorem dL_law_1756 : decode cL_law 1756 = .ok (.aload_n 1, 1) := by decide +kernel
theorem dL_law_1757 : decode cL_law 1757 = .ok (.iconst 4, 1) := by decide +kernel
theorem dL_law_1758 : decode cL_law 1758 = .ok (.invokevirtual 46, 3) := by decide +kernel
theorem dL_law_1761 : decode cL_law 1761 = .ok (.ifCond .ne 7, 3) := by decide +kernel
theorem dL_law_1764 : decode cL_law 1764 = .ok (.iconst 1, 1) := by decide +kernel
theorem dL_law_1765 : decode cL_law 1765 = .ok (.goto 4, 3) := by decide +kernel
theorem dL_law_1768 : decode cL_law 1768 = .ok (.iconst 0, 1) := by decide +kernel
theorem dL_law_1769 : decode cL_law 1769 = .ok (.ireturn, 1) := by decide +kernel
