theorem dX9_init_0 : decode cX9_init 0 = .ok (.aload_n 0, 1) := by decide +kernel
theorem dX9_init_1 : decode cX9_init 1 = .ok (.invokespecial 1, 3) := by decide +kernel
theorem dX9_init_4 : decode cX9_init 4 = .ok (.aload_n 0, 1) := by decide +kernel
theorem dX9_init_5 : decode cX9_init 5 = .ok (.sipush 400, 3) := by decide +kernel
theorem dX9_init_8 : decode cX9_init 8 = .ok (.newarray .int, 2) := by decide +kernel
theorem dX9_init_10 : decode cX9_init 10 = .ok (.putfield 7, 3) := by decide +kernel
theorem dX9_init_13 : decode cX9_init 13 = .ok (.aload_n 0, 1) := by decide +kernel
theorem dX9_init_14 : decode cX9_init 14 = .ok (.sipush 400, 3) := by decide +kernel
theorem dX9_init_17 : decode cX9_init 17 = .ok (.newarray .int, 2) := by decide +kernel
theorem dX9_init_19 : decode cX9_init 19 = .ok (.putfield 13, 3) := by decide +kernel
theorem dX9_init_22 : decode cX9_init 22 = .ok (.aload_n 0, 1) := by decide +kernel
theorem dX9_init_23 : decode cX9_init 23 = .ok (.sipush 400, 3) := by decide +kernel
theorem dX9_init_26 : decode cX9_init 26 = .ok (.newarray .int, 2) := by decide +kernel
theorem dX9_init_28 : decode cX9_init 28 = .ok (.putfield 16, 3) := by decide +kernel
theorem dX9_init_31 : decode cX9_init 31 = .ok (.aload_n 0, 1) := by decide +kernel
theorem dX9_init_32 : decode cX9_init 32 = .ok (.bipush 100, 2) := by decide +kernel
theorem dX9_init_34 : decode cX9_init 34 = .ok (.putfield 19, 3) := by decide +kernel
theorem dX9_init_37 : decode cX9_init 37 = .ok (.aload_n 0, 1) := by decide +kernel
theorem dX9_init_38 : decode cX9_init 38 = .ok (.iconst 4, 1) := by decide +kernel
theorem dX9_init_39 : decode cX9_init 39 = .ok (.newarray .int, 2) := by decide +kernel
theorem dX9_init_41 : decode cX9_init 41 = .ok (.putfield 23, 3) := by decide +kernel
theorem dX9_init_44 : decode cX9_init 44 = .ok (.aload_n 0, 1) := by decide +kernel
theorem dX9_init_45 : decode cX9_init 45 = .ok (.bipush 96, 2) := by decide +kernel
theorem dX9_init_47 : decode cX9_init 47 = .ok (.newarray .int, 2) := by decide +kernel
theorem dX9_init_49 : decode cX9_init 49 = .ok (.putfield 26, 3) := by decide +kernel
theorem dX9_init_52 : decode cX9_init 52 = .ok (.aload_n 0, 1) := by decide +kernel
theorem dX9_init_53 : decode cX9_init 53 = .ok (.ldc 29, 2) := by decide +kernel
theorem dX9_init_55 : decode cX9_init 55 = .ok (.putfield 30, 3) := by decide +kernel
theorem dX9_init_58 : decode cX9_init 58 = .ok (.aload_n 0, 1) := by decide +kernel
theorem dX9_init_59 : decode cX9_init 59 = .ok (.bipush 16, 2) := by decide +kernel
theorem dX9_init_61 : decode cX9_init 61 = .ok (.newarray .int, 2) := by decide +kernel
theorem dX9_init_63 : decode cX9_init 63 = .ok (.putfield 33, 3) := by decide +kernel
theorem dX9_init_66 : decode cX9_init 66 = .ok (.aload_n 0, 1) := by decide +kernel
theorem dX9_init_67 : decode cX9_init 67 = .ok (.bipush 16, 2) := by decide +kernel
theorem dX9_init_69 : decode cX9_init 69 = .ok (.newarray .int, 2) := by decide +kernel
theorem dX9_init_71 : decode cX9_init 71 = .ok (.putfield 36, 3) := by decide +kernel
theorem dX9_init_74 : decode cX9_init 74 = .ok (.aload_n 0, 1) := by decide +kernel
theorem dX9_init_75 : decode cX9_init 75 = .ok (.bipush 16, 2) := by decide +kernel
theorem dX9_init_77 : decode cX9_init 77 = .ok (.newarray .int, 2) := by decide +kernel
theorem dX9_init_79 : decode cX9_init 79 = .ok (.putfield 39, 3) := by decide +kernel
theorem dX9_init_82 : decode cX9_init 82 = .ok (.aload_n 0, 1) := by decide +kernel
theorem dX9_init_83 : decode cX9_init 83 = .ok (.bipush 16, 2) := by decide +kernel
theorem dX9_init_85 : decode cX9_init 85 = .ok (.newarray .int, 2) := by decide +kernel
theorem dX9_init_87 : decode cX9_init 87 = .ok (.putfield 42, 3) := by decide +kernel
theorem dX9_init_90 : decode cX9_init 90 = .ok (.aload_n 0, 1) := by decide +kernel
theorem dX9_init_91 : decode cX9_init 91 = .ok (.bipush 64, 2) := by decide +kernel
theorem dX9_init_93 : decode cX9_init 93 = .ok (.newarray .int, 2) := by decide +kernel
theorem dX9_init_95 : decode cX9_init 95 = .ok (.putfield 45, 3) := by decide +kernel
theorem dX9_init_98 : decode cX9_init 98 = .ok (.aload_n 0, 1) := by decide +kernel
theorem dX9_init_99 : decode cX9_init 99 = .ok (.bipush 16, 2) := by decide +kernel
theorem dX9_init_101 : decode cX9_init 101 = .ok (.newarray .int, 2) := by decide +kernel
theorem dX9_init_103 : decode cX9_init 103 = .ok (.putfield 48, 3) := by decide +kernel
theorem dX9_init_106 : decode cX9_init 106 = .ok (.aload_n 0, 1) := by decide +kernel
theorem dX9_init_107 : decode cX9_init 107 = .ok (.bipush 16, 2) := by decide +kernel
theorem dX9_init_109 : decode cX9_init 109 = .ok (.newarray .int, 2) := by decide +kernel
theorem dX9_init_111 : decode cX9_init 111 = .ok (.putfield 51, 3) := by decide +kernel
theorem dX9_init_114 : decode cX9_init 114 = .ok (.aload_n 0, 1) := by decide +kernel
theorem dX9_init_115 : decode cX9_init 115 = .ok (.sipush 168, 3) := by decide +kernel
theorem dX9_init_118 : decode cX9_init 118 = .ok (.newarray .int, 2) := by decide +kernel
theorem dX9_init_120 : decode cX9_init 120 = .ok (.putfield 54, 3) := by decide +kernel
theorem dX9_init_123 : decode cX9_init 123 = .ok (.aload_n 0, 1) := by decide +kernel
theorem dX9_init_124 : decode cX9_init 124 = .ok (.bipush 20, 2) := by decide +kernel
theorem dX9_init_126 : decode cX9_init 126 = .ok (.newarray .int, 2) := by decide +kernel
theorem dX9_init_128 : decode cX9_init 128 = .ok (.putfield 57, 3) := by decide +kernel
theorem dX9_init_131 : decode cX9_init 131 = .ok (.aload_n 0, 1) := by decide +kernel
theorem dX9_init_132 : decode cX9_init 132 = .ok (.bipush 20, 2) := by decide +kernel
theorem dX9_init_134 : decode cX9_init 134 = .ok (.newarray .int, 2) := by decide +kernel
theorem dX9_init_136 : decode cX9_init 136 = .ok (.putfield 60, 3) := by decide +kernel
theorem dX9_init_139 : decode cX9_init 139 = .ok (.aload_n 0, 1) := by decide +kernel
theorem dX9_init_140 : decode cX9_init 140 = .ok (.bipush 20, 2) := by decide +kernel
theorem dX9_init_142 : decode cX9_init 142 = .ok (.newarray .int, 2) := by decide +kernel
theorem dX9_init_144 : decode cX9_init 144 = .ok (.putfield 63, 3) := by decide +kernel
theorem dX9_init_147 : decode cX9_init 147 = .ok (.aload_n 0, 1) := by decide +kernel
theorem dX9_init_148 : decode cX9_init 148 = .ok (.bipush 20, 2) := by decide +kernel
theorem dX9_init_150 : decode cX9_init 150 = .ok (.newarray .int, 2) := by decide +kernel
theorem dX9_init_152 : decode cX9_init 152 = .ok (.putfield 66, 3) := by decide +kernel
theorem dX9_init_155 : decode cX9_init 155 = .ok (.aload_n 0, 1) := by decide +kernel
theorem dX9_init_156 : decode cX9_init 156 = .ok (.iconst 5, 1) := by decide +kernel
theorem dX9_init_157 : decode cX9_init 157 = .ok (.newarray .int, 2) := by decide +kernel
theorem dX9_init_159 : decode cX9_init 159 = .ok (.putfield 69, 3) := by decide +kernel
theorem dX9_init_162 : decode cX9_init 162 = .ok (.aload_n 0, 1) := by decide +kernel
theorem dX9_init_163 : decode cX9_init 163 = .ok (.bipush 16, 2) := by decide +kernel
theorem dX9_init_165 : decode cX9_init 165 = .ok (.newarray .int, 2) := by decide +kernel
theorem dX9_init_167 : decode cX9_init 167 = .ok (.putfield 72, 3) := by decide +kernel
theorem dX9_init_170 : decode cX9_init 170 = .ok (.aload_n 0, 1) := by decide +kernel
theorem dX9_init_171 : decode cX9_init 171 = .ok (.bipush 16, 2) := by decide +kernel
theorem dX9_init_173 : decode cX9_init 173 = .ok (.newarray .int, 2) := by decide +kernel
theorem dX9_init_175 : decode cX9_init 175 = .ok (.putfield 75, 3) := by decide +kernel
theorem dX9_init_178 : decode cX9_init 178 = .ok (.aload_n 0, 1) := by decide +kernel
theorem dX9_init_179 : decode cX9_init 179 = .ok (.bipush 120, 2) := by decide +kernel
theorem dX9_init_181 : decode cX9_init 181 = .ok (.newarray .long, 2) := by decide +kernel
theorem dX9_init_183 : decode cX9_init 183 = .ok (.putfield 78, 3) := by decide +kernel
theorem dX9_init_186 : decode cX9_init 186 = .ok (.aload_n 0, 1) := by decide +kernel
theorem dX9_init_187 : decode cX9_init 187 = .ok (.bipush 6, 2) := by decide +kernel
theorem dX9_init_189 : decode cX9_init 189 = .ok (.newarray .long, 2) := by decide +kernel
theorem dX9_init_191 : decode cX9_init 191 = .ok (.putfield 82, 3) := by decide +kernel
theorem dX9_init_194 : decode cX9_init 194 = .ok (.aload_n 0, 1) := by decide +kernel
theorem dX9_init_195 : decode cX9_init 195 = .ok (.iconst 5, 1) := by decide +kernel
theorem dX9_init_196 : decode cX9_init 196 = .ok (.newarray .int, 2) := by decide +kernel
theorem dX9_init_198 : decode cX9_init 198 = .ok (.putfield 85, 3) := by decide +kernel
theorem dX9_init_201 : decode cX9_init 201 = .ok (.aload_n 0, 1) := by decide +kernel
theorem dX9_init_202 : decode cX9_init 202 = .ok (.bipush 80, 2) := by decide +kernel
theorem dX9_init_204 : decode cX9_init 204 = .ok (.newarray .int, 2) := by decide +kernel
theorem dX9_init_206 : decode cX9_init 206 = .ok (.putfield 88, 3) := by decide +kernel
theorem dX9_init_209 : decode cX9_init 209 = .ok (.aload_n 0, 1) := by decide +kernel
theorem dX9_init_210 : decode cX9_init 210 = .ok (.sipush 300, 3) := by decide +kernel
theorem dX9_init_213 : decode cX9_init 213 = .ok (.newarray .int, 2) := by decide +kernel
theorem dX9_init_215 : decode cX9_init 215 = .ok (.putfield 91, 3) := by decide +kernel
theorem dX9_init_218 : decode cX9_init 218 = .ok (.aload_n 0, 1) := by decide +kernel
theorem dX9_init_219 : decode cX9_init 219 = .ok (.iconst (-1), 1) := by decide +kernel
theorem dX9_init_220 : decode cX9_init 220 = .ok (.putfield 94, 3) := by decide +kernel
theorem dX9_init_223 : decode cX9_init 223 = .ok (.aload_n 0, 1) := by decide +kernel
theorem dX9_init_224 : decode cX9_init 224 = .ok (.bipush 6, 2) := by decide +kernel
theorem dX9_init_226 : decode cX9_init 226 = .ok (.newarray .int, 2) := by decide +kernel
theorem dX9_init_228 : decode cX9_init 228 = .ok (.putfield 97, 3) := by decide +kernel
theorem dX9_init_231 : decode cX9_init 231 = .ok (.aload_n 0, 1) := by decide +kernel
theorem dX9_init_232 : decode cX9_init 232 = .ok (.bipush 6, 2) := by decide +kernel
theorem dX9_init_234 : decode cX9_init 234 = .ok (.newarray .int, 2) := by decide +kernel
theorem dX9_init_236 : decode cX9_init 236 = .ok (.putfield 100, 3) := by decide +kernel
theorem dX9_init_239 : decode cX9_init 239 = .ok (.aload_n 0, 1) := by decide +kernel
theorem dX9_init_240 : decode cX9_init 240 = .ok (.bipush 6, 2) := by decide +kernel
theorem dX9_init_242 : decode cX9_init 242 = .ok (.newarray .int, 2) := by decide +kernel
theorem dX9_init_244 : decode cX9_init 244 = .ok (.putfield 103, 3) := by decide +kernel
theorem dX9_init_247 : decode cX9_init 247 = .ok (.aload_n 0, 1) := by decide +kernel
theorem dX9_init_248 : decode cX9_init 248 = .ok (.bipush 6, 2) := by decide +kernel
theorem dX9_init_250 : decode cX9_init 250 = .ok (.newarray .int, 2) := by decide +kernel
theorem dX9_init_252 : decode cX9_init 252 = .ok (.putfield 106, 3) := by decide +kernel
theorem dX9_init_255 : decode cX9_init 255 = .ok (.aload_n 0, 1) := by decide +kernel
theorem dX9_init_256 : decode cX9_init 256 = .ok (.bipush 6, 2) := by decide +kernel
theorem dX9_init_258 : decode cX9_init 258 = .ok (.newarray .int, 2) := by decide +kernel
theorem dX9_init_260 : decode cX9_init 260 = .ok (.putfield 109, 3) := by decide +kernel
theorem dX9_init_263 : decode cX9_init 263 = .ok (.aload_n 0, 1) := by decide +kernel
theorem dX9_init_264 : decode cX9_init 264 = .ok (.bipush 6, 2) := by decide +kernel
theorem dX9_init_266 : decode cX9_init 266 = .ok (.newarray .int, 2) := by decide +kernel
theorem dX9_init_268 : decode cX9_init 268 = .ok (.putfield 112, 3) := by decide +kernel
theorem dX9_init_271 : decode cX9_init 271 = .ok (.aload_n 0, 1) := by decide +kernel
theorem dX9_init_272 : decode cX9_init 272 = .ok (.bipush 6, 2) := by decide +kernel
theorem dX9_init_274 : decode cX9_init 274 = .ok (.newarray .int, 2) := by decide +kernel
theorem dX9_init_276 : decode cX9_init 276 = .ok (.putfield 115, 3) := by decide +kernel
theorem dX9_init_279 : decode cX9_init 279 = .ok (.aload_n 0, 1) := by decide +kernel
theorem dX9_init_280 : decode cX9_init 280 = .ok (.sipush 2009, 3) := by decide +kernel
theorem dX9_init_283 : decode cX9_init 283 = .ok (.newarray .long, 2) := by decide +kernel
theorem dX9_init_285 : decode cX9_init 285 = .ok (.putfield 118, 3) := by decide +kernel
theorem dX9_init_288 : decode cX9_init 288 = .ok (.aload_n 0, 1) := by decide +kernel
theorem dX9_init_289 : decode cX9_init 289 = .ok (.sipush 2009, 3) := by decide +kernel
theorem dX9_init_292 : decode cX9_init 292 = .ok (.newarray .boolean, 2) := by decide +kernel
theorem dX9_init_294 : decode cX9_init 294 = .ok (.putfield 121, 3) := by decide +kernel
theorem dX9_init_297 : decode cX9_init 297 = .ok (.aload_n 0, 1) := by decide +kernel
theorem dX9_init_298 : decode cX9_init 298 = .ok (.bipush 48, 2) := by decide +kernel
theorem dX9_init_300 : decode cX9_init 300 = .ok (.newarray .int, 2) := by decide +kernel
theorem dX9_init_302 : decode cX9_init 302 = .ok (.putfield 125, 3) := by decide +kernel
theorem dX9_init_305 : decode cX9_init 305 = .ok (.aload_n 0, 1) := by decide +kernel
theorem dX9_init_306 : decode cX9_init 306 = .ok (.bipush 48, 2) := by decide +kernel
theorem dX9_init_308 : decode cX9_init 308 = .ok (.newarray .int, 2) := by decide +kernel
theorem dX9_init_310 : decode cX9_init 310 = .ok (.putfield 128, 3) := by decide +kernel
theorem dX9_init_313 : decode cX9_init 313 = .ok (.return_, 1) := by decide +kernel
theorem dX9_in_0 : decode cX9_in 0 = .ok (.lload_n 0, 1) := by decide +kernel
theorem dX9_in_1 : decode cX9_in 1 = .ok (.lload_n 2, 1) := by decide +kernel
theorem dX9_in_2 : decode cX9_in 2 = .ok (.lcmp, 1) := by decide +kernel
theorem dX9_in_3 : decode cX9_in 3 = .ok (.ifCond .lt 14, 3) := by decide +kernel
theorem dX9_in_6 : decode cX9_in 6 = .ok (.lload_n 0, 1) := by decide +kernel
theorem dX9_in_7 : decode cX9_in 7 = .ok (.lload 4, 2) := by decide +kernel
theorem dX9_in_9 : decode cX9_in 9 = .ok (.lcmp, 1) := by decide +kernel
theorem dX9_in_10 : decode cX9_in 10 = .ok (.ifCond .gt 7, 3) := by decide +kernel
theorem dX9_in_13 : decode cX9_in 13 = .ok (.iconst 1, 1) := by decide +kernel
theorem dX9_in_14 : decode cX9_in 14 = .ok (.goto 4, 3) := by decide +kernel
theorem dX9_in_17 : decode cX9_in 17 = .ok (.iconst 0, 1) := by decide +kernel
theorem dX9_in_18 : decode cX9_in 18 = .ok (.ireturn, 1) := by decide +kernel
theorem dX9_told_0 : decode cX9_told 0 = .ok (.aload_n 0, 1) := by decide +kernel
theorem dX9_told_1 : decode cX9_told 1 = .ok (.iload_n 1, 1) := by decide +kernel
theorem dX9_told_2 : decode cX9_told 2 = .ok (.ifCond .ge 7, 3) := by decide +kernel
theorem dX9_told_5 : decode cX9_told 5 = .ok (.iload_n 1, 1) := by decide +kernel
theorem dX9_told_6 : decode cX9_told 6 = .ok (.goto 4, 3) := by decide +kernel
theorem dX9_told_9 : decode cX9_told 9 = .ok (.iconst 0, 1) := by decide +kernel
theorem dX9_told_10 : decode cX9_told 10 = .ok (.putfield 134, 3) := by decide +kernel
theorem dX9_told_13 : decode cX9_told 13 = .ok (.iload_n 1, 1) := by decide +kernel
theorem dX9_told_14 : decode cX9_told 14 = .ok (.ireturn, 1) := by decide +kernel
theorem dX9_isHour_0 : decode cX9_isHour 0 = .ok (.iload_n 0, 1) := by decide +kernel
theorem dX9_isHour_1 : decode cX9_isHour 1 = .ok (.i2l, 1) := by decide +kernel
theorem dX9_isHour_2 : decode cX9_isHour 2 = .ok (.lconst 0, 1) := by decide +kernel
theorem dX9_isHour_3 : decode cX9_isHour 3 = .ok (.ldc2_w 137, 3) := by decide +kernel
theorem dX9_isHour_6 : decode cX9_isHour 6 = .ok (.invokestatic 139, 3) := by decide +kernel
theorem dX9_isHour_9 : decode cX9_isHour 9 = .ok (.ireturn, 1) := by decide +kernel
theorem dX9_isKnown_0 : decode cX9_isKnown 0 = .ok (.iload_n 0, 1) := by decide +kernel
theorem dX9_isKnown_1 : decode cX9_isKnown 1 = .ok (.i2l, 1) := by decide +kernel
theorem dX9_isKnown_2 : decode cX9_isKnown 2 = .ok (.lconst 0, 1) := by decide +kernel
theorem dX9_isKnown_3 : decode cX9_isKnown 3 = .ok (.ldc2_w 143, 3) := by decide +kernel
theorem dX9_isKnown_6 : decode cX9_isKnown 6 = .ok (.invokestatic 139, 3) := by decide +kernel
theorem dX9_isKnown_9 : decode cX9_isKnown 9 = .ok (.ireturn, 1) := by decide +kernel
theorem dX9_isHome_0 : decode cX9_isHome 0 = .ok (.iload_n 1, 1) := by decide +kernel
theorem dX9_isHome_1 : decode cX9_isHome 1 = .ok (.i2l, 1) := by decide +kernel
theorem dX9_isHome_2 : decode cX9_isHome 2 = .ok (.lconst 0, 1) := by decide +kernel
theorem dX9_isHome_3 : decode cX9_isHome 3 = .ok (.aload_n 0, 1) := by decide +kernel
theorem dX9_isHome_4 : decode cX9_isHome 4 = .ok (.getfield 145, 3) := by decide +kernel
theorem dX9_isHome_7 : decode cX9_isHome 7 = .ok (.i2l, 1) := by decide +kernel
theorem dX9_isHome_8 : decode cX9_isHome 8 = .ok (.lconst 1, 1) := by decide +kernel
theorem dX9_isHome_9 : decode cX9_isHome 9 = .ok (.lsub, 1) := by decide +kernel
theorem dX9_isHome_10 : decode cX9_isHome 10 = .ok (.invokestatic 139, 3) := by decide +kernel
theorem dX9_isHome_13 : decode cX9_isHome 13 = .ok (.ireturn, 1) := by decide +kernel
theorem dX9_isJob_0 : decode cX9_isJob 0 = .ok (.iload_n 1, 1) := by decide +kernel
theorem dX9_isJob_1 : decode cX9_isJob 1 = .ok (.i2l, 1) := by decide +kernel
theorem dX9_isJob_2 : decode cX9_isJob 2 = .ok (.lconst 0, 1) := by decide +kernel
theorem dX9_isJob_3 : decode cX9_isJob 3 = .ok (.aload_n 0, 1) := by decide +kernel
theorem dX9_isJob_4 : decode cX9_isJob 4 = .ok (.getfield 148, 3) := by decide +kernel
theorem dX9_isJob_7 : decode cX9_isJob 7 = .ok (.i2l, 1) := by decide +kernel
theorem dX9_isJob_8 : decode cX9_isJob 8 = .ok (.lconst 1, 1) := by decide +kernel
theorem dX9_isJob_9 : decode cX9_isJob 9 = .ok (.lsub, 1) := by decide +kernel
theorem dX9_isJob_10 : decode cX9_isJob 10 = .ok (.invokestatic 139, 3) := by decide +kernel
theorem dX9_isJob_13 : decode cX9_isJob 13 = .ok (.ireturn, 1) := by decide +kernel
theorem dX9_price_0 : decode cX9_price 0 = .ok (.aload_n 0, 1) := by decide +kernel
theorem dX9_price_1 : decode cX9_price 1 = .ok (.iconst 0, 1) := by decide +kernel
theorem dX9_price_2 : decode cX9_price 2 = .ok (.putfield 131, 3) := by decide +kernel
theorem dX9_price_5 : decode cX9_price 5 = .ok (.iload_n 1, 1) := by decide +kernel
theorem dX9_price_6 : decode cX9_price 6 = .ok (.invokestatic 151, 3) := by decide +kernel
theorem dX9_price_9 : decode cX9_price 9 = .ok (.ifCond .eq 24, 3) := by decide +kernel
theorem dX9_price_12 : decode cX9_price 12 = .ok (.iload_n 2, 1) := by decide +kernel
theorem dX9_price_13 : decode cX9_price 13 = .ok (.i2l, 1) := by decide +kernel
theorem dX9_price_14 : decode cX9_price 14 = .ok (.ldc2_w 155, 3) := by decide +kernel
theorem dX9_price_17 : decode cX9_price 17 = .ok (.ldc2_w 157, 3) := by decide +kernel
theorem dX9_price_20 : decode cX9_price 20 = .ok (.invokestatic 139, 3) := by decide +kernel
theorem dX9_price_23 : decode cX9_price 23 = .ok (.ifCond .eq 10, 3) := by decide +kernel
theorem dX9_price_26 : decode cX9_price 26 = .ok (.iload_n 3, 1) := by decide +kernel
theorem dX9_price_27 : decode cX9_price 27 = .ok (.invokestatic 159, 3) := by decide +kernel
theorem dX9_price_30 : decode cX9_price 30 = .ok (.ifCond .ne 9, 3) := by decide +kernel
theorem dX9_price_33 : decode cX9_price 33 = .ok (.aload_n 0, 1) := by decide +kernel
theorem dX9_price_34 : decode cX9_price 34 = .ok (.iconst (-1), 1) := by decide +kernel
theorem dX9_price_35 : decode cX9_price 35 = .ok (.invokevirtual 162, 3) := by decide +kernel
theorem dX9_price_38 : decode cX9_price 38 = .ok (.ireturn, 1) := by decide +kernel
theorem dX9_price_39 : decode cX9_price 39 = .ok (.aload_n 0, 1) := by decide +kernel
theorem dX9_price_40 : decode cX9_price 40 = .ok (.getfield 166, 3) := by decide +kernel
theorem dX9_price_43 : decode cX9_price 43 = .ok (.sipush 400, 3) := by decide +kernel
theorem dX9_price_46 : decode cX9_price 46 = .ok (.if_icmp .ne 10, 3) := by decide +kernel
theorem dX9_price_49 : decode cX9_price 49 = .ok (.aload_n 0, 1) := by decide +kernel
theorem dX9_price_50 : decode cX9_price 50 = .ok (.bipush (-5), 2) := by decide +kernel
theorem dX9_price_52 : decode cX9_price 52 = .ok (.invokevirtual 162, 3) := by decide +kernel
theorem dX9_price_55 : decode cX9_price 55 = .ok (.ireturn, 1) := by decide +kernel
theorem dX9_price_56 : decode cX9_price 56 = .ok (.aload_n 0, 1) := by decide +kernel
theorem dX9_price_57 : decode cX9_price 57 = .ok (.getfield 7, 3) := by decide +kernel
theorem dX9_price_60 : decode cX9_price 60 = .ok (.aload_n 0, 1) := by decide +kernel
theorem dX9_price_61 : decode cX9_price 61 = .ok (.getfield 166, 3) := by decide +kernel
theorem dX9_price_64 : decode cX9_price 64 = .ok (.iload_n 1, 1) := by decide +kernel
theorem dX9_price_65 : decode cX9_price 65 = .ok (.iastore, 1) := by decide +kernel
theorem dX9_price_66 : decode cX9_price 66 = .ok (.aload_n 0, 1) := by decide +kernel
theorem dX9_price_67 : decode cX9_price 67 = .ok (.getfield 13, 3) := by decide +kernel
theorem dX9_price_70 : decode cX9_price 70 = .ok (.aload_n 0, 1) := by decide +kernel
theorem dX9_price_71 : decode cX9_price 71 = .ok (.getfield 166, 3) := by decide +kernel
theorem dX9_price_74 : decode cX9_price 74 = .ok (.iload_n 2, 1) := by decide +kernel
theorem dX9_price_75 : decode cX9_price 75 = .ok (.iastore, 1) := by decide +kernel
theorem dX9_price_76 : decode cX9_price 76 = .ok (.aload_n 0, 1) := by decide +kernel
theorem dX9_price_77 : decode cX9_price 77 = .ok (.getfield 16, 3) := by decide +kernel
theorem dX9_price_80 : decode cX9_price 80 = .ok (.aload_n 0, 1) := by decide +kernel
theorem dX9_price_81 : decode cX9_price 81 = .ok (.getfield 166, 3) := by decide +kernel
theorem dX9_price_84 : decode cX9_price 84 = .ok (.iload_n 3, 1) := by decide +kernel
theorem dX9_price_85 : decode cX9_price 85 = .ok (.iastore, 1) := by decide +kernel
theorem dX9_price_86 : decode cX9_price 86 = .ok (.aload_n 0, 1) := by decide +kernel
theorem dX9_price_87 : decode cX9_price 87 = .ok (.dup, 1) := by decide +kernel
theorem dX9_price_88 : decode cX9_price 88 = .ok (.getfield 166, 3) := by decide +kernel
theorem dX9_price_91 : decode cX9_price 91 = .ok (.iconst 1, 1) := by decide +kernel
theorem dX9_price_92 : decode cX9_price 92 = .ok (.iadd, 1) := by decide +kernel
theorem dX9_price_93 : decode cX9_price 93 = .ok (.putfield 166, 3) := by decide +kernel
theorem dX9_price_96 : decode cX9_price 96 = .ok (.aload_n 0, 1) := by decide +kernel
theorem dX9_price_97 : decode cX9_price 97 = .ok (.iconst 0, 1) := by decide +kernel
theorem dX9_price_98 : decode cX9_price 98 = .ok (.putfield 169, 3) := by decide +kernel
theorem dX9_price_101 : decode cX9_price 101 = .ok (.aload_n 0, 1) := by decide +kernel
theorem dX9_price_102 : decode cX9_price 102 = .ok (.aload_n 0, 1) := by decide +kernel
theorem dX9_price_103 : decode cX9_price 103 = .ok (.getfield 166, 3) := by decide +kernel
theorem dX9_price_106 : decode cX9_price 106 = .ok (.invokevirtual 162, 3) := by decide +kernel
theorem dX9_price_109 : decode cX9_price 109 = .ok (.ireturn, 1) := by decide +kernel
theorem dX9_plain_0 : decode cX9_plain 0 = .ok (.aload_n 0, 1) := by decide +kernel
theorem dX9_plain_1 : decode cX9_plain 1 = .ok (.iconst 0, 1) := by decide +kernel
theorem dX9_plain_2 : decode cX9_plain 2 = .ok (.putfield 131, 3) := by decide +kernel
theorem dX9_plain_5 : decode cX9_plain 5 = .ok (.iload_n 1, 1) := by decide +kernel
theorem dX9_plain_6 : decode cX9_plain 6 = .ok (.i2l, 1) := by decide +kernel
theorem dX9_plain_7 : decode cX9_plain 7 = .ok (.ldc2_w 155, 3) := by decide +kernel
theorem dX9_plain_10 : decode cX9_plain 10 = .ok (.ldc2_w 157, 3) := by decide +kernel
theorem dX9_plain_13 : decode cX9_plain 13 = .ok (.invokestatic 139, 3) := by decide +kernel
theorem dX9_plain_16 : decode cX9_plain 16 = .ok (.ifCond .ne 12, 3) := by decide +kernel
theorem dX9_plain_19 : decode cX9_plain 19 = .ok (.aload_n 0, 1) := by decide +kernel
theorem dX9_plain_20 : decode cX9_plain 20 = .ok (.iconst (-1), 1) := by decide +kernel
theorem dX9_plain_21 : decode cX9_plain 21 = .ok (.putfield 134, 3) := by decide +kernel
theorem dX9_plain_24 : decode cX9_plain 24 = .ok (.sipush (-5000), 3) := by decide +kernel
theorem dX9_plain_27 : decode cX9_plain 27 = .ok (.ireturn, 1) := by decide +kernel
theorem dX9_plain_28 : decode cX9_plain 28 = .ok (.aload_n 0, 1) := by decide +kernel
theorem dX9_plain_29 : decode cX9_plain 29 = .ok (.getfield 19, 3) := by decide +kernel
theorem dX9_plain_32 : decode cX9_plain 32 = .ok (.istore_n 2, 1) := by decide +kernel
theorem dX9_plain_33 : decode cX9_plain 33 = .ok (.aload_n 0, 1) := by decide +kernel
theorem dX9_plain_34 : decode cX9_plain 34 = .ok (.iload_n 1, 1) := by decide +kernel
theorem dX9_plain_35 : decode cX9_plain 35 = .ok (.putfield 19, 3) := by decide +kernel
theorem dX9_plain_38 : decode cX9_plain 38 = .ok (.aload_n 0, 1) := by decide +kernel
theorem dX9_plain_39 : decode cX9_plain 39 = .ok (.iconst 0, 1) := by decide +kernel
theorem dX9_plain_40 : decode cX9_plain 40 = .ok (.putfield 169, 3) := by decide +kernel
theorem dX9_plain_43 : decode cX9_plain 43 = .ok (.aload_n 0, 1) := by decide +kernel
theorem dX9_plain_44 : decode cX9_plain 44 = .ok (.iconst 0, 1) := by decide +kernel
theorem dX9_plain_45 : decode cX9_plain 45 = .ok (.putfield 134, 3) := by decide +kernel
theorem dX9_plain_48 : decode cX9_plain 48 = .ok (.iload_n 2, 1) := by decide +kernel
theorem dX9_plain_49 : decode cX9_plain 49 = .ok (.ireturn, 1) := by decide +kernel
theorem dX9_nowOf_0 : decode cX9_nowOf 0 = .ok (.aload_n 0, 1) := by decide +kernel
theorem dX9_nowOf_1 : decode cX9_nowOf 1 = .ok (.getfield 169, 3) := by decide +kernel
theorem dX9_nowOf_4 : decode cX9_nowOf 4 = .ok (.ifCond .ne 93, 3) := by decide +kernel
theorem dX9_nowOf_7 : decode cX9_nowOf 7 = .ok (.iconst 0, 1) := by decide +kernel
theorem dX9_nowOf_8 : decode cX9_nowOf 8 = .ok (.istore_n 2, 1) := by decide +kernel
theorem dX9_nowOf_9 : decode cX9_nowOf 9 = .ok (.iload_n 2, 1) := by decide +kernel
theorem dX9_nowOf_10 : decode cX9_nowOf 10 = .ok (.sipush 168, 3) := by decide +kernel
theorem dX9_nowOf_13 : decode cX9_nowOf 13 = .ok (.if_icmp .ge 19, 3) := by decide +kernel
theorem dX9_nowOf_16 : decode cX9_nowOf 16 = .ok (.aload_n 0, 1) := by decide +kernel
theorem dX9_nowOf_17 : decode cX9_nowOf 17 = .ok (.getfield 54, 3) := by decide +kernel
theorem dX9_nowOf_20 : decode cX9_nowOf 20 = .ok (.iload_n 2, 1) := by decide +kernel
theorem dX9_nowOf_21 : decode cX9_nowOf 21 = .ok (.aload_n 0, 1) := by decide +kernel
theorem dX9_nowOf_22 : decode cX9_nowOf 22 = .ok (.getfield 19, 3) := by decide +kernel
theorem dX9_nowOf_25 : decode cX9_nowOf 25 = .ok (.iastore, 1) := by decide +kernel
theorem dX9_nowOf_26 : decode cX9_nowOf 26 = .ok (.iinc 2 1, 3) := by decide +kernel
theorem dX9_nowOf_29 : decode cX9_nowOf 29 = .ok (.goto (-20), 3) := by decide +kernel
theorem dX9_nowOf_32 : decode cX9_nowOf 32 = .ok (.iconst 0, 1) := by decide +kernel
theorem dX9_nowOf_33 : decode cX9_nowOf 33 = .ok (.istore_n 2, 1) := by decide +kernel
theorem dX9_nowOf_34 : decode cX9_nowOf 34 = .ok (.iload_n 2, 1) := by decide +kernel
theorem dX9_nowOf_35 : decode cX9_nowOf 35 = .ok (.aload_n 0, 1) := by decide +kernel
theorem dX9_nowOf_36 : decode cX9_nowOf 36 = .ok (.getfield 166, 3) := by decide +kernel
theorem dX9_nowOf_39 : decode cX9_nowOf 39 = .ok (.if_icmp .ge 53, 3) := by decide +kernel
theorem dX9_nowOf_42 : decode cX9_nowOf 42 = .ok (.aload_n 0, 1) := by decide +kernel
theorem dX9_nowOf_43 : decode cX9_nowOf 43 = .ok (.getfield 54, 3) := by decide +kernel
theorem dX9_nowOf_46 : decode cX9_nowOf 46 = .ok (.aload_n 0, 1) := by decide +kernel
theorem dX9_nowOf_47 : decode cX9_nowOf 47 = .ok (.getfield 7, 3) := by decide +kernel
theorem dX9_nowOf_50 : decode cX9_nowOf 50 = .ok (.iload_n 2, 1) := by decide +kernel
theorem dX9_nowOf_51 : decode cX9_nowOf 51 = .ok (.iaload, 1) := by decide +kernel
theorem dX9_nowOf_52 : decode cX9_nowOf 52 = .ok (.aload_n 0, 1) := by decide +kernel
theorem dX9_nowOf_53 : decode cX9_nowOf 53 = .ok (.getfield 16, 3) := by decide +kernel
theorem dX9_nowOf_56 : decode cX9_nowOf 56 = .ok (.iload_n 2, 1) := by decide +kernel
theorem dX9_nowOf_57 : decode cX9_nowOf 57 = .ok (.iaload, 1) := by decide +kernel
theorem dX9_nowOf_58 : decode cX9_nowOf 58 = .ok (.aload_n 0, 1) := by decide +kernel
theorem dX9_nowOf_59 : decode cX9_nowOf 59 = .ok (.getfield 173, 3) := by decide +kernel
theorem dX9_nowOf_62 : decode cX9_nowOf 62 = .ok (.if_icmp .gt 12, 3) := by decide +kernel
theorem dX9_nowOf_65 : decode cX9_nowOf 65 = .ok (.aload_n 0, 1) := by decide +kernel
theorem dX9_nowOf_66 : decode cX9_nowOf 66 = .ok (.getfield 13, 3) := by decide +kernel
theorem dX9_nowOf_69 : decode cX9_nowOf 69 = .ok (.iload_n 2, 1) := by decide +kernel
theorem dX9_nowOf_70 : decode cX9_nowOf 70 = .ok (.iaload, 1) := by decide +kernel
theorem dX9_nowOf_71 : decode cX9_nowOf 71 = .ok (.goto 14, 3) := by decide +kernel
theorem dX9_nowOf_74 : decode cX9_nowOf 74 = .ok (.aload_n 0, 1) := by decide +kernel
theorem dX9_nowOf_75 : decode cX9_nowOf 75 = .ok (.getfield 54, 3) := by decide +kernel
theorem dX9_nowOf_78 : decode cX9_nowOf 78 = .ok (.aload_n 0, 1) := by decide +kernel
theorem dX9_nowOf_79 : decode cX9_nowOf 79 = .ok (.getfield 7, 3) := by decide +kernel
theorem dX9_nowOf_82 : decode cX9_nowOf 82 = .ok (.iload_n 2, 1) := by decide +kernel
theorem dX9_nowOf_83 : decode cX9_nowOf 83 = .ok (.iaload, 1) := by decide +kernel
theorem dX9_nowOf_84 : decode cX9_nowOf 84 = .ok (.iaload, 1) := by decide +kernel
theorem dX9_nowOf_85 : decode cX9_nowOf 85 = .ok (.iastore, 1) := by decide +kernel
theorem dX9_nowOf_86 : decode cX9_nowOf 86 = .ok (.iinc 2 1, 3) := by decide +kernel
theorem dX9_nowOf_89 : decode cX9_nowOf 89 = .ok (.goto (-55), 3) := by decide +kernel
theorem dX9_nowOf_92 : decode cX9_nowOf 92 = .ok (.aload_n 0, 1) := by decide +kernel
theorem dX9_nowOf_93 : decode cX9_nowOf 93 = .ok (.iconst 1, 1) := by decide +kernel
theorem dX9_nowOf_94 : decode cX9_nowOf 94 = .ok (.putfield 169, 3) := by decide +kernel
theorem dX9_nowOf_97 : decode cX9_nowOf 97 = .ok (.aload_n 0, 1) := by decide +kernel
theorem dX9_nowOf_98 : decode cX9_nowOf 98 = .ok (.getfield 54, 3) := by decide +kernel
theorem dX9_nowOf_101 : decode cX9_nowOf 101 = .ok (.iload_n 1, 1) := by decide +kernel
theorem dX9_nowOf_102 : decode cX9_nowOf 102 = .ok (.iaload, 1) := by decide +kernel
theorem dX9_nowOf_103 : decode cX9_nowOf 103 = .ok (.ireturn, 1) := by decide +kernel
theorem dX9_priceOf_0 : decode cX9_priceOf 0 = .ok (.aload_n 0, 1) := by decide +kernel
theorem dX9_priceOf_1 : decode cX9_priceOf 1 = .ok (.getfield 19, 3) := by decide +kernel
theorem dX9_priceOf_4 : decode cX9_priceOf 4 = .ok (.istore_n 3, 1) := by decide +kernel
theorem dX9_priceOf_5 : decode cX9_priceOf 5 = .ok (.iconst 0, 1) := by decide +kernel
theorem dX9_priceOf_6 : decode cX9_priceOf 6 = .ok (.istore 4, 2) := by decide +kernel
theorem dX9_priceOf_8 : decode cX9_priceOf 8 = .ok (.iload 4, 2) := by decide +kernel
theorem dX9_priceOf_10 : decode cX9_priceOf 10 = .ok (.aload_n 0, 1) := by decide +kernel
theorem dX9_priceOf_11 : decode cX9_priceOf 11 = .ok (.getfield 166, 3) := by decide +kernel
theorem dX9_priceOf_14 : decode cX9_priceOf 14 = .ok (.if_icmp .ge 43, 3) := by decide +kernel
theorem dX9_priceOf_17 : decode cX9_priceOf 17 = .ok (.aload_n 0, 1) := by decide +kernel
theorem dX9_priceOf_18 : decode cX9_priceOf 18 = .ok (.getfield 7, 3) := by decide +kernel
theorem dX9_priceOf_21 : decode cX9_priceOf 21 = .ok (.iload 4, 2) := by decide +kernel
theorem dX9_priceOf_23 : decode cX9_priceOf 23 = .ok (.iaload, 1) := by decide +kernel
theorem dX9_priceOf_24 : decode cX9_priceOf 24 = .ok (.iload_n 1, 1) := by decide +kernel
theorem dX9_priceOf_25 : decode cX9_priceOf 25 = .ok (.if_icmp .ne 24, 3) := by decide +kernel
theorem dX9_priceOf_28 : decode cX9_priceOf 28 = .ok (.aload_n 0, 1) := by decide +kernel
theorem dX9_priceOf_29 : decode cX9_priceOf 29 = .ok (.getfield 16, 3) := by decide +kernel
theorem dX9_priceOf_32 : decode cX9_priceOf 32 = .ok (.iload 4, 2) := by decide +kernel
theorem dX9_priceOf_34 : decode cX9_priceOf 34 = .ok (.iaload, 1) := by decide +kernel
theorem dX9_priceOf_35 : decode cX9_priceOf 35 = .ok (.iload_n 2, 1) := by decide +kernel
theorem dX9_priceOf_36 : decode cX9_priceOf 36 = .ok (.if_icmp .gt 13, 3) := by decide +kernel
theorem dX9_priceOf_39 : decode cX9_priceOf 39 = .ok (.aload_n 0, 1) := by decide +kernel
theorem dX9_priceOf_40 : decode cX9_priceOf 40 = .ok (.getfield 13, 3) := by decide +kernel
theorem dX9_priceOf_43 : decode cX9_priceOf 43 = .ok (.iload 4, 2) := by decide +kernel
theorem dX9_priceOf_45 : decode cX9_priceOf 45 = .ok (.iaload, 1) := by decide +kernel
theorem dX9_priceOf_46 : decode cX9_priceOf 46 = .ok (.goto 4, 3) := by decide +kernel
theorem dX9_priceOf_49 : decode cX9_priceOf 49 = .ok (.iload_n 3, 1) := by decide +kernel
theorem dX9_priceOf_50 : decode cX9_priceOf 50 = .ok (.istore_n 3, 1) := by decide +kernel
theorem dX9_priceOf_51 : decode cX9_priceOf 51 = .ok (.iinc 4 1, 3) := by decide +kernel
theorem dX9_priceOf_54 : decode cX9_priceOf 54 = .ok (.goto (-46), 3) := by decide +kernel
theorem dX9_priceOf_57 : decode cX9_priceOf 57 = .ok (.iload_n 3, 1) := by decide +kernel
theorem dX9_priceOf_58 : decode cX9_priceOf 58 = .ok (.ireturn, 1) := by decide +kernel
theorem dX9_at_0 : decode cX9_at 0 = .ok (.aload_n 0, 1) := by decide +kernel
theorem dX9_at_1 : decode cX9_at 1 = .ok (.iconst 0, 1) := by decide +kernel
theorem dX9_at_2 : decode cX9_at 2 = .ok (.putfield 131, 3) := by decide +kernel
theorem dX9_at_5 : decode cX9_at 5 = .ok (.iload_n 1, 1) := by decide +kernel
theorem dX9_at_6 : decode cX9_at 6 = .ok (.invokestatic 151, 3) := by decide +kernel
theorem dX9_at_9 : decode cX9_at 9 = .ok (.ifCond .eq 19, 3) := by decide +kernel
theorem dX9_at_12 : decode cX9_at 12 = .ok (.iload_n 2, 1) := by decide +kernel
theorem dX9_at_13 : decode cX9_at 13 = .ok (.invokestatic 159, 3) := by decide +kernel
theorem dX9_at_16 : decode cX9_at 16 = .ok (.ifCond .eq 12, 3) := by decide +kernel
theorem dX9_at_19 : decode cX9_at 19 = .ok (.aload_n 0, 1) := by decide +kernel
theorem dX9_at_20 : decode cX9_at 20 = .ok (.iload_n 1, 1) := by decide +kernel
theorem dX9_at_21 : decode cX9_at 21 = .ok (.iload_n 2, 1) := by decide +kernel
theorem dX9_at_22 : decode cX9_at 22 = .ok (.invokevirtual 176, 3) := by decide +kernel
theorem dX9_at_25 : decode cX9_at 25 = .ok (.goto 6, 3) := by decide +kernel
theorem dX9_at_28 : decode cX9_at 28 = .ok (.sipush (-5000), 3) := by decide +kernel
theorem dX9_at_31 : decode cX9_at 31 = .ok (.ireturn, 1) := by decide +kernel
theorem dX9_home_0 : decode cX9_home 0 = .ok (.aload_n 0, 1) := by decide +kernel
theorem dX9_home_1 : decode cX9_home 1 = .ok (.iconst 0, 1) := by decide +kernel
theorem dX9_home_2 : decode cX9_home 2 = .ok (.putfield 131, 3) := by decide +kernel
theorem dX9_home_5 : decode cX9_home 5 = .ok (.iload_n 1, 1) := by decide +kernel
theorem dX9_home_6 : decode cX9_home 6 = .ok (.i2l, 1) := by decide +kernel
theorem dX9_home_7 : decode cX9_home 7 = .ok (.lconst 0, 1) := by decide +kernel
theorem dX9_home_8 : decode cX9_home 8 = .ok (.ldc2_w 180, 3) := by decide +kernel
theorem dX9_home_11 : decode cX9_home 11 = .ok (.invokestatic 139, 3) := by decide +kernel
theorem dX9_home_14 : decode cX9_home 14 = .ok (.ifCond .ne 9, 3) := by decide +kernel
theorem dX9_home_17 : decode cX9_home 17 = .ok (.aload_n 0, 1) := by decide +kernel
theorem dX9_home_18 : decode cX9_home 18 = .ok (.iconst (-1), 1) := by decide +kernel
theorem dX9_home_19 : decode cX9_home 19 = .ok (.invokevirtual 162, 3) := by decide +kernel
theorem dX9_home_22 : decode cX9_home 22 = .ok (.ireturn, 1) := by decide +kernel
theorem dX9_home_23 : decode cX9_home 23 = .ok (.aload_n 0, 1) := by decide +kernel
theorem dX9_home_24 : decode cX9_home 24 = .ok (.getfield 145, 3) := by decide +kernel
theorem dX9_home_27 : decode cX9_home 27 = .ok (.iconst 4, 1) := by decide +kernel
theorem dX9_home_28 : decode cX9_home 28 = .ok (.if_icmp .ne 10, 3) := by decide +kernel
theorem dX9_home_31 : decode cX9_home 31 = .ok (.aload_n 0, 1) := by decide +kernel
theorem dX9_home_32 : decode cX9_home 32 = .ok (.bipush (-5), 2) := by decide +kernel
theorem dX9_home_34 : decode cX9_home 34 = .ok (.invokevirtual 162, 3) := by decide +kernel
theorem dX9_home_37 : decode cX9_home 37 = .ok (.ireturn, 1) := by decide +kernel
theorem dX9_home_38 : decode cX9_home 38 = .ok (.aload_n 0, 1) := by decide +kernel
theorem dX9_home_39 : decode cX9_home 39 = .ok (.getfield 23, 3) := by decide +kernel
theorem dX9_home_42 : decode cX9_home 42 = .ok (.aload_n 0, 1) := by decide +kernel
theorem dX9_home_43 : decode cX9_home 43 = .ok (.getfield 145, 3) := by decide +kernel
theorem dX9_home_46 : decode cX9_home 46 = .ok (.iload_n 1, 1) := by decide +kernel
theorem dX9_home_47 : decode cX9_home 47 = .ok (.iastore, 1) := by decide +kernel
theorem dX9_home_48 : decode cX9_home 48 = .ok (.aload_n 0, 1) := by decide +kernel
theorem dX9_home_49 : decode cX9_home 49 = .ok (.dup, 1) := by decide +kernel
theorem dX9_home_50 : decode cX9_home 50 = .ok (.getfield 145, 3) := by decide +kernel
theorem dX9_home_53 : decode cX9_home 53 = .ok (.iconst 1, 1) := by decide +kernel
theorem dX9_home_54 : decode cX9_home 54 = .ok (.iadd, 1) := by decide +kernel
theorem dX9_home_55 : decode cX9_home 55 = .ok (.putfield 145, 3) := by decide +kernel
theorem dX9_home_58 : decode cX9_home 58 = .ok (.aload_n 0, 1) := by decide +kernel
theorem dX9_home_59 : decode cX9_home 59 = .ok (.aload_n 0, 1) := by decide +kernel
theorem dX9_home_60 : decode cX9_home 60 = .ok (.getfield 145, 3) := by decide +kernel
theorem dX9_home_63 : decode cX9_home 63 = .ok (.iconst 1, 1) := by decide +kernel
theorem dX9_home_64 : decode cX9_home 64 = .ok (.isub, 1) := by decide +kernel
theorem dX9_home_65 : decode cX9_home 65 = .ok (.invokevirtual 162, 3) := by decide +kernel
theorem dX9_home_68 : decode cX9_home 68 = .ok (.ireturn, 1) := by decide +kernel
theorem dX9_base_0 : decode cX9_base 0 = .ok (.aload_n 0, 1) := by decide +kernel
theorem dX9_base_1 : decode cX9_base 1 = .ok (.iconst 0, 1) := by decide +kernel
theorem dX9_base_2 : decode cX9_base 2 = .ok (.putfield 131, 3) := by decide +kernel
theorem dX9_base_5 : decode cX9_base 5 = .ok (.iload_n 2, 1) := by decide +kernel
theorem dX9_base_6 : decode cX9_base 6 = .ok (.i2l, 1) := by decide +kernel
theorem dX9_base_7 : decode cX9_base 7 = .ok (.lconst 0, 1) := by decide +kernel
theorem dX9_base_8 : decode cX9_base 8 = .ok (.ldc2_w 182, 3) := by decide +kernel
theorem dX9_base_11 : decode cX9_base 11 = .ok (.invokestatic 139, 3) := by decide +kernel
theorem dX9_base_14 : decode cX9_base 14 = .ok (.ifCond .eq 15, 3) := by decide +kernel
theorem dX9_base_17 : decode cX9_base 17 = .ok (.iload_n 3, 1) := by decide +kernel
theorem dX9_base_18 : decode cX9_base 18 = .ok (.i2l, 1) := by decide +kernel
theorem dX9_base_19 : decode cX9_base 19 = .ok (.lconst 0, 1) := by decide +kernel
theorem dX9_base_20 : decode cX9_base 20 = .ok (.ldc2_w 184, 3) := by decide +kernel
theorem dX9_base_23 : decode cX9_base 23 = .ok (.invokestatic 139, 3) := by decide +kernel
theorem dX9_base_26 : decode cX9_base 26 = .ok (.ifCond .ne 9, 3) := by decide +kernel
theorem dX9_base_29 : decode cX9_base 29 = .ok (.aload_n 0, 1) := by decide +kernel
theorem dX9_base_30 : decode cX9_base 30 = .ok (.iconst (-1), 1) := by decide +kernel
theorem dX9_base_31 : decode cX9_base 31 = .ok (.invokevirtual 162, 3) := by decide +kernel
theorem dX9_base_34 : decode cX9_base 34 = .ok (.ireturn, 1) := by decide +kernel
theorem dX9_base_35 : decode cX9_base 35 = .ok (.aload_n 0, 1) := by decide +kernel
theorem dX9_base_36 : decode cX9_base 36 = .ok (.iload_n 1, 1) := by decide +kernel
theorem dX9_base_37 : decode cX9_base 37 = .ok (.invokevirtual 186, 3) := by decide +kernel
theorem dX9_base_40 : decode cX9_base 40 = .ok (.ifCond .ne 10, 3) := by decide +kernel
theorem dX9_base_43 : decode cX9_base 43 = .ok (.aload_n 0, 1) := by decide +kernel
theorem dX9_base_44 : decode cX9_base 44 = .ok (.bipush (-2), 2) := by decide +kernel
theorem dX9_base_46 : decode cX9_base 46 = .ok (.invokevirtual 162, 3) := by decide +kernel
theorem dX9_base_49 : decode cX9_base 49 = .ok (.ireturn, 1) := by decide +kernel
theorem dX9_base_50 : decode cX9_base 50 = .ok (.aload_n 0, 1) := by decide +kernel
theorem dX9_base_51 : decode cX9_base 51 = .ok (.getfield 26, 3) := by decide +kernel
theorem dX9_base_54 : decode cX9_base 54 = .ok (.bipush 24, 2) := by decide +kernel
theorem dX9_base_56 : decode cX9_base 56 = .ok (.iload_n 1, 1) := by decide +kernel
theorem dX9_base_57 : decode cX9_base 57 = .ok (.imul, 1) := by decide +kernel
theorem dX9_base_58 : decode cX9_base 58 = .ok (.iload_n 2, 1) := by decide +kernel
theorem dX9_base_59 : decode cX9_base 59 = .ok (.iadd, 1) := by decide +kernel
theorem dX9_base_60 : decode cX9_base 60 = .ok (.iload_n 3, 1) := by decide +kernel
theorem dX9_base_61 : decode cX9_base 61 = .ok (.iastore, 1) := by decide +kernel
theorem dX9_base_62 : decode cX9_base 62 = .ok (.aload_n 0, 1) := by decide +kernel
theorem dX9_base_63 : decode cX9_base 63 = .ok (.iconst 0, 1) := by decide +kernel
theorem dX9_base_64 : decode cX9_base 64 = .ok (.invokevirtual 162, 3) := by decide +kernel
theorem dX9_base_67 : decode cX9_base 67 = .ok (.ireturn, 1) := by decide +kernel
theorem dX9_cable_0 : decode cX9_cable 0 = .ok (.aload_n 0, 1) := by decide +kernel
theorem dX9_cable_1 : decode cX9_cable 1 = .ok (.iconst 0, 1) := by decide +kernel
theorem dX9_cable_2 : decode cX9_cable 2 = .ok (.putfield 131, 3) := by decide +kernel
theorem dX9_cable_5 : decode cX9_cable 5 = .ok (.iload_n 1, 1) := by decide +kernel
theorem dX9_cable_6 : decode cX9_cable 6 = .ok (.i2l, 1) := by decide +kernel
theorem dX9_cable_7 : decode cX9_cable 7 = .ok (.lconst 0, 1) := by decide +kernel
theorem dX9_cable_8 : decode cX9_cable 8 = .ok (.ldc2_w 189, 3) := by decide +kernel
theorem dX9_cable_11 : decode cX9_cable 11 = .ok (.invokestatic 139, 3) := by decide +kernel
theorem dX9_cable_14 : decode cX9_cable 14 = .ok (.ifCond .ne 9, 3) := by decide +kernel
theorem dX9_cable_17 : decode cX9_cable 17 = .ok (.aload_n 0, 1) := by decide +kernel
theorem dX9_cable_18 : decode cX9_cable 18 = .ok (.iconst (-1), 1) := by decide +kernel
theorem dX9_cable_19 : decode cX9_cable 19 = .ok (.invokevirtual 162, 3) := by decide +kernel
theorem dX9_cable_22 : decode cX9_cable 22 = .ok (.ireturn, 1) := by decide +kernel
theorem dX9_cable_23 : decode cX9_cable 23 = .ok (.aload_n 0, 1) := by decide +kernel
theorem dX9_cable_24 : decode cX9_cable 24 = .ok (.getfield 30, 3) := by decide +kernel
theorem dX9_cable_27 : decode cX9_cable 27 = .ok (.istore_n 2, 1) := by decide +kernel
theorem dX9_cable_28 : decode cX9_cable 28 = .ok (.aload_n 0, 1) := by decide +kernel
theorem dX9_cable_29 : decode cX9_cable 29 = .ok (.iload_n 1, 1) := by decide +kernel
theorem dX9_cable_30 : decode cX9_cable 30 = .ok (.putfield 30, 3) := by decide +kernel
theorem dX9_cable_33 : decode cX9_cable 33 = .ok (.aload_n 0, 1) := by decide +kernel
theorem dX9_cable_34 : decode cX9_cable 34 = .ok (.iload_n 2, 1) := by decide +kernel
theorem dX9_cable_35 : decode cX9_cable 35 = .ok (.invokevirtual 162, 3) := by decide +kernel
theorem dX9_cable_38 : decode cX9_cable 38 = .ok (.ireturn, 1) := by decide +kernel
theorem dX9_job_0 : decode cX9_job 0 = .ok (.aload_n 0, 1) := by decide +kernel
theorem dX9_job_1 : decode cX9_job 1 = .ok (.iconst 0, 1) := by decide +kernel
theorem dX9_job_2 : decode cX9_job 2 = .ok (.putfield 131, 3) := by decide +kernel
theorem dX9_job_5 : decode cX9_job 5 = .ok (.iload_n 2, 1) := by decide +kernel
theorem dX9_job_6 : decode cX9_job 6 = .ok (.invokestatic 151, 3) := by decide +kernel
theorem dX9_job_9 : decode cX9_job 9 = .ok (.ifCond .eq 53, 3) := by decide +kernel
theorem dX9_job_12 : decode cX9_job 12 = .ok (.iload_n 3, 1) := by decide +kernel
theorem dX9_job_13 : decode cX9_job 13 = .ok (.invokestatic 151, 3) := by decide +kernel
theorem dX9_job_16 : decode cX9_job 16 = .ok (.ifCond .eq 46, 3) := by decide +kernel
theorem dX9_job_19 : decode cX9_job 19 = .ok (.iload_n 2, 1) := by decide +kernel
theorem dX9_job_20 : decode cX9_job 20 = .ok (.iload_n 3, 1) := by decide +kernel
theorem dX9_job_21 : decode cX9_job 21 = .ok (.if_icmp .gt 41, 3) := by decide +kernel
theorem dX9_job_24 : decode cX9_job 24 = .ok (.iload_n 3, 1) := by decide +kernel
theorem dX9_job_25 : decode cX9_job 25 = .ok (.iload_n 2, 1) := by decide +kernel
theorem dX9_job_26 : decode cX9_job 26 = .ok (.isub, 1) := by decide +kernel
theorem dX9_job_27 : decode cX9_job 27 = .ok (.bipush 23, 2) := by decide +kernel
theorem dX9_job_29 : decode cX9_job 29 = .ok (.if_icmp .gt 33, 3) := by decide +kernel
theorem dX9_job_32 : decode cX9_job 32 = .ok (.iload 4, 2) := by decide +kernel
theorem dX9_job_34 : decode cX9_job 34 = .ok (.i2l, 1) := by decide +kernel
theorem dX9_job_35 : decode cX9_job 35 = .ok (.lconst 1, 1) := by decide +kernel
theorem dX9_job_36 : decode cX9_job 36 = .ok (.ldc2_w 191, 3) := by decide +kernel
theorem dX9_job_39 : decode cX9_job 39 = .ok (.invokestatic 139, 3) := by decide +kernel
theorem dX9_job_42 : decode cX9_job 42 = .ok (.ifCond .eq 20, 3) := by decide +kernel
theorem dX9_job_45 : decode cX9_job 45 = .ok (.iload 5, 2) := by decide +kernel
theorem dX9_job_47 : decode cX9_job 47 = .ok (.i2l, 1) := by decide +kernel
theorem dX9_job_48 : decode cX9_job 48 = .ok (.lconst 0, 1) := by decide +kernel
theorem dX9_job_49 : decode cX9_job 49 = .ok (.ldc2_w 184, 3) := by decide +kernel
theorem dX9_job_52 : decode cX9_job 52 = .ok (.invokestatic 139, 3) := by decide +kernel
theorem dX9_job_55 : decode cX9_job 55 = .ok (.ifCond .eq 7, 3) := by decide +kernel
theorem dX9_job_58 : decode cX9_job 58 = .ok (.iconst 1, 1) := by decide +kernel
theorem dX9_job_59 : decode cX9_job 59 = .ok (.goto 4, 3) := by decide +kernel
theorem dX9_job_62 : decode cX9_job 62 = .ok (.iconst 0, 1) := by decide +kernel
theorem dX9_job_63 : decode cX9_job 63 = .ok (.istore 9, 2) := by decide +kernel
theorem dX9_job_65 : decode cX9_job 65 = .ok (.iload 9, 2) := by decide +kernel
theorem dX9_job_67 : decode cX9_job 67 = .ok (.ifCond .eq 64, 3) := by decide +kernel
theorem dX9_job_70 : decode cX9_job 70 = .ok (.iload 4, 2) := by decide +kernel
theorem dX9_job_72 : decode cX9_job 72 = .ok (.iconst 2, 1) := by decide +kernel
theorem dX9_job_73 : decode cX9_job 73 = .ok (.if_icmp .lt 16, 3) := by decide +kernel
theorem dX9_job_76 : decode cX9_job 76 = .ok (.iload 6, 2) := by decide +kernel
theorem dX9_job_78 : decode cX9_job 78 = .ok (.i2l, 1) := by decide +kernel
theorem dX9_job_79 : decode cX9_job 79 = .ok (.lconst 0, 1) := by decide +kernel
theorem dX9_job_80 : decode cX9_job 80 = .ok (.ldc2_w 184, 3) := by decide +kernel
theorem dX9_job_83 : decode cX9_job 83 = .ok (.invokestatic 139, 3) := by decide +kernel
theorem dX9_job_86 : decode cX9_job 86 = .ok (.ifCond .eq 45, 3) := by decide +kernel
theorem dX9_job_89 : decode cX9_job 89 = .ok (.iload 4, 2) := by decide +kernel
theorem dX9_job_91 : decode cX9_job 91 = .ok (.iconst 3, 1) := by decide +kernel
theorem dX9_job_92 : decode cX9_job 92 = .ok (.if_icmp .lt 16, 3) := by decide +kernel
theorem dX9_job_95 : decode cX9_job 95 = .ok (.iload 7, 2) := by decide +kernel
theorem dX9_job_97 : decode cX9_job 97 = .ok (.i2l, 1) := by decide +kernel
theorem dX9_job_98 : decode cX9_job 98 = .ok (.lconst 0, 1) := by decide +kernel
theorem dX9_job_99 : decode cX9_job 99 = .ok (.ldc2_w 184, 3) := by decide +kernel
theorem dX9_job_102 : decode cX9_job 102 = .ok (.invokestatic 139, 3) := by decide +kernel
theorem dX9_job_105 : decode cX9_job 105 = .ok (.ifCond .eq 26, 3) := by decide +kernel
theorem dX9_job_108 : decode cX9_job 108 = .ok (.iload 4, 2) := by decide +kernel
theorem dX9_job_110 : decode cX9_job 110 = .ok (.iconst 4, 1) := by decide +kernel
theorem dX9_job_111 : decode cX9_job 111 = .ok (.if_icmp .lt 16, 3) := by decide +kernel
theorem dX9_job_114 : decode cX9_job 114 = .ok (.iload 8, 2) := by decide +kernel
theorem dX9_job_116 : decode cX9_job 116 = .ok (.i2l, 1) := by decide +kernel
theorem dX9_job_117 : decode cX9_job 117 = .ok (.lconst 0, 1) := by decide +kernel
theorem dX9_job_118 : decode cX9_job 118 = .ok (.ldc2_w 184, 3) := by decide +kernel
theorem dX9_job_121 : decode cX9_job 121 = .ok (.invokestatic 139, 3) := by decide +kernel
theorem dX9_job_124 : decode cX9_job 124 = .ok (.ifCond .eq 7, 3) := by decide +kernel
theorem dX9_job_127 : decode cX9_job 127 = .ok (.iconst 1, 1) := by decide +kernel
theorem dX9_job_128 : decode cX9_job 128 = .ok (.goto 4, 3) := by decide +kernel
theorem dX9_job_131 : decode cX9_job 131 = .ok (.iconst 0, 1) := by decide +kernel
theorem dX9_job_132 : decode cX9_job 132 = .ok (.istore 9, 2) := by decide +kernel
theorem dX9_job_134 : decode cX9_job 134 = .ok (.iload 9, 2) := by decide +kernel
theorem dX9_job_136 : decode cX9_job 136 = .ok (.ifCond .ne 9, 3) := by decide +kernel
theorem dX9_job_139 : decode cX9_job 139 = .ok (.aload_n 0, 1) := by decide +kernel
theorem dX9_job_140 : decode cX9_job 140 = .ok (.iconst (-1), 1) := by decide +kernel
theorem dX9_job_141 : decode cX9_job 141 = .ok (.invokevirtual 162, 3) := by decide +kernel
theorem dX9_job_144 : decode cX9_job 144 = .ok (.ireturn, 1) := by decide +kernel
theorem dX9_job_145 : decode cX9_job 145 = .ok (.aload_n 0, 1) := by decide +kernel
theorem dX9_job_146 : decode cX9_job 146 = .ok (.iload_n 1, 1) := by decide +kernel
theorem dX9_job_147 : decode cX9_job 147 = .ok (.invokevirtual 186, 3) := by decide +kernel
theorem dX9_job_150 : decode cX9_job 150 = .ok (.ifCond .ne 10, 3) := by decide +kernel
theorem dX9_job_153 : decode cX9_job 153 = .ok (.aload_n 0, 1) := by decide +kernel
theorem dX9_job_154 : decode cX9_job 154 = .ok (.bipush (-2), 2) := by decide +kernel
theorem dX9_job_156 : decode cX9_job 156 = .ok (.invokevirtual 162, 3) := by decide +kernel
theorem dX9_job_159 : decode cX9_job 159 = .ok (.ireturn, 1) := by decide +kernel
theorem dX9_job_160 : decode cX9_job 160 = .ok (.aload_n 0, 1) := by decide +kernel
theorem dX9_job_161 : decode cX9_job 161 = .ok (.getfield 148, 3) := by decide +kernel
theorem dX9_job_164 : decode cX9_job 164 = .ok (.bipush 16, 2) := by decide +kernel
theorem dX9_job_166 : decode cX9_job 166 = .ok (.if_icmp .ne 10, 3) := by decide +kernel
theorem dX9_job_169 : decode cX9_job 169 = .ok (.aload_n 0, 1) := by decide +kernel
theorem dX9_job_170 : decode cX9_job 170 = .ok (.bipush (-5), 2) := by decide +kernel
theorem dX9_job_172 : decode cX9_job 172 = .ok (.invokevirtual 162, 3) := by decide +kernel
theorem dX9_job_175 : decode cX9_job 175 = .ok (.ireturn, 1) := by decide +kernel
theorem dX9_job_176 : decode cX9_job 176 = .ok (.aload_n 0, 1) := by decide +kernel
theorem dX9_job_177 : decode cX9_job 177 = .ok (.getfield 33, 3) := by decide +kernel
theorem dX9_job_180 : decode cX9_job 180 = .ok (.aload_n 0, 1) := by decide +kernel
theorem dX9_job_181 : decode cX9_job 181 = .ok (.getfield 148, 3) := by decide +kernel
theorem dX9_job_184 : decode cX9_job 184 = .ok (.iload_n 1, 1) := by decide +kernel
theorem dX9_job_185 : decode cX9_job 185 = .ok (.iastore, 1) := by decide +kernel
theorem dX9_job_186 : decode cX9_job 186 = .ok (.aload_n 0, 1) := by decide +kernel
theorem dX9_job_187 : decode cX9_job 187 = .ok (.getfield 36, 3) := by decide +kernel
theorem dX9_job_190 : decode cX9_job 190 = .ok (.aload_n 0, 1) := by decide +kernel
theorem dX9_job_191 : decode cX9_job 191 = .ok (.getfield 148, 3) := by decide +kernel
theorem dX9_job_194 : decode cX9_job 194 = .ok (.iload_n 2, 1) := by decide +kernel
theorem dX9_job_195 : decode cX9_job 195 = .ok (.iastore, 1) := by decide +kernel
theorem dX9_job_196 : decode cX9_job 196 = .ok (.aload_n 0, 1) := by decide +kernel
theorem dX9_job_197 : decode cX9_job 197 = .ok (.getfield 39, 3) := by decide +kernel
theorem dX9_job_200 : decode cX9_job 200 = .ok (.aload_n 0, 1) := by decide +kernel
theorem dX9_job_201 : decode cX9_job 201 = .ok (.getfield 148, 3) := by decide +kernel
theorem dX9_job_204 : decode cX9_job 204 = .ok (.iload_n 3, 1) := by decide +kernel
theorem dX9_job_205 : decode cX9_job 205 = .ok (.iastore, 1) := by decide +kernel
theorem dX9_job_206 : decode cX9_job 206 = .ok (.aload_n 0, 1) := by decide +kernel
theorem dX9_job_207 : decode cX9_job 207 = .ok (.getfield 42, 3) := by decide +kernel
theorem dX9_job_210 : decode cX9_job 210 = .ok (.aload_n 0, 1) := by decide +kernel
theorem dX9_job_211 : decode cX9_job 211 = .ok (.getfield 148, 3) := by decide +kernel
theorem dX9_job_214 : decode cX9_job 214 = .ok (.iload 4, 2) := by decide +kernel
theorem dX9_job_216 : decode cX9_job 216 = .ok (.iastore, 1) := by decide +kernel
theorem dX9_job_217 : decode cX9_job 217 = .ok (.aload_n 0, 1) := by decide +kernel
theorem dX9_job_218 : decode cX9_job 218 = .ok (.getfield 45, 3) := by decide +kernel
theorem dX9_job_221 : decode cX9_job 221 = .ok (.iconst 4, 1) := by decide +kernel
theorem dX9_job_222 : decode cX9_job 222 = .ok (.aload_n 0, 1) := by decide +kernel
theorem dX9_job_223 : decode cX9_job 223 = .ok (.getfield 148, 3) := by decide +kernel
theorem dX9_job_226 : decode cX9_job 226 = .ok (.imul, 1) := by decide +kernel
theorem dX9_job_227 : decode cX9_job 227 = .ok (.iload 5, 2) := by decide +kernel
theorem dX9_job_229 : decode cX9_job 229 = .ok (.iastore, 1) := by decide +kernel
theorem dX9_job_230 : decode cX9_job 230 = .ok (.aload_n 0, 1) := by decide +kernel
theorem dX9_job_231 : decode cX9_job 231 = .ok (.getfield 45, 3) := by decide +kernel
theorem dX9_job_234 : decode cX9_job 234 = .ok (.iconst 4, 1) := by decide +kernel
theorem dX9_job_235 : decode cX9_job 235 = .ok (.aload_n 0, 1) := by decide +kernel
theorem dX9_job_236 : decode cX9_job 236 = .ok (.getfield 148, 3) := by decide +kernel
theorem dX9_job_239 : decode cX9_job 239 = .ok (.imul, 1) := by decide +kernel
theorem dX9_job_240 : decode cX9_job 240 = .ok (.iconst 1, 1) := by decide +kernel
theorem dX9_job_241 : decode cX9_job 241 = .ok (.iadd, 1) := by decide +kernel
theorem dX9_job_242 : decode cX9_job 242 = .ok (.iload 6, 2) := by decide +kernel
theorem dX9_job_244 : decode cX9_job 244 = .ok (.iastore, 1) := by decide +kernel
theorem dX9_job_245 : decode cX9_job 245 = .ok (.aload_n 0, 1) := by decide +kernel
theorem dX9_job_246 : decode cX9_job 246 = .ok (.getfield 45, 3) := by decide +kernel
theorem dX9_job_249 : decode cX9_job 249 = .ok (.iconst 4, 1) := by decide +kernel
theorem dX9_job_250 : decode cX9_job 250 = .ok (.aload_n 0, 1) := by decide +kernel
theorem dX9_job_251 : decode cX9_job 251 = .ok (.getfield 148, 3) := by decide +kernel
theorem dX9_job_254 : decode cX9_job 254 = .ok (.imul, 1) := by decide +kernel
theorem dX9_job_255 : decode cX9_job 255 = .ok (.iconst 2, 1) := by decide +kernel
theorem dX9_job_256 : decode cX9_job 256 = .ok (.iadd, 1) := by decide +kernel
theorem dX9_job_257 : decode cX9_job 257 = .ok (.iload 7, 2) := by decide +kernel
theorem dX9_job_259 : decode cX9_job 259 = .ok (.iastore, 1) := by decide +kernel
theorem dX9_job_260 : decode cX9_job 260 = .ok (.aload_n 0, 1) := by decide +kernel
theorem dX9_job_261 : decode cX9_job 261 = .ok (.getfield 45, 3) := by decide +kernel
theorem dX9_job_264 : decode cX9_job 264 = .ok (.iconst 4, 1) := by decide +kernel
theorem dX9_job_265 : decode cX9_job 265 = .ok (.aload_n 0, 1) := by decide +kernel
theorem dX9_job_266 : decode cX9_job 266 = .ok (.getfield 148, 3) := by decide +kernel
theorem dX9_job_269 : decode cX9_job 269 = .ok (.imul, 1) := by decide +kernel
theorem dX9_job_270 : decode cX9_job 270 = .ok (.iconst 3, 1) := by decide +kernel
theorem dX9_job_271 : decode cX9_job 271 = .ok (.iadd, 1) := by decide +kernel
theorem dX9_job_272 : decode cX9_job 272 = .ok (.iload 8, 2) := by decide +kernel
theorem dX9_job_274 : decode cX9_job 274 = .ok (.iastore, 1) := by decide +kernel
theorem dX9_job_275 : decode cX9_job 275 = .ok (.aload_n 0, 1) := by decide +kernel
theorem dX9_job_276 : decode cX9_job 276 = .ok (.getfield 48, 3) := by decide +kernel
theorem dX9_job_279 : decode cX9_job 279 = .ok (.aload_n 0, 1) := by decide +kernel
theorem dX9_job_280 : decode cX9_job 280 = .ok (.getfield 148, 3) := by decide +kernel
theorem dX9_job_283 : decode cX9_job 283 = .ok (.iconst 0, 1) := by decide +kernel
theorem dX9_job_284 : decode cX9_job 284 = .ok (.iastore, 1) := by decide +kernel
theorem dX9_job_285 : decode cX9_job 285 = .ok (.aload_n 0, 1) := by decide +kernel
theorem dX9_job_286 : decode cX9_job 286 = .ok (.getfield 51, 3) := by decide +kernel
theorem dX9_job_289 : decode cX9_job 289 = .ok (.aload_n 0, 1) := by decide +kernel
theorem dX9_job_290 : decode cX9_job 290 = .ok (.getfield 148, 3) := by decide +kernel
theorem dX9_job_293 : decode cX9_job 293 = .ok (.iconst (-1), 1) := by decide +kernel
theorem dX9_job_294 : decode cX9_job 294 = .ok (.iastore, 1) := by decide +kernel
theorem dX9_job_295 : decode cX9_job 295 = .ok (.aload_n 0, 1) := by decide +kernel
theorem dX9_job_296 : decode cX9_job 296 = .ok (.dup, 1) := by decide +kernel
theorem dX9_job_297 : decode cX9_job 297 = .ok (.getfield 148, 3) := by decide +kernel
theorem dX9_job_300 : decode cX9_job 300 = .ok (.iconst 1, 1) := by decide +kernel
theorem dX9_job_301 : decode cX9_job 301 = .ok (.iadd, 1) := by decide +kernel
theorem dX9_job_302 : decode cX9_job 302 = .ok (.putfield 148, 3) := by decide +kernel
theorem dX9_job_305 : decode cX9_job 305 = .ok (.aload_n 0, 1) := by decide +kernel
theorem dX9_job_306 : decode cX9_job 306 = .ok (.aload_n 0, 1) := by decide +kernel
theorem dX9_job_307 : decode cX9_job 307 = .ok (.getfield 148, 3) := by decide +kernel
theorem dX9_job_310 : decode cX9_job 310 = .ok (.iconst 1, 1) := by decide +kernel
theorem dX9_job_311 : decode cX9_job 311 = .ok (.isub, 1) := by decide +kernel
theorem dX9_job_312 : decode cX9_job 312 = .ok (.invokevirtual 162, 3) := by decide +kernel
theorem dX9_job_315 : decode cX9_job 315 = .ok (.ireturn, 1) := by decide +kernel
theorem dX9_of_0 : decode cX9_of 0 = .ok (.aload_n 0, 1) := by decide +kernel
theorem dX9_of_1 : decode cX9_of 1 = .ok (.iconst 0, 1) := by decide +kernel
theorem dX9_of_2 : decode cX9_of 2 = .ok (.putfield 131, 3) := by decide +kernel
theorem dX9_of_5 : decode cX9_of 5 = .ok (.aload_n 0, 1) := by decide +kernel
theorem dX9_of_6 : decode cX9_of 6 = .ok (.iload_n 1, 1) := by decide +kernel
theorem dX9_of_7 : decode cX9_of 7 = .ok (.invokevirtual 193, 3) := by decide +kernel
theorem dX9_of_10 : decode cX9_of 10 = .ok (.ifCond .ne 5, 3) := by decide +kernel
theorem dX9_of_13 : decode cX9_of 13 = .ok (.iconst (-1), 1) := by decide +kernel
theorem dX9_of_14 : decode cX9_of 14 = .ok (.ireturn, 1) := by decide +kernel
theorem dX9_of_15 : decode cX9_of 15 = .ok (.iload_n 2, 1) := by decide +kernel
theorem dX9_of_16 : decode cX9_of 16 = .ok (.tableswitch 95 0 5 #[40, 47, 54, 61, 68, 75], 40) := by decide +kernel
theorem dX9_of_56 : decode cX9_of 56 = .ok (.aload_n 0, 1) := by decide +kernel
theorem dX9_of_57 : decode cX9_of 57 = .ok (.getfield 33, 3) := by decide +kernel
theorem dX9_of_60 : decode cX9_of 60 = .ok (.iload_n 1, 1) := by decide +kernel
theorem dX9_of_61 : decode cX9_of 61 = .ok (.iaload, 1) := by decide +kernel
theorem dX9_of_62 : decode cX9_of 62 = .ok (.ireturn, 1) := by decide +kernel
theorem dX9_of_63 : decode cX9_of 63 = .ok (.aload_n 0, 1) := by decide +kernel
theorem dX9_of_64 : decode cX9_of 64 = .ok (.getfield 36, 3) := by decide +kernel
theorem dX9_of_67 : decode cX9_of 67 = .ok (.iload_n 1, 1) := by decide +kernel
theorem dX9_of_68 : decode cX9_of 68 = .ok (.iaload, 1) := by decide +kernel
theorem dX9_of_69 : decode cX9_of 69 = .ok (.ireturn, 1) := by decide +kernel
theorem dX9_of_70 : decode cX9_of 70 = .ok (.aload_n 0, 1) := by decide +kernel
theorem dX9_of_71 : decode cX9_of 71 = .ok (.getfield 39, 3) := by decide +kernel
theorem dX9_of_74 : decode cX9_of 74 = .ok (.iload_n 1, 1) := by decide +kernel
theorem dX9_of_75 : decode cX9_of 75 = .ok (.iaload, 1) := by decide +kernel
theorem dX9_of_76 : decode cX9_of 76 = .ok (.ireturn, 1) := by decide +kernel
theorem dX9_of_77 : decode cX9_of 77 = .ok (.aload_n 0, 1) := by decide +kernel
theorem dX9_of_78 : decode cX9_of 78 = .ok (.getfield 42, 3) := by decide +kernel
theorem dX9_of_81 : decode cX9_of 81 = .ok (.iload_n 1, 1) := by decide +kernel
theorem dX9_of_82 : decode cX9_of 82 = .ok (.iaload, 1) := by decide +kernel
theorem dX9_of_83 : decode cX9_of 83 = .ok (.ireturn, 1) := by decide +kernel
theorem dX9_of_84 : decode cX9_of 84 = .ok (.aload_n 0, 1) := by decide +kernel
theorem dX9_of_85 : decode cX9_of 85 = .ok (.getfield 48, 3) := by decide +kernel
theorem dX9_of_88 : decode cX9_of 88 = .ok (.iload_n 1, 1) := by decide +kernel
theorem dX9_of_89 : decode cX9_of 89 = .ok (.iaload, 1) := by decide +kernel
theorem dX9_of_90 : decode cX9_of 90 = .ok (.ireturn, 1) := by decide +kernel
theorem dX9_of_91 : decode cX9_of 91 = .ok (.aload_n 0, 1) := by decide +kernel
theorem dX9_of_92 : decode cX9_of 92 = .ok (.getfield 48, 3) := by decide +kernel
theorem dX9_of_95 : decode cX9_of 95 = .ok (.iload_n 1, 1) := by decide +kernel
theorem dX9_of_96 : decode cX9_of 96 = .ok (.iaload, 1) := by decide +kernel
theorem dX9_of_97 : decode cX9_of 97 = .ok (.ifCond .ne 7, 3) := by decide +kernel
theorem dX9_of_100 : decode cX9_of 100 = .ok (.iconst (-1), 1) := by decide +kernel
theorem dX9_of_101 : decode cX9_of 101 = .ok (.goto 9, 3) := by decide +kernel
theorem dX9_of_104 : decode cX9_of 104 = .ok (.aload_n 0, 1) := by decide +kernel
theorem dX9_of_105 : decode cX9_of 105 = .ok (.getfield 51, 3) := by decide +kernel
theorem dX9_of_108 : decode cX9_of 108 = .ok (.iload_n 1, 1) := by decide +kernel
theorem dX9_of_109 : decode cX9_of 109 = .ok (.iaload, 1) := by decide +kernel
theorem dX9_of_110 : decode cX9_of 110 = .ok (.ireturn, 1) := by decide +kernel
theorem dX9_of_111 : decode cX9_of 111 = .ok (.iload_n 2, 1) := by decide +kernel
theorem dX9_of_112 : decode cX9_of 112 = .ok (.i2l, 1) := by decide +kernel
theorem dX9_of_113 : decode cX9_of 113 = .ok (.ldc2_w 196, 3) := by decide +kernel
theorem dX9_of_116 : decode cX9_of 116 = .ok (.ldc2_w 198, 3) := by decide +kernel
theorem dX9_of_119 : decode cX9_of 119 = .ok (.aload_n 0, 1) := by decide +kernel
theorem dX9_of_120 : decode cX9_of 120 = .ok (.getfield 42, 3) := by decide +kernel
theorem dX9_of_123 : decode cX9_of 123 = .ok (.iload_n 1, 1) := by decide +kernel
theorem dX9_of_124 : decode cX9_of 124 = .ok (.iaload, 1) := by decide +kernel
theorem dX9_of_125 : decode cX9_of 125 = .ok (.i2l, 1) := by decide +kernel
theorem dX9_of_126 : decode cX9_of 126 = .ok (.ladd, 1) := by decide +kernel
theorem dX9_of_127 : decode cX9_of 127 = .ok (.invokestatic 139, 3) := by decide +kernel
theorem dX9_of_130 : decode cX9_of 130 = .ok (.ifCond .eq 19, 3) := by decide +kernel
theorem dX9_of_133 : decode cX9_of 133 = .ok (.aload_n 0, 1) := by decide +kernel
theorem dX9_of_134 : decode cX9_of 134 = .ok (.getfield 45, 3) := by decide +kernel
theorem dX9_of_137 : decode cX9_of 137 = .ok (.iconst 4, 1) := by decide +kernel
theorem dX9_of_138 : decode cX9_of 138 = .ok (.iload_n 1, 1) := by decide +kernel
theorem dX9_of_139 : decode cX9_of 139 = .ok (.imul, 1) := by decide +kernel
theorem dX9_of_140 : decode cX9_of 140 = .ok (.iload_n 2, 1) := by decide +kernel
theorem dX9_of_141 : decode cX9_of 141 = .ok (.iadd, 1) := by decide +kernel
theorem dX9_of_142 : decode cX9_of 142 = .ok (.bipush 10, 2) := by decide +kernel
theorem dX9_of_144 : decode cX9_of 144 = .ok (.isub, 1) := by decide +kernel
theorem dX9_of_145 : decode cX9_of 145 = .ok (.iaload, 1) := by decide +kernel
theorem dX9_of_146 : decode cX9_of 146 = .ok (.goto 4, 3) := by decide +kernel
theorem dX9_of_149 : decode cX9_of 149 = .ok (.iconst (-1), 1) := by decide +kernel
theorem dX9_of_150 : decode cX9_of 150 = .ok (.ireturn, 1) := by decide +kernel
theorem dX9_drawnBy_0 : decode cX9_drawnBy 0 = .ok (.iload_n 2, 1) := by decide +kernel
theorem dX9_drawnBy_1 : decode cX9_drawnBy 1 = .ok (.aload_n 0, 1) := by decide +kernel
theorem dX9_drawnBy_2 : decode cX9_drawnBy 2 = .ok (.getfield 51, 3) := by decide +kernel
theorem dX9_drawnBy_5 : decode cX9_drawnBy 5 = .ok (.iload_n 1, 1) := by decide +kernel
theorem dX9_drawnBy_6 : decode cX9_drawnBy 6 = .ok (.iaload, 1) := by decide +kernel
theorem dX9_drawnBy_7 : decode cX9_drawnBy 7 = .ok (.isub, 1) := by decide +kernel
theorem dX9_drawnBy_8 : decode cX9_drawnBy 8 = .ok (.istore_n 3, 1) := by decide +kernel
theorem dX9_drawnBy_9 : decode cX9_drawnBy 9 = .ok (.aload_n 0, 1) := by decide +kernel
theorem dX9_drawnBy_10 : decode cX9_drawnBy 10 = .ok (.getfield 48, 3) := by decide +kernel
theorem dX9_drawnBy_13 : decode cX9_drawnBy 13 = .ok (.iload_n 1, 1) := by decide +kernel
theorem dX9_drawnBy_14 : decode cX9_drawnBy 14 = .ok (.iaload, 1) := by decide +kernel
theorem dX9_drawnBy_15 : decode cX9_drawnBy 15 = .ok (.ifCond .eq 34, 3) := by decide +kernel
theorem dX9_drawnBy_18 : decode cX9_drawnBy 18 = .ok (.iload_n 3, 1) := by decide +kernel
theorem dX9_drawnBy_19 : decode cX9_drawnBy 19 = .ok (.i2l, 1) := by decide +kernel
theorem dX9_drawnBy_20 : decode cX9_drawnBy 20 = .ok (.lconst 0, 1) := by decide +kernel
theorem dX9_drawnBy_21 : decode cX9_drawnBy 21 = .ok (.aload_n 0, 1) := by decide +kernel
theorem dX9_drawnBy_22 : decode cX9_drawnBy 22 = .ok (.getfield 42, 3) := by decide +kernel
theorem dX9_drawnBy_25 : decode cX9_drawnBy 25 = .ok (.iload_n 1, 1) := by decide +kernel
theorem dX9_drawnBy_26 : decode cX9_drawnBy 26 = .ok (.iaload, 1) := by decide +kernel
theorem dX9_drawnBy_27 : decode cX9_drawnBy 27 = .ok (.i2l, 1) := by decide +kernel
theorem dX9_drawnBy_28 : decode cX9_drawnBy 28 = .ok (.lconst 1, 1) := by decide +kernel
theorem dX9_drawnBy_29 : decode cX9_drawnBy 29 = .ok (.lsub, 1) := by decide +kernel
theorem dX9_drawnBy_30 : decode cX9_drawnBy 30 = .ok (.invokestatic 139, 3) := by decide +kernel
theorem dX9_drawnBy_33 : decode cX9_drawnBy 33 = .ok (.ifCond .eq 16, 3) := by decide +kernel
theorem dX9_drawnBy_36 : decode cX9_drawnBy 36 = .ok (.aload_n 0, 1) := by decide +kernel
theorem dX9_drawnBy_37 : decode cX9_drawnBy 37 = .ok (.getfield 45, 3) := by decide +kernel
theorem dX9_drawnBy_40 : decode cX9_drawnBy 40 = .ok (.iconst 4, 1) := by decide +kernel
theorem dX9_drawnBy_41 : decode cX9_drawnBy 41 = .ok (.iload_n 1, 1) := by decide +kernel
theorem dX9_drawnBy_42 : decode cX9_drawnBy 42 = .ok (.imul, 1) := by decide +kernel
theorem dX9_drawnBy_43 : decode cX9_drawnBy 43 = .ok (.iload_n 3, 1) := by decide +kernel
theorem dX9_drawnBy_44 : decode cX9_drawnBy 44 = .ok (.iadd, 1) := by decide +kernel
theorem dX9_drawnBy_45 : decode cX9_drawnBy 45 = .ok (.iaload, 1) := by decide +kernel
theorem dX9_drawnBy_46 : decode cX9_drawnBy 46 = .ok (.goto 4, 3) := by decide +kernel
theorem dX9_drawnBy_49 : decode cX9_drawnBy 49 = .ok (.iconst 0, 1) := by decide +kernel
theorem dX9_drawnBy_50 : decode cX9_drawnBy 50 = .ok (.ireturn, 1) := by decide +kernel
theorem dX9_loadOf_0 : decode cX9_loadOf 0 = .ok (.aload_n 0, 1) := by decide +kernel
theorem dX9_loadOf_1 : decode cX9_loadOf 1 = .ok (.getfield 26, 3) := by decide +kernel
theorem dX9_loadOf_4 : decode cX9_loadOf 4 = .ok (.bipush 24, 2) := by decide +kernel
theorem dX9_loadOf_6 : decode cX9_loadOf 6 = .ok (.iload_n 1, 1) := by decide +kernel
theorem dX9_loadOf_7 : decode cX9_loadOf 7 = .ok (.imul, 1) := by decide +kernel
theorem dX9_loadOf_8 : decode cX9_loadOf 8 = .ok (.iload_n 2, 1) := by decide +kernel
theorem dX9_loadOf_9 : decode cX9_loadOf 9 = .ok (.bipush 24, 2) := by decide +kernel
theorem dX9_loadOf_11 : decode cX9_loadOf 11 = .ok (.irem, 1) := by decide +kernel
theorem dX9_loadOf_12 : decode cX9_loadOf 12 = .ok (.iadd, 1) := by decide +kernel
theorem dX9_loadOf_13 : decode cX9_loadOf 13 = .ok (.iaload, 1) := by decide +kernel
theorem dX9_loadOf_14 : decode cX9_loadOf 14 = .ok (.istore 4, 2) := by decide +kernel
theorem dX9_loadOf_16 : decode cX9_loadOf 16 = .ok (.iconst 0, 1) := by decide +kernel
theorem dX9_loadOf_17 : decode cX9_loadOf 17 = .ok (.istore 5, 2) := by decide +kernel
theorem dX9_loadOf_19 : decode cX9_loadOf 19 = .ok (.iload 5, 2) := by decide +kernel
theorem dX9_loadOf_21 : decode cX9_loadOf 21 = .ok (.aload_n 0, 1) := by decide +kernel
theorem dX9_loadOf_22 : decode cX9_loadOf 22 = .ok (.getfield 148, 3) := by decide +kernel
theorem dX9_loadOf_25 : decode cX9_loadOf 25 = .ok (.if_icmp .ge 42, 3) := by decide +kernel
theorem dX9_loadOf_28 : decode cX9_loadOf 28 = .ok (.iload 4, 2) := by decide +kernel
theorem dX9_loadOf_30 : decode cX9_loadOf 30 = .ok (.iload 5, 2) := by decide +kernel
theorem dX9_loadOf_32 : decode cX9_loadOf 32 = .ok (.iload_n 3, 1) := by decide +kernel
theorem dX9_loadOf_33 : decode cX9_loadOf 33 = .ok (.if_icmp .eq 24, 3) := by decide +kernel
theorem dX9_loadOf_36 : decode cX9_loadOf 36 = .ok (.aload_n 0, 1) := by decide +kernel
theorem dX9_loadOf_37 : decode cX9_loadOf 37 = .ok (.getfield 33, 3) := by decide +kernel
theorem dX9_loadOf_40 : decode cX9_loadOf 40 = .ok (.iload 5, 2) := by decide +kernel
theorem dX9_loadOf_42 : decode cX9_loadOf 42 = .ok (.iaload, 1) := by decide +kernel
theorem dX9_loadOf_43 : decode cX9_loadOf 43 = .ok (.iload_n 1, 1) := by decide +kernel
theorem dX9_loadOf_44 : decode cX9_loadOf 44 = .ok (.if_icmp .ne 13, 3) := by decide +kernel
theorem dX9_loadOf_47 : decode cX9_loadOf 47 = .ok (.aload_n 0, 1) := by decide +kernel
theorem dX9_loadOf_48 : decode cX9_loadOf 48 = .ok (.iload 5, 2) := by decide +kernel
theorem dX9_loadOf_50 : decode cX9_loadOf 50 = .ok (.iload_n 2, 1) := by decide +kernel
theorem dX9_loadOf_51 : decode cX9_loadOf 51 = .ok (.invokevirtual 200, 3) := by decide +kernel
theorem dX9_loadOf_54 : decode cX9_loadOf 54 = .ok (.goto 4, 3) := by decide +kernel
theorem dX9_loadOf_57 : decode cX9_loadOf 57 = .ok (.iconst 0, 1) := by decide +kernel
theorem dX9_loadOf_58 : decode cX9_loadOf 58 = .ok (.iadd, 1) := by decide +kernel
theorem dX9_loadOf_59 : decode cX9_loadOf 59 = .ok (.istore 4, 2) := by decide +kernel
theorem dX9_loadOf_61 : decode cX9_loadOf 61 = .ok (.iinc 5 1, 3) := by decide +kernel
theorem dX9_loadOf_64 : decode cX9_loadOf 64 = .ok (.goto (-45), 3) := by decide +kernel
theorem dX9_loadOf_67 : decode cX9_loadOf 67 = .ok (.iload 4, 2) := by decide +kernel
theorem dX9_loadOf_69 : decode cX9_loadOf 69 = .ok (.ireturn, 1) := by decide +kernel
theorem dX9_load_0 : decode cX9_load 0 = .ok (.aload_n 0, 1) := by decide +kernel
theorem dX9_load_1 : decode cX9_load 1 = .ok (.iconst 0, 1) := by decide +kernel
theorem dX9_load_2 : decode cX9_load 2 = .ok (.putfield 131, 3) := by decide +kernel
theorem dX9_load_5 : decode cX9_load 5 = .ok (.aload_n 0, 1) := by decide +kernel
theorem dX9_load_6 : decode cX9_load 6 = .ok (.iload_n 1, 1) := by decide +kernel
theorem dX9_load_7 : decode cX9_load 7 = .ok (.invokevirtual 186, 3) := by decide +kernel
theorem dX9_load_10 : decode cX9_load 10 = .ok (.ifCond .eq 20, 3) := by decide +kernel
theorem dX9_load_13 : decode cX9_load 13 = .ok (.iload_n 2, 1) := by decide +kernel
theorem dX9_load_14 : decode cX9_load 14 = .ok (.invokestatic 151, 3) := by decide +kernel
theorem dX9_load_17 : decode cX9_load 17 = .ok (.ifCond .eq 13, 3) := by decide +kernel
theorem dX9_load_20 : decode cX9_load 20 = .ok (.aload_n 0, 1) := by decide +kernel
theorem dX9_load_21 : decode cX9_load 21 = .ok (.iload_n 1, 1) := by decide +kernel
theorem dX9_load_22 : decode cX9_load 22 = .ok (.iload_n 2, 1) := by decide +kernel
theorem dX9_load_23 : decode cX9_load 23 = .ok (.iconst (-1), 1) := by decide +kernel
theorem dX9_load_24 : decode cX9_load 24 = .ok (.invokevirtual 203, 3) := by decide +kernel
theorem dX9_load_27 : decode cX9_load 27 = .ok (.goto 4, 3) := by decide +kernel
theorem dX9_load_30 : decode cX9_load 30 = .ok (.iconst (-1), 1) := by decide +kernel
theorem dX9_load_31 : decode cX9_load 31 = .ok (.ireturn, 1) := by decide +kernel
theorem dX9_isQuiet_0 : decode cX9_isQuiet 0 = .ok (.iconst 0, 1) := by decide +kernel
theorem dX9_isQuiet_1 : decode cX9_isQuiet 1 = .ok (.istore_n 3, 1) := by decide +kernel
theorem dX9_isQuiet_2 : decode cX9_isQuiet 2 = .ok (.iload_n 2, 1) := by decide +kernel
theorem dX9_isQuiet_3 : decode cX9_isQuiet 3 = .ok (.bipush 24, 2) := by decide +kernel
theorem dX9_isQuiet_5 : decode cX9_isQuiet 5 = .ok (.irem, 1) := by decide +kernel
theorem dX9_isQuiet_6 : decode cX9_isQuiet 6 = .ok (.istore 4, 2) := by decide +kernel
theorem dX9_isQuiet_8 : decode cX9_isQuiet 8 = .ok (.iconst 0, 1) := by decide +kernel
theorem dX9_isQuiet_9 : decode cX9_isQuiet 9 = .ok (.istore 5, 2) := by decide +kernel
theorem dX9_isQuiet_11 : decode cX9_isQuiet 11 = .ok (.iload 5, 2) := by decide +kernel
theorem dX9_isQuiet_13 : decode cX9_isQuiet 13 = .ok (.aload_n 0, 1) := by decide +kernel
theorem dX9_isQuiet_14 : decode cX9_isQuiet 14 = .ok (.getfield 207, 3) := by decide +kernel
theorem dX9_isQuiet_17 : decode cX9_isQuiet 17 = .ok (.if_icmp .ge 109, 3) := by decide +kernel
theorem dX9_isQuiet_20 : decode cX9_isQuiet 20 = .ok (.aload_n 0, 1) := by decide +kernel
theorem dX9_isQuiet_21 : decode cX9_isQuiet 21 = .ok (.getfield 57, 3) := by decide +kernel
theorem dX9_isQuiet_24 : decode cX9_isQuiet 24 = .ok (.iload 5, 2) := by decide +kernel
theorem dX9_isQuiet_26 : decode cX9_isQuiet 26 = .ok (.iaload, 1) := by decide +kernel
theorem dX9_isQuiet_27 : decode cX9_isQuiet 27 = .ok (.ifCond .ne 93, 3) := by decide +kernel
theorem dX9_isQuiet_30 : decode cX9_isQuiet 30 = .ok (.aload_n 0, 1) := by decide +kernel
theorem dX9_isQuiet_31 : decode cX9_isQuiet 31 = .ok (.getfield 60, 3) := by decide +kernel
theorem dX9_isQuiet_34 : decode cX9_isQuiet 34 = .ok (.iload 5, 2) := by decide +kernel
theorem dX9_isQuiet_36 : decode cX9_isQuiet 36 = .ok (.iaload, 1) := by decide +kernel
theorem dX9_isQuiet_37 : decode cX9_isQuiet 37 = .ok (.iload_n 1, 1) := by decide +kernel
theorem dX9_isQuiet_38 : decode cX9_isQuiet 38 = .ok (.if_icmp .ne 82, 3) := by decide +kernel
theorem dX9_isQuiet_41 : decode cX9_isQuiet 41 = .ok (.iload_n 3, 1) := by decide +kernel
theorem dX9_isQuiet_42 : decode cX9_isQuiet 42 = .ok (.ifCond .ne 72, 3) := by decide +kernel
theorem dX9_isQuiet_45 : decode cX9_isQuiet 45 = .ok (.aload_n 0, 1) := by decide +kernel
theorem dX9_isQuiet_46 : decode cX9_isQuiet 46 = .ok (.getfield 63, 3) := by decide +kernel
theorem dX9_isQuiet_49 : decode cX9_isQuiet 49 = .ok (.iload 5, 2) := by decide +kernel
theorem dX9_isQuiet_51 : decode cX9_isQuiet 51 = .ok (.iaload, 1) := by decide +kernel
theorem dX9_isQuiet_52 : decode cX9_isQuiet 52 = .ok (.aload_n 0, 1) := by decide +kernel
theorem dX9_isQuiet_53 : decode cX9_isQuiet 53 = .ok (.getfield 66, 3) := by decide +kernel
theorem dX9_isQuiet_56 : decode cX9_isQuiet 56 = .ok (.iload 5, 2) := by decide +kernel
theorem dX9_isQuiet_58 : decode cX9_isQuiet 58 = .ok (.iaload, 1) := by decide +kernel
theorem dX9_isQuiet_59 : decode cX9_isQuiet 59 = .ok (.if_icmp .gt 31, 3) := by decide +kernel
theorem dX9_isQuiet_62 : decode cX9_isQuiet 62 = .ok (.iload 4, 2) := by decide +kernel
theorem dX9_isQuiet_64 : decode cX9_isQuiet 64 = .ok (.i2l, 1) := by decide +kernel
theorem dX9_isQuiet_65 : decode cX9_isQuiet 65 = .ok (.aload_n 0, 1) := by decide +kernel
theorem dX9_isQuiet_66 : decode cX9_isQuiet 66 = .ok (.getfield 63, 3) := by decide +kernel
theorem dX9_isQuiet_69 : decode cX9_isQuiet 69 = .ok (.iload 5, 2) := by decide +kernel
theorem dX9_isQuiet_71 : decode cX9_isQuiet 71 = .ok (.iaload, 1) := by decide +kernel
theorem dX9_isQuiet_72 : decode cX9_isQuiet 72 = .ok (.i2l, 1) := by decide +kernel
theorem dX9_isQuiet_73 : decode cX9_isQuiet 73 = .ok (.aload_n 0, 1) := by decide +kernel
theorem dX9_isQuiet_74 : decode cX9_isQuiet 74 = .ok (.getfield 66, 3) := by decide +kernel
theorem dX9_isQuiet_77 : decode cX9_isQuiet 77 = .ok (.iload 5, 2) := by decide +kernel
theorem dX9_isQuiet_79 : decode cX9_isQuiet 79 = .ok (.iaload, 1) := by decide +kernel
theorem dX9_isQuiet_80 : decode cX9_isQuiet 80 = .ok (.i2l, 1) := by decide +kernel
theorem dX9_isQuiet_81 : decode cX9_isQuiet 81 = .ok (.invokestatic 139, 3) := by decide +kernel
theorem dX9_isQuiet_84 : decode cX9_isQuiet 84 = .ok (.ifCond .eq 34, 3) := by decide +kernel
theorem dX9_isQuiet_87 : decode cX9_isQuiet 87 = .ok (.goto 27, 3) := by decide +kernel
theorem dX9_isQuiet_90 : decode cX9_isQuiet 90 = .ok (.iload 4, 2) := by decide +kernel
theorem dX9_isQuiet_92 : decode cX9_isQuiet 92 = .ok (.aload_n 0, 1) := by decide +kernel
theorem dX9_isQuiet_93 : decode cX9_isQuiet 93 = .ok (.getfield 63, 3) := by decide +kernel
theorem dX9_isQuiet_96 : decode cX9_isQuiet 96 = .ok (.iload 5, 2) := by decide +kernel
theorem dX9_isQuiet_98 : decode cX9_isQuiet 98 = .ok (.iaload, 1) := by decide +kernel
theorem dX9_isQuiet_99 : decode cX9_isQuiet 99 = .ok (.if_icmp .ge 15, 3) := by decide +kernel
theorem dX9_isQuiet_102 : decode cX9_isQuiet 102 = .ok (.iload 4, 2) := by decide +kernel
theorem dX9_isQuiet_104 : decode cX9_isQuiet 104 = .ok (.aload_n 0, 1) := by decide +kernel
theorem dX9_isQuiet_105 : decode cX9_isQuiet 105 = .ok (.getfield 66, 3) := by decide +kernel
theorem dX9_isQuiet_108 : decode cX9_isQuiet 108 = .ok (.iload 5, 2) := by decide +kernel
theorem dX9_isQuiet_110 : decode cX9_isQuiet 110 = .ok (.iaload, 1) := by decide +kernel
theorem dX9_isQuiet_111 : decode cX9_isQuiet 111 = .ok (.if_icmp .gt 7, 3) := by decide +kernel
theorem dX9_isQuiet_114 : decode cX9_isQuiet 114 = .ok (.iconst 1, 1) := by decide +kernel
theorem dX9_isQuiet_115 : decode cX9_isQuiet 115 = .ok (.goto 4, 3) := by decide +kernel
theorem dX9_isQuiet_118 : decode cX9_isQuiet 118 = .ok (.iconst 0, 1) := by decide +kernel
theorem dX9_isQuiet_119 : decode cX9_isQuiet 119 = .ok (.istore_n 3, 1) := by decide +kernel
theorem dX9_isQuiet_120 : decode cX9_isQuiet 120 = .ok (.iinc 5 1, 3) := by decide +kernel
theorem dX9_isQuiet_123 : decode cX9_isQuiet 123 = .ok (.goto (-112), 3) := by decide +kernel
theorem dX9_isQuiet_126 : decode cX9_isQuiet 126 = .ok (.iload_n 3, 1) := by decide +kernel
theorem dX9_isQuiet_127 : decode cX9_isQuiet 127 = .ok (.ireturn, 1) := by decide +kernel
theorem dX9_isDear_0 : decode cX9_isDear 0 = .ok (.iconst 0, 1) := by decide +kernel
theorem dX9_isDear_1 : decode cX9_isDear 1 = .ok (.istore_n 2, 1) := by decide +kernel
theorem dX9_isDear_2 : decode cX9_isDear 2 = .ok (.iconst 0, 1) := by decide +kernel
theorem dX9_isDear_3 : decode cX9_isDear 3 = .ok (.istore_n 3, 1) := by decide +kernel
theorem dX9_isDear_4 : decode cX9_isDear 4 = .ok (.iload_n 3, 1) := by decide +kernel
theorem dX9_isDear_5 : decode cX9_isDear 5 = .ok (.aload_n 0, 1) := by decide +kernel
theorem dX9_isDear_6 : decode cX9_isDear 6 = .ok (.getfield 207, 3) := by decide +kernel
theorem dX9_isDear_9 : decode cX9_isDear 9 = .ok (.if_icmp .ge 43, 3) := by decide +kernel
theorem dX9_isDear_12 : decode cX9_isDear 12 = .ok (.iload_n 2, 1) := by decide +kernel
theorem dX9_isDear_13 : decode cX9_isDear 13 = .ok (.ifCond .ne 27, 3) := by decide +kernel
theorem dX9_isDear_16 : decode cX9_isDear 16 = .ok (.aload_n 0, 1) := by decide +kernel
theorem dX9_isDear_17 : decode cX9_isDear 17 = .ok (.getfield 57, 3) := by decide +kernel
theorem dX9_isDear_20 : decode cX9_isDear 20 = .ok (.iload_n 3, 1) := by decide +kernel
theorem dX9_isDear_21 : decode cX9_isDear 21 = .ok (.iaload, 1) := by decide +kernel
theorem dX9_isDear_22 : decode cX9_isDear 22 = .ok (.iconst 1, 1) := by decide +kernel
theorem dX9_isDear_23 : decode cX9_isDear 23 = .ok (.if_icmp .ne 21, 3) := by decide +kernel
theorem dX9_isDear_26 : decode cX9_isDear 26 = .ok (.aload_n 0, 1) := by decide +kernel
theorem dX9_isDear_27 : decode cX9_isDear 27 = .ok (.iload_n 1, 1) := by decide +kernel
theorem dX9_isDear_28 : decode cX9_isDear 28 = .ok (.invokevirtual 210, 3) := by decide +kernel
theorem dX9_isDear_31 : decode cX9_isDear 31 = .ok (.aload_n 0, 1) := by decide +kernel
theorem dX9_isDear_32 : decode cX9_isDear 32 = .ok (.getfield 60, 3) := by decide +kernel
theorem dX9_isDear_35 : decode cX9_isDear 35 = .ok (.iload_n 3, 1) := by decide +kernel
theorem dX9_isDear_36 : decode cX9_isDear 36 = .ok (.iaload, 1) := by decide +kernel
theorem dX9_isDear_37 : decode cX9_isDear 37 = .ok (.if_icmp .le 7, 3) := by decide +kernel
theorem dX9_isDear_40 : decode cX9_isDear 40 = .ok (.iconst 1, 1) := by decide +kernel
theorem dX9_isDear_41 : decode cX9_isDear 41 = .ok (.goto 4, 3) := by decide +kernel
theorem dX9_isDear_44 : decode cX9_isDear 44 = .ok (.iconst 0, 1) := by decide +kernel
theorem dX9_isDear_45 : decode cX9_isDear 45 = .ok (.istore_n 2, 1) := by decide +kernel
theorem dX9_isDear_46 : decode cX9_isDear 46 = .ok (.iinc 3 1, 3) := by decide +kernel
theorem dX9_isDear_49 : decode cX9_isDear 49 = .ok (.goto (-45), 3) := by decide +kernel
theorem dX9_isDear_52 : decode cX9_isDear 52 = .ok (.iload_n 2, 1) := by decide +kernel
theorem dX9_isDear_53 : decode cX9_isDear 53 = .ok (.ireturn, 1) := by decide +kernel
theorem dX9_mayBegin_0 : decode cX9_mayBegin 0 = .ok (.iload_n 2, 1) := by decide +kernel
theorem dX9_mayBegin_1 : decode cX9_mayBegin 1 = .ok (.aload_n 0, 1) := by decide +kernel
theorem dX9_mayBegin_2 : decode cX9_mayBegin 2 = .ok (.getfield 173, 3) := by decide +kernel
theorem dX9_mayBegin_5 : decode cX9_mayBegin 5 = .ok (.if_icmp .lt 39, 3) := by decide +kernel
theorem dX9_mayBegin_8 : decode cX9_mayBegin 8 = .ok (.iload_n 2, 1) := by decide +kernel
theorem dX9_mayBegin_9 : decode cX9_mayBegin 9 = .ok (.i2l, 1) := by decide +kernel
theorem dX9_mayBegin_10 : decode cX9_mayBegin 10 = .ok (.aload_n 0, 1) := by decide +kernel
theorem dX9_mayBegin_11 : decode cX9_mayBegin 11 = .ok (.getfield 36, 3) := by decide +kernel
theorem dX9_mayBegin_14 : decode cX9_mayBegin 14 = .ok (.iload_n 1, 1) := by decide +kernel
theorem dX9_mayBegin_15 : decode cX9_mayBegin 15 = .ok (.iaload, 1) := by decide +kernel
theorem dX9_mayBegin_16 : decode cX9_mayBegin 16 = .ok (.i2l, 1) := by decide +kernel
theorem dX9_mayBegin_17 : decode cX9_mayBegin 17 = .ok (.aload_n 0, 1) := by decide +kernel
theorem dX9_mayBegin_18 : decode cX9_mayBegin 18 = .ok (.getfield 39, 3) := by decide +kernel
theorem dX9_mayBegin_21 : decode cX9_mayBegin 21 = .ok (.iload_n 1, 1) := by decide +kernel
theorem dX9_mayBegin_22 : decode cX9_mayBegin 22 = .ok (.iaload, 1) := by decide +kernel
theorem dX9_mayBegin_23 : decode cX9_mayBegin 23 = .ok (.i2l, 1) := by decide +kernel
theorem dX9_mayBegin_24 : decode cX9_mayBegin 24 = .ok (.invokestatic 139, 3) := by decide +kernel
theorem dX9_mayBegin_27 : decode cX9_mayBegin 27 = .ok (.ifCond .eq 17, 3) := by decide +kernel
theorem dX9_mayBegin_30 : decode cX9_mayBegin 30 = .ok (.iload_n 2, 1) := by decide +kernel
theorem dX9_mayBegin_31 : decode cX9_mayBegin 31 = .ok (.aload_n 0, 1) := by decide +kernel
theorem dX9_mayBegin_32 : decode cX9_mayBegin 32 = .ok (.getfield 42, 3) := by decide +kernel
theorem dX9_mayBegin_35 : decode cX9_mayBegin 35 = .ok (.iload_n 1, 1) := by decide +kernel
theorem dX9_mayBegin_36 : decode cX9_mayBegin 36 = .ok (.iaload, 1) := by decide +kernel
theorem dX9_mayBegin_37 : decode cX9_mayBegin 37 = .ok (.iadd, 1) := by decide +kernel
theorem dX9_mayBegin_38 : decode cX9_mayBegin 38 = .ok (.sipush 168, 3) := by decide +kernel
theorem dX9_mayBegin_41 : decode cX9_mayBegin 41 = .ok (.if_icmp .le 5, 3) := by decide +kernel
theorem dX9_mayBegin_44 : decode cX9_mayBegin 44 = .ok (.iconst 0, 1) := by decide +kernel
theorem dX9_mayBegin_45 : decode cX9_mayBegin 45 = .ok (.ireturn, 1) := by decide +kernel
theorem dX9_mayBegin_46 : decode cX9_mayBegin 46 = .ok (.iconst 0, 1) := by decide +kernel
theorem dX9_mayBegin_47 : decode cX9_mayBegin 47 = .ok (.istore_n 3, 1) := by decide +kernel
theorem dX9_mayBegin_48 : decode cX9_mayBegin 48 = .ok (.iload_n 3, 1) := by decide +kernel
theorem dX9_mayBegin_49 : decode cX9_mayBegin 49 = .ok (.aload_n 0, 1) := by decide +kernel
theorem dX9_mayBegin_50 : decode cX9_mayBegin 50 = .ok (.getfield 42, 3) := by decide +kernel
theorem dX9_mayBegin_53 : decode cX9_mayBegin 53 = .ok (.iload_n 1, 1) := by decide +kernel
theorem dX9_mayBegin_54 : decode cX9_mayBegin 54 = .ok (.iaload, 1) := by decide +kernel
theorem dX9_mayBegin_55 : decode cX9_mayBegin 55 = .ok (.if_icmp .ge 133, 3) := by decide +kernel
theorem dX9_mayBegin_58 : decode cX9_mayBegin 58 = .ok (.iload_n 2, 1) := by decide +kernel
theorem dX9_mayBegin_59 : decode cX9_mayBegin 59 = .ok (.iload_n 3, 1) := by decide +kernel
theorem dX9_mayBegin_60 : decode cX9_mayBegin 60 = .ok (.iadd, 1) := by decide +kernel
theorem dX9_mayBegin_61 : decode cX9_mayBegin 61 = .ok (.istore 4, 2) := by decide +kernel
theorem dX9_mayBegin_63 : decode cX9_mayBegin 63 = .ok (.aload_n 0, 1) := by decide +kernel
theorem dX9_mayBegin_64 : decode cX9_mayBegin 64 = .ok (.aload_n 0, 1) := by decide +kernel
theorem dX9_mayBegin_65 : decode cX9_mayBegin 65 = .ok (.getfield 33, 3) := by decide +kernel
theorem dX9_mayBegin_68 : decode cX9_mayBegin 68 = .ok (.iload_n 1, 1) := by decide +kernel
theorem dX9_mayBegin_69 : decode cX9_mayBegin 69 = .ok (.iaload, 1) := by decide +kernel
theorem dX9_mayBegin_70 : decode cX9_mayBegin 70 = .ok (.iload 4, 2) := by decide +kernel
theorem dX9_mayBegin_72 : decode cX9_mayBegin 72 = .ok (.invokevirtual 213, 3) := by decide +kernel
theorem dX9_mayBegin_75 : decode cX9_mayBegin 75 = .ok (.ifCond .ne 50, 3) := by decide +kernel
theorem dX9_mayBegin_78 : decode cX9_mayBegin 78 = .ok (.aload_n 0, 1) := by decide +kernel
theorem dX9_mayBegin_79 : decode cX9_mayBegin 79 = .ok (.iload 4, 2) := by decide +kernel
theorem dX9_mayBegin_81 : decode cX9_mayBegin 81 = .ok (.invokevirtual 217, 3) := by decide +kernel
theorem dX9_mayBegin_84 : decode cX9_mayBegin 84 = .ok (.ifCond .ne 41, 3) := by decide +kernel
theorem dX9_mayBegin_87 : decode cX9_mayBegin 87 = .ok (.aload_n 0, 1) := by decide +kernel
theorem dX9_mayBegin_88 : decode cX9_mayBegin 88 = .ok (.aload_n 0, 1) := by decide +kernel
theorem dX9_mayBegin_89 : decode cX9_mayBegin 89 = .ok (.getfield 33, 3) := by decide +kernel
theorem dX9_mayBegin_92 : decode cX9_mayBegin 92 = .ok (.iload_n 1, 1) := by decide +kernel
theorem dX9_mayBegin_93 : decode cX9_mayBegin 93 = .ok (.iaload, 1) := by decide +kernel
theorem dX9_mayBegin_94 : decode cX9_mayBegin 94 = .ok (.iload 4, 2) := by decide +kernel
theorem dX9_mayBegin_96 : decode cX9_mayBegin 96 = .ok (.iload_n 1, 1) := by decide +kernel
theorem dX9_mayBegin_97 : decode cX9_mayBegin 97 = .ok (.invokevirtual 203, 3) := by decide +kernel
theorem dX9_mayBegin_100 : decode cX9_mayBegin 100 = .ok (.aload_n 0, 1) := by decide +kernel
theorem dX9_mayBegin_101 : decode cX9_mayBegin 101 = .ok (.getfield 45, 3) := by decide +kernel
theorem dX9_mayBegin_104 : decode cX9_mayBegin 104 = .ok (.iconst 4, 1) := by decide +kernel
theorem dX9_mayBegin_105 : decode cX9_mayBegin 105 = .ok (.iload_n 1, 1) := by decide +kernel
theorem dX9_mayBegin_106 : decode cX9_mayBegin 106 = .ok (.imul, 1) := by decide +kernel
theorem dX9_mayBegin_107 : decode cX9_mayBegin 107 = .ok (.iload_n 3, 1) := by decide +kernel
theorem dX9_mayBegin_108 : decode cX9_mayBegin 108 = .ok (.iadd, 1) := by decide +kernel
theorem dX9_mayBegin_109 : decode cX9_mayBegin 109 = .ok (.iaload, 1) := by decide +kernel
theorem dX9_mayBegin_110 : decode cX9_mayBegin 110 = .ok (.iadd, 1) := by decide +kernel
theorem dX9_mayBegin_111 : decode cX9_mayBegin 111 = .ok (.aload_n 0, 1) := by decide +kernel
theorem dX9_mayBegin_112 : decode cX9_mayBegin 112 = .ok (.getfield 23, 3) := by decide +kernel
theorem dX9_mayBegin_115 : decode cX9_mayBegin 115 = .ok (.aload_n 0, 1) := by decide +kernel
theorem dX9_mayBegin_116 : decode cX9_mayBegin 116 = .ok (.getfield 33, 3) := by decide +kernel
theorem dX9_mayBegin_119 : decode cX9_mayBegin 119 = .ok (.iload_n 1, 1) := by decide +kernel
theorem dX9_mayBegin_120 : decode cX9_mayBegin 120 = .ok (.iaload, 1) := by decide +kernel
theorem dX9_mayBegin_121 : decode cX9_mayBegin 121 = .ok (.iaload, 1) := by decide +kernel
theorem dX9_mayBegin_122 : decode cX9_mayBegin 122 = .ok (.if_icmp .le 5, 3) := by decide +kernel
theorem dX9_mayBegin_125 : decode cX9_mayBegin 125 = .ok (.iconst 0, 1) := by decide +kernel
theorem dX9_mayBegin_126 : decode cX9_mayBegin 126 = .ok (.ireturn, 1) := by decide +kernel
theorem dX9_mayBegin_127 : decode cX9_mayBegin 127 = .ok (.aload_n 0, 1) := by decide +kernel
theorem dX9_mayBegin_128 : decode cX9_mayBegin 128 = .ok (.getfield 45, 3) := by decide +kernel
theorem dX9_mayBegin_131 : decode cX9_mayBegin 131 = .ok (.iconst 4, 1) := by decide +kernel
theorem dX9_mayBegin_132 : decode cX9_mayBegin 132 = .ok (.iload_n 1, 1) := by decide +kernel
theorem dX9_mayBegin_133 : decode cX9_mayBegin 133 = .ok (.imul, 1) := by decide +kernel
theorem dX9_mayBegin_134 : decode cX9_mayBegin 134 = .ok (.iload_n 3, 1) := by decide +kernel
theorem dX9_mayBegin_135 : decode cX9_mayBegin 135 = .ok (.iadd, 1) := by decide +kernel
theorem dX9_mayBegin_136 : decode cX9_mayBegin 136 = .ok (.iaload, 1) := by decide +kernel
theorem dX9_mayBegin_137 : decode cX9_mayBegin 137 = .ok (.istore 5, 2) := by decide +kernel
theorem dX9_mayBegin_139 : decode cX9_mayBegin 139 = .ok (.iconst 0, 1) := by decide +kernel
theorem dX9_mayBegin_140 : decode cX9_mayBegin 140 = .ok (.istore 6, 2) := by decide +kernel
theorem dX9_mayBegin_142 : decode cX9_mayBegin 142 = .ok (.iload 6, 2) := by decide +kernel
theorem dX9_mayBegin_144 : decode cX9_mayBegin 144 = .ok (.aload_n 0, 1) := by decide +kernel
theorem dX9_mayBegin_145 : decode cX9_mayBegin 145 = .ok (.getfield 145, 3) := by decide +kernel
theorem dX9_mayBegin_148 : decode cX9_mayBegin 148 = .ok (.if_icmp .ge 23, 3) := by decide +kernel
theorem dX9_mayBegin_151 : decode cX9_mayBegin 151 = .ok (.iload 5, 2) := by decide +kernel
theorem dX9_mayBegin_153 : decode cX9_mayBegin 153 = .ok (.aload_n 0, 1) := by decide +kernel
theorem dX9_mayBegin_154 : decode cX9_mayBegin 154 = .ok (.iload 6, 2) := by decide +kernel
theorem dX9_mayBegin_156 : decode cX9_mayBegin 156 = .ok (.iload 4, 2) := by decide +kernel
theorem dX9_mayBegin_158 : decode cX9_mayBegin 158 = .ok (.iload_n 1, 1) := by decide +kernel
theorem dX9_mayBegin_159 : decode cX9_mayBegin 159 = .ok (.invokevirtual 203, 3) := by decide +kernel
theorem dX9_mayBegin_162 : decode cX9_mayBegin 162 = .ok (.iadd, 1) := by decide +kernel
theorem dX9_mayBegin_163 : decode cX9_mayBegin 163 = .ok (.istore 5, 2) := by decide +kernel
theorem dX9_mayBegin_165 : decode cX9_mayBegin 165 = .ok (.iinc 6 1, 3) := by decide +kernel
theorem dX9_mayBegin_168 : decode cX9_mayBegin 168 = .ok (.goto (-26), 3) := by decide +kernel
theorem dX9_mayBegin_171 : decode cX9_mayBegin 171 = .ok (.iload 5, 2) := by decide +kernel
theorem dX9_mayBegin_173 : decode cX9_mayBegin 173 = .ok (.aload_n 0, 1) := by decide +kernel
theorem dX9_mayBegin_174 : decode cX9_mayBegin 174 = .ok (.getfield 30, 3) := by decide +kernel
theorem dX9_mayBegin_177 : decode cX9_mayBegin 177 = .ok (.if_icmp .le 5, 3) := by decide +kernel
theorem dX9_mayBegin_180 : decode cX9_mayBegin 180 = .ok (.iconst 0, 1) := by decide +kernel
theorem dX9_mayBegin_181 : decode cX9_mayBegin 181 = .ok (.ireturn, 1) := by decide +kernel
theorem dX9_mayBegin_182 : decode cX9_mayBegin 182 = .ok (.iinc 3 1, 3) := by decide +kernel
theorem dX9_mayBegin_185 : decode cX9_mayBegin 185 = .ok (.goto (-137), 3) := by decide +kernel
theorem dX9_mayBegin_188 : decode cX9_mayBegin 188 = .ok (.iconst 1, 1) := by decide +kernel
theorem dX9_mayBegin_189 : decode cX9_mayBegin 189 = .ok (.istore_n 3, 1) := by decide +kernel
theorem dX9_mayBegin_190 : decode cX9_mayBegin 190 = .ok (.iconst 0, 1) := by decide +kernel
theorem dX9_mayBegin_191 : decode cX9_mayBegin 191 = .ok (.istore 4, 2) := by decide +kernel
theorem dX9_mayBegin_193 : decode cX9_mayBegin 193 = .ok (.iload 4, 2) := by decide +kernel
theorem dX9_mayBegin_195 : decode cX9_mayBegin 195 = .ok (.aload_n 0, 1) := by decide +kernel
theorem dX9_mayBegin_196 : decode cX9_mayBegin 196 = .ok (.getfield 207, 3) := by decide +kernel
theorem dX9_mayBegin_199 : decode cX9_mayBegin 199 = .ok (.if_icmp .ge 175, 3) := by decide +kernel
theorem dX9_mayBegin_202 : decode cX9_mayBegin 202 = .ok (.aload_n 0, 1) := by decide +kernel
theorem dX9_mayBegin_203 : decode cX9_mayBegin 203 = .ok (.getfield 57, 3) := by decide +kernel
theorem dX9_mayBegin_206 : decode cX9_mayBegin 206 = .ok (.iload 4, 2) := by decide +kernel
theorem dX9_mayBegin_208 : decode cX9_mayBegin 208 = .ok (.iaload, 1) := by decide +kernel
theorem dX9_mayBegin_209 : decode cX9_mayBegin 209 = .ok (.iconst 2, 1) := by decide +kernel
theorem dX9_mayBegin_210 : decode cX9_mayBegin 210 = .ok (.if_icmp .eq 6, 3) := by decide +kernel
theorem dX9_mayBegin_213 : decode cX9_mayBegin 213 = .ok (.goto 155, 3) := by decide +kernel
theorem dX9_mayBegin_216 : decode cX9_mayBegin 216 = .ok (.aload_n 0, 1) := by decide +kernel
theorem dX9_mayBegin_217 : decode cX9_mayBegin 217 = .ok (.getfield 60, 3) := by decide +kernel
theorem dX9_mayBegin_220 : decode cX9_mayBegin 220 = .ok (.iload 4, 2) := by decide +kernel
theorem dX9_mayBegin_222 : decode cX9_mayBegin 222 = .ok (.iaload, 1) := by decide +kernel
theorem dX9_mayBegin_223 : decode cX9_mayBegin 223 = .ok (.iload_n 1, 1) := by decide +kernel
theorem dX9_mayBegin_224 : decode cX9_mayBegin 224 = .ok (.if_icmp .ne 65, 3) := by decide +kernel
theorem dX9_mayBegin_227 : decode cX9_mayBegin 227 = .ok (.aload_n 0, 1) := by decide +kernel
theorem dX9_mayBegin_228 : decode cX9_mayBegin 228 = .ok (.aload_n 0, 1) := by decide +kernel
theorem dX9_mayBegin_229 : decode cX9_mayBegin 229 = .ok (.getfield 63, 3) := by decide +kernel
theorem dX9_mayBegin_232 : decode cX9_mayBegin 232 = .ok (.iload 4, 2) := by decide +kernel
theorem dX9_mayBegin_234 : decode cX9_mayBegin 234 = .ok (.iaload, 1) := by decide +kernel
theorem dX9_mayBegin_235 : decode cX9_mayBegin 235 = .ok (.invokevirtual 193, 3) := by decide +kernel
theorem dX9_mayBegin_238 : decode cX9_mayBegin 238 = .ok (.ifCond .eq 51, 3) := by decide +kernel
theorem dX9_mayBegin_241 : decode cX9_mayBegin 241 = .ok (.aload_n 0, 1) := by decide +kernel
theorem dX9_mayBegin_242 : decode cX9_mayBegin 242 = .ok (.getfield 48, 3) := by decide +kernel
theorem dX9_mayBegin_245 : decode cX9_mayBegin 245 = .ok (.aload_n 0, 1) := by decide +kernel
theorem dX9_mayBegin_246 : decode cX9_mayBegin 246 = .ok (.getfield 63, 3) := by decide +kernel
theorem dX9_mayBegin_249 : decode cX9_mayBegin 249 = .ok (.iload 4, 2) := by decide +kernel
theorem dX9_mayBegin_251 : decode cX9_mayBegin 251 = .ok (.iaload, 1) := by decide +kernel
theorem dX9_mayBegin_252 : decode cX9_mayBegin 252 = .ok (.iaload, 1) := by decide +kernel
theorem dX9_mayBegin_253 : decode cX9_mayBegin 253 = .ok (.ifCond .eq 36, 3) := by decide +kernel
theorem dX9_mayBegin_256 : decode cX9_mayBegin 256 = .ok (.iload_n 3, 1) := by decide +kernel
theorem dX9_mayBegin_257 : decode cX9_mayBegin 257 = .ok (.ifCond .eq 30, 3) := by decide +kernel
theorem dX9_mayBegin_260 : decode cX9_mayBegin 260 = .ok (.aload_n 0, 1) := by decide +kernel
theorem dX9_mayBegin_261 : decode cX9_mayBegin 261 = .ok (.getfield 51, 3) := by decide +kernel
theorem dX9_mayBegin_264 : decode cX9_mayBegin 264 = .ok (.aload_n 0, 1) := by decide +kernel
theorem dX9_mayBegin_265 : decode cX9_mayBegin 265 = .ok (.getfield 63, 3) := by decide +kernel
theorem dX9_mayBegin_268 : decode cX9_mayBegin 268 = .ok (.iload 4, 2) := by decide +kernel
theorem dX9_mayBegin_270 : decode cX9_mayBegin 270 = .ok (.iaload, 1) := by decide +kernel
theorem dX9_mayBegin_271 : decode cX9_mayBegin 271 = .ok (.iaload, 1) := by decide +kernel
theorem dX9_mayBegin_272 : decode cX9_mayBegin 272 = .ok (.iload_n 2, 1) := by decide +kernel
theorem dX9_mayBegin_273 : decode cX9_mayBegin 273 = .ok (.aload_n 0, 1) := by decide +kernel
theorem dX9_mayBegin_274 : decode cX9_mayBegin 274 = .ok (.getfield 42, 3) := by decide +kernel
theorem dX9_mayBegin_277 : decode cX9_mayBegin 277 = .ok (.iload_n 1, 1) := by decide +kernel
theorem dX9_mayBegin_278 : decode cX9_mayBegin 278 = .ok (.iaload, 1) := by decide +kernel
theorem dX9_mayBegin_279 : decode cX9_mayBegin 279 = .ok (.iadd, 1) := by decide +kernel
theorem dX9_mayBegin_280 : decode cX9_mayBegin 280 = .ok (.if_icmp .lt 7, 3) := by decide +kernel
theorem dX9_mayBegin_283 : decode cX9_mayBegin 283 = .ok (.iconst 1, 1) := by decide +kernel
theorem dX9_mayBegin_284 : decode cX9_mayBegin 284 = .ok (.goto 4, 3) := by decide +kernel
