theorem dX9_isWord_48 : decode cX9_isWord 48 = .ok (.lload 7, 2) := by decide +kernel
theorem dX9_isWord_50 : decode cX9_isWord 50 = .ok (.goto 17, 3) := by decide +kernel
theorem dX9_isWord_53 : decode cX9_isWord 53 = .ok (.lload 7, 2) := by decide +kernel
theorem dX9_isWord_55 : decode cX9_isWord 55 = .ok (.ldc2_w 268, 3) := by decide +kernel
theorem dX9_isWord_58 : decode cX9_isWord 58 = .ok (.lmul, 1) := by decide +kernel
theorem dX9_isWord_59 : decode cX9_isWord 59 = .ok (.iload 4, 2) := by decide +kernel
theorem dX9_isWord_61 : decode cX9_isWord 61 = .ok (.i2l, 1) := by decide +kernel
theorem dX9_isWord_62 : decode cX9_isWord 62 = .ok (.ladd, 1) := by decide +kernel
theorem dX9_isWord_63 : decode cX9_isWord 63 = .ok (.ldc2_w 270, 3) := by decide +kernel
theorem dX9_isWord_66 : decode cX9_isWord 66 = .ok (.lsub, 1) := by decide +kernel
theorem dX9_isWord_67 : decode cX9_isWord 67 = .ok (.lstore 7, 2) := by decide +kernel
theorem dX9_isWord_69 : decode cX9_isWord 69 = .ok (.iload 5, 2) := by decide +kernel
theorem dX9_isWord_71 : decode cX9_isWord 71 = .ok (.ifCond .ne 8, 3) := by decide +kernel
theorem dX9_isWord_74 : decode cX9_isWord 74 = .ok (.lload 7, 2) := by decide +kernel
theorem dX9_isWord_76 : decode cX9_isWord 76 = .ok (.goto 17, 3) := by decide +kernel
theorem dX9_isWord_79 : decode cX9_isWord 79 = .ok (.lload 7, 2) := by decide +kernel
theorem dX9_isWord_81 : decode cX9_isWord 81 = .ok (.ldc2_w 268, 3) := by decide +kernel
theorem dX9_isWord_84 : decode cX9_isWord 84 = .ok (.lmul, 1) := by decide +kernel
theorem dX9_isWord_85 : decode cX9_isWord 85 = .ok (.iload 5, 2) := by decide +kernel
theorem dX9_isWord_87 : decode cX9_isWord 87 = .ok (.i2l, 1) := by decide +kernel
theorem dX9_isWord_88 : decode cX9_isWord 88 = .ok (.ladd, 1) := by decide +kernel
theorem dX9_isWord_89 : decode cX9_isWord 89 = .ok (.ldc2_w 270, 3) := by decide +kernel
theorem dX9_isWord_92 : decode cX9_isWord 92 = .ok (.lsub, 1) := by decide +kernel
theorem dX9_isWord_93 : decode cX9_isWord 93 = .ok (.lstore 7, 2) := by decide +kernel
theorem dX9_isWord_95 : decode cX9_isWord 95 = .ok (.iload 6, 2) := by decide +kernel
theorem dX9_isWord_97 : decode cX9_isWord 97 = .ok (.ifCond .ne 8, 3) := by decide +kernel
theorem dX9_isWord_100 : decode cX9_isWord 100 = .ok (.lload 7, 2) := by decide +kernel
theorem dX9_isWord_102 : decode cX9_isWord 102 = .ok (.goto 17, 3) := by decide +kernel
theorem dX9_isWord_105 : decode cX9_isWord 105 = .ok (.lload 7, 2) := by decide +kernel
theorem dX9_isWord_107 : decode cX9_isWord 107 = .ok (.ldc2_w 268, 3) := by decide +kernel
theorem dX9_isWord_110 : decode cX9_isWord 110 = .ok (.lmul, 1) := by decide +kernel
theorem dX9_isWord_111 : decode cX9_isWord 111 = .ok (.iload 6, 2) := by decide +kernel
theorem dX9_isWord_113 : decode cX9_isWord 113 = .ok (.i2l, 1) := by decide +kernel
theorem dX9_isWord_114 : decode cX9_isWord 114 = .ok (.ladd, 1) := by decide +kernel
theorem dX9_isWord_115 : decode cX9_isWord 115 = .ok (.ldc2_w 270, 3) := by decide +kernel
theorem dX9_isWord_118 : decode cX9_isWord 118 = .ok (.lsub, 1) := by decide +kernel
theorem dX9_isWord_119 : decode cX9_isWord 119 = .ok (.lstore 7, 2) := by decide +kernel
theorem dX9_isWord_121 : decode cX9_isWord 121 = .ok (.aload_n 0, 1) := by decide +kernel
theorem dX9_isWord_122 : decode cX9_isWord 122 = .ok (.getfield 265, 3) := by decide +kernel
theorem dX9_isWord_125 : decode cX9_isWord 125 = .ok (.iconst 1, 1) := by decide +kernel
theorem dX9_isWord_126 : decode cX9_isWord 126 = .ok (.if_icmp .ne 17, 3) := by decide +kernel
theorem dX9_isWord_129 : decode cX9_isWord 129 = .ok (.aload_n 0, 1) := by decide +kernel
theorem dX9_isWord_130 : decode cX9_isWord 130 = .ok (.getfield 255, 3) := by decide +kernel
theorem dX9_isWord_133 : decode cX9_isWord 133 = .ok (.lload 7, 2) := by decide +kernel
theorem dX9_isWord_135 : decode cX9_isWord 135 = .ok (.lcmp, 1) := by decide +kernel
theorem dX9_isWord_136 : decode cX9_isWord 136 = .ok (.ifCond .ne 7, 3) := by decide +kernel
theorem dX9_isWord_139 : decode cX9_isWord 139 = .ok (.iconst 1, 1) := by decide +kernel
theorem dX9_isWord_140 : decode cX9_isWord 140 = .ok (.goto 4, 3) := by decide +kernel
theorem dX9_isWord_143 : decode cX9_isWord 143 = .ok (.iconst 0, 1) := by decide +kernel
theorem dX9_isWord_144 : decode cX9_isWord 144 = .ok (.ireturn, 1) := by decide +kernel
theorem dX9_must_0 : decode cX9_must 0 = .ok (.aload_n 0, 1) := by decide +kernel
theorem dX9_must_1 : decode cX9_must 1 = .ok (.getfield 274, 3) := by decide +kernel
theorem dX9_must_4 : decode cX9_must 4 = .ok (.ifCond .ne 20, 3) := by decide +kernel
theorem dX9_must_7 : decode cX9_must 7 = .ok (.iload_n 1, 1) := by decide +kernel
theorem dX9_must_8 : decode cX9_must 8 = .ok (.ifCond .ne 16, 3) := by decide +kernel
theorem dX9_must_11 : decode cX9_must 11 = .ok (.aload_n 0, 1) := by decide +kernel
theorem dX9_must_12 : decode cX9_must 12 = .ok (.iconst 1, 1) := by decide +kernel
theorem dX9_must_13 : decode cX9_must 13 = .ok (.putfield 274, 3) := by decide +kernel
theorem dX9_must_16 : decode cX9_must 16 = .ok (.aload_n 0, 1) := by decide +kernel
theorem dX9_must_17 : decode cX9_must 17 = .ok (.aload_n 0, 1) := by decide +kernel
theorem dX9_must_18 : decode cX9_must 18 = .ok (.getfield 252, 3) := by decide +kernel
theorem dX9_must_21 : decode cX9_must 21 = .ok (.putfield 94, 3) := by decide +kernel
theorem dX9_must_24 : decode cX9_must 24 = .ok (.aload_n 0, 1) := by decide +kernel
theorem dX9_must_25 : decode cX9_must 25 = .ok (.getfield 274, 3) := by decide +kernel
theorem dX9_must_28 : decode cX9_must 28 = .ok (.ifCond .ne 7, 3) := by decide +kernel
theorem dX9_must_31 : decode cX9_must 31 = .ok (.aload_n 0, 1) := by decide +kernel
theorem dX9_must_32 : decode cX9_must 32 = .ok (.invokevirtual 277, 3) := by decide +kernel
theorem dX9_must_35 : decode cX9_must 35 = .ok (.return_, 1) := by decide +kernel
theorem dX9_number_0 : decode cX9_number 0 = .ok (.aload_n 0, 1) := by decide +kernel
theorem dX9_number_1 : decode cX9_number 1 = .ok (.getfield 255, 3) := by decide +kernel
theorem dX9_number_4 : decode cX9_number 4 = .ok (.l2i, 1) := by decide +kernel
theorem dX9_number_5 : decode cX9_number 5 = .ok (.istore_n 3, 1) := by decide +kernel
theorem dX9_number_6 : decode cX9_number 6 = .ok (.aload_n 0, 1) := by decide +kernel
theorem dX9_number_7 : decode cX9_number 7 = .ok (.aload_n 0, 1) := by decide +kernel
theorem dX9_number_8 : decode cX9_number 8 = .ok (.getfield 265, 3) := by decide +kernel
theorem dX9_number_11 : decode cX9_number 11 = .ok (.iconst 2, 1) := by decide +kernel
theorem dX9_number_12 : decode cX9_number 12 = .ok (.if_icmp .ne 16, 3) := by decide +kernel
theorem dX9_number_15 : decode cX9_number 15 = .ok (.aload_n 0, 1) := by decide +kernel
theorem dX9_number_16 : decode cX9_number 16 = .ok (.getfield 255, 3) := by decide +kernel
theorem dX9_number_19 : decode cX9_number 19 = .ok (.lload_n 1, 1) := by decide +kernel
theorem dX9_number_20 : decode cX9_number 20 = .ok (.lcmp, 1) := by decide +kernel
theorem dX9_number_21 : decode cX9_number 21 = .ok (.ifCond .gt 7, 3) := by decide +kernel
theorem dX9_number_24 : decode cX9_number 24 = .ok (.iconst 1, 1) := by decide +kernel
theorem dX9_number_25 : decode cX9_number 25 = .ok (.goto 4, 3) := by decide +kernel
theorem dX9_number_28 : decode cX9_number 28 = .ok (.iconst 0, 1) := by decide +kernel
theorem dX9_number_29 : decode cX9_number 29 = .ok (.invokevirtual 280, 3) := by decide +kernel
theorem dX9_number_32 : decode cX9_number 32 = .ok (.iload_n 3, 1) := by decide +kernel
theorem dX9_number_33 : decode cX9_number 33 = .ok (.ireturn, 1) := by decide +kernel
theorem dX9_readRule_0 : decode cX9_readRule 0 = .ok (.aload_n 0, 1) := by decide +kernel
theorem dX9_readRule_1 : decode cX9_readRule 1 = .ok (.bipush 113, 2) := by decide +kernel
theorem dX9_readRule_3 : decode cX9_readRule 3 = .ok (.bipush 117, 2) := by decide +kernel
theorem dX9_readRule_5 : decode cX9_readRule 5 = .ok (.bipush 105, 2) := by decide +kernel
theorem dX9_readRule_7 : decode cX9_readRule 7 = .ok (.bipush 101, 2) := by decide +kernel
theorem dX9_readRule_9 : decode cX9_readRule 9 = .ok (.bipush 116, 2) := by decide +kernel
theorem dX9_readRule_11 : decode cX9_readRule 11 = .ok (.iconst 0, 1) := by decide +kernel
theorem dX9_readRule_12 : decode cX9_readRule 12 = .ok (.invokevirtual 284, 3) := by decide +kernel
theorem dX9_readRule_15 : decode cX9_readRule 15 = .ok (.ifCond .eq 7, 3) := by decide +kernel
theorem dX9_readRule_18 : decode cX9_readRule 18 = .ok (.iconst 0, 1) := by decide +kernel
theorem dX9_readRule_19 : decode cX9_readRule 19 = .ok (.goto 45, 3) := by decide +kernel
theorem dX9_readRule_22 : decode cX9_readRule 22 = .ok (.aload_n 0, 1) := by decide +kernel
theorem dX9_readRule_23 : decode cX9_readRule 23 = .ok (.bipush 100, 2) := by decide +kernel
theorem dX9_readRule_25 : decode cX9_readRule 25 = .ok (.bipush 101, 2) := by decide +kernel
theorem dX9_readRule_27 : decode cX9_readRule 27 = .ok (.bipush 97, 2) := by decide +kernel
theorem dX9_readRule_29 : decode cX9_readRule 29 = .ok (.bipush 114, 2) := by decide +kernel
theorem dX9_readRule_31 : decode cX9_readRule 31 = .ok (.iconst 0, 1) := by decide +kernel
theorem dX9_readRule_32 : decode cX9_readRule 32 = .ok (.iconst 0, 1) := by decide +kernel
theorem dX9_readRule_33 : decode cX9_readRule 33 = .ok (.invokevirtual 284, 3) := by decide +kernel
theorem dX9_readRule_36 : decode cX9_readRule 36 = .ok (.ifCond .eq 7, 3) := by decide +kernel
theorem dX9_readRule_39 : decode cX9_readRule 39 = .ok (.iconst 1, 1) := by decide +kernel
theorem dX9_readRule_40 : decode cX9_readRule 40 = .ok (.goto 24, 3) := by decide +kernel
theorem dX9_readRule_43 : decode cX9_readRule 43 = .ok (.aload_n 0, 1) := by decide +kernel
theorem dX9_readRule_44 : decode cX9_readRule 44 = .ok (.bipush 106, 2) := by decide +kernel
theorem dX9_readRule_46 : decode cX9_readRule 46 = .ok (.bipush 111, 2) := by decide +kernel
theorem dX9_readRule_48 : decode cX9_readRule 48 = .ok (.bipush 98, 2) := by decide +kernel
theorem dX9_readRule_50 : decode cX9_readRule 50 = .ok (.iconst 0, 1) := by decide +kernel
theorem dX9_readRule_51 : decode cX9_readRule 51 = .ok (.iconst 0, 1) := by decide +kernel
theorem dX9_readRule_52 : decode cX9_readRule 52 = .ok (.iconst 0, 1) := by decide +kernel
theorem dX9_readRule_53 : decode cX9_readRule 53 = .ok (.invokevirtual 284, 3) := by decide +kernel
theorem dX9_readRule_56 : decode cX9_readRule 56 = .ok (.ifCond .eq 7, 3) := by decide +kernel
theorem dX9_readRule_59 : decode cX9_readRule 59 = .ok (.iconst 2, 1) := by decide +kernel
theorem dX9_readRule_60 : decode cX9_readRule 60 = .ok (.goto 4, 3) := by decide +kernel
theorem dX9_readRule_63 : decode cX9_readRule 63 = .ok (.iconst (-1), 1) := by decide +kernel
theorem dX9_readRule_64 : decode cX9_readRule 64 = .ok (.istore_n 1, 1) := by decide +kernel
theorem dX9_readRule_65 : decode cX9_readRule 65 = .ok (.aload_n 0, 1) := by decide +kernel
theorem dX9_readRule_66 : decode cX9_readRule 66 = .ok (.iload_n 1, 1) := by decide +kernel
theorem dX9_readRule_67 : decode cX9_readRule 67 = .ok (.ifCond .lt 16, 3) := by decide +kernel
theorem dX9_readRule_70 : decode cX9_readRule 70 = .ok (.aload_n 0, 1) := by decide +kernel
theorem dX9_readRule_71 : decode cX9_readRule 71 = .ok (.getfield 288, 3) := by decide +kernel
theorem dX9_readRule_74 : decode cX9_readRule 74 = .ok (.bipush 20, 2) := by decide +kernel
theorem dX9_readRule_76 : decode cX9_readRule 76 = .ok (.if_icmp .ge 7, 3) := by decide +kernel
theorem dX9_readRule_79 : decode cX9_readRule 79 = .ok (.iconst 1, 1) := by decide +kernel
theorem dX9_readRule_80 : decode cX9_readRule 80 = .ok (.goto 4, 3) := by decide +kernel
theorem dX9_readRule_83 : decode cX9_readRule 83 = .ok (.iconst 0, 1) := by decide +kernel
theorem dX9_readRule_84 : decode cX9_readRule 84 = .ok (.invokevirtual 280, 3) := by decide +kernel
theorem dX9_readRule_87 : decode cX9_readRule 87 = .ok (.aload_n 0, 1) := by decide +kernel
theorem dX9_readRule_88 : decode cX9_readRule 88 = .ok (.iload_n 1, 1) := by decide +kernel
theorem dX9_readRule_89 : decode cX9_readRule 89 = .ok (.ifCond .ne 9, 3) := by decide +kernel
theorem dX9_readRule_92 : decode cX9_readRule 92 = .ok (.ldc2_w 291, 3) := by decide +kernel
theorem dX9_readRule_95 : decode cX9_readRule 95 = .ok (.goto 17, 3) := by decide +kernel
theorem dX9_readRule_98 : decode cX9_readRule 98 = .ok (.iload_n 1, 1) := by decide +kernel
theorem dX9_readRule_99 : decode cX9_readRule 99 = .ok (.iconst 1, 1) := by decide +kernel
theorem dX9_readRule_100 : decode cX9_readRule 100 = .ok (.if_icmp .ne 9, 3) := by decide +kernel
theorem dX9_readRule_103 : decode cX9_readRule 103 = .ok (.ldc2_w 157, 3) := by decide +kernel
theorem dX9_readRule_106 : decode cX9_readRule 106 = .ok (.goto 6, 3) := by decide +kernel
theorem dX9_readRule_109 : decode cX9_readRule 109 = .ok (.ldc2_w 293, 3) := by decide +kernel
theorem dX9_readRule_112 : decode cX9_readRule 112 = .ok (.invokevirtual 295, 3) := by decide +kernel
theorem dX9_readRule_115 : decode cX9_readRule 115 = .ok (.istore_n 2, 1) := by decide +kernel
theorem dX9_readRule_116 : decode cX9_readRule 116 = .ok (.iconst 0, 1) := by decide +kernel
theorem dX9_readRule_117 : decode cX9_readRule 117 = .ok (.istore_n 3, 1) := by decide +kernel
theorem dX9_readRule_118 : decode cX9_readRule 118 = .ok (.iconst 0, 1) := by decide +kernel
theorem dX9_readRule_119 : decode cX9_readRule 119 = .ok (.istore 4, 2) := by decide +kernel
theorem dX9_readRule_121 : decode cX9_readRule 121 = .ok (.iload_n 1, 1) := by decide +kernel
theorem dX9_readRule_122 : decode cX9_readRule 122 = .ok (.ifCond .ne 57, 3) := by decide +kernel
theorem dX9_readRule_125 : decode cX9_readRule 125 = .ok (.aload_n 0, 1) := by decide +kernel
theorem dX9_readRule_126 : decode cX9_readRule 126 = .ok (.aload_n 0, 1) := by decide +kernel
theorem dX9_readRule_127 : decode cX9_readRule 127 = .ok (.bipush 102, 2) := by decide +kernel
theorem dX9_readRule_129 : decode cX9_readRule 129 = .ok (.bipush 114, 2) := by decide +kernel
theorem dX9_readRule_131 : decode cX9_readRule 131 = .ok (.bipush 111, 2) := by decide +kernel
theorem dX9_readRule_133 : decode cX9_readRule 133 = .ok (.bipush 109, 2) := by decide +kernel
theorem dX9_readRule_135 : decode cX9_readRule 135 = .ok (.iconst 0, 1) := by decide +kernel
theorem dX9_readRule_136 : decode cX9_readRule 136 = .ok (.iconst 0, 1) := by decide +kernel
theorem dX9_readRule_137 : decode cX9_readRule 137 = .ok (.invokevirtual 284, 3) := by decide +kernel
theorem dX9_readRule_140 : decode cX9_readRule 140 = .ok (.invokevirtual 280, 3) := by decide +kernel
theorem dX9_readRule_143 : decode cX9_readRule 143 = .ok (.aload_n 0, 1) := by decide +kernel
theorem dX9_readRule_144 : decode cX9_readRule 144 = .ok (.ldc2_w 182, 3) := by decide +kernel
theorem dX9_readRule_147 : decode cX9_readRule 147 = .ok (.invokevirtual 295, 3) := by decide +kernel
theorem dX9_readRule_150 : decode cX9_readRule 150 = .ok (.istore_n 3, 1) := by decide +kernel
theorem dX9_readRule_151 : decode cX9_readRule 151 = .ok (.aload_n 0, 1) := by decide +kernel
theorem dX9_readRule_152 : decode cX9_readRule 152 = .ok (.aload_n 0, 1) := by decide +kernel
theorem dX9_readRule_153 : decode cX9_readRule 153 = .ok (.bipush 116, 2) := by decide +kernel
theorem dX9_readRule_155 : decode cX9_readRule 155 = .ok (.bipush 111, 2) := by decide +kernel
theorem dX9_readRule_157 : decode cX9_readRule 157 = .ok (.iconst 0, 1) := by decide +kernel
theorem dX9_readRule_158 : decode cX9_readRule 158 = .ok (.iconst 0, 1) := by decide +kernel
theorem dX9_readRule_159 : decode cX9_readRule 159 = .ok (.iconst 0, 1) := by decide +kernel
theorem dX9_readRule_160 : decode cX9_readRule 160 = .ok (.iconst 0, 1) := by decide +kernel
theorem dX9_readRule_161 : decode cX9_readRule 161 = .ok (.invokevirtual 284, 3) := by decide +kernel
theorem dX9_readRule_164 : decode cX9_readRule 164 = .ok (.invokevirtual 280, 3) := by decide +kernel
theorem dX9_readRule_167 : decode cX9_readRule 167 = .ok (.aload_n 0, 1) := by decide +kernel
theorem dX9_readRule_168 : decode cX9_readRule 168 = .ok (.ldc2_w 182, 3) := by decide +kernel
theorem dX9_readRule_171 : decode cX9_readRule 171 = .ok (.invokevirtual 295, 3) := by decide +kernel
theorem dX9_readRule_174 : decode cX9_readRule 174 = .ok (.istore 4, 2) := by decide +kernel
theorem dX9_readRule_176 : decode cX9_readRule 176 = .ok (.goto 72, 3) := by decide +kernel
theorem dX9_readRule_179 : decode cX9_readRule 179 = .ok (.iload_n 1, 1) := by decide +kernel
theorem dX9_readRule_180 : decode cX9_readRule 180 = .ok (.iconst 2, 1) := by decide +kernel
theorem dX9_readRule_181 : decode cX9_readRule 181 = .ok (.if_icmp .ne 67, 3) := by decide +kernel
theorem dX9_readRule_184 : decode cX9_readRule 184 = .ok (.aload_n 0, 1) := by decide +kernel
theorem dX9_readRule_185 : decode cX9_readRule 185 = .ok (.aload_n 0, 1) := by decide +kernel
theorem dX9_readRule_186 : decode cX9_readRule 186 = .ok (.bipush 98, 2) := by decide +kernel
theorem dX9_readRule_188 : decode cX9_readRule 188 = .ok (.bipush 101, 2) := by decide +kernel
theorem dX9_readRule_190 : decode cX9_readRule 190 = .ok (.bipush 102, 2) := by decide +kernel
theorem dX9_readRule_192 : decode cX9_readRule 192 = .ok (.bipush 111, 2) := by decide +kernel
theorem dX9_readRule_194 : decode cX9_readRule 194 = .ok (.bipush 114, 2) := by decide +kernel
theorem dX9_readRule_196 : decode cX9_readRule 196 = .ok (.bipush 101, 2) := by decide +kernel
theorem dX9_readRule_198 : decode cX9_readRule 198 = .ok (.invokevirtual 284, 3) := by decide +kernel
theorem dX9_readRule_201 : decode cX9_readRule 201 = .ok (.invokevirtual 280, 3) := by decide +kernel
theorem dX9_readRule_204 : decode cX9_readRule 204 = .ok (.aload_n 0, 1) := by decide +kernel
theorem dX9_readRule_205 : decode cX9_readRule 205 = .ok (.getfield 255, 3) := by decide +kernel
theorem dX9_readRule_208 : decode cX9_readRule 208 = .ok (.l2i, 1) := by decide +kernel
theorem dX9_readRule_209 : decode cX9_readRule 209 = .ok (.istore_n 3, 1) := by decide +kernel
theorem dX9_readRule_210 : decode cX9_readRule 210 = .ok (.aload_n 0, 1) := by decide +kernel
theorem dX9_readRule_211 : decode cX9_readRule 211 = .ok (.aload_n 0, 1) := by decide +kernel
theorem dX9_readRule_212 : decode cX9_readRule 212 = .ok (.getfield 265, 3) := by decide +kernel
theorem dX9_readRule_215 : decode cX9_readRule 215 = .ok (.iconst 2, 1) := by decide +kernel
theorem dX9_readRule_216 : decode cX9_readRule 216 = .ok (.if_icmp .ne 28, 3) := by decide +kernel
theorem dX9_readRule_219 : decode cX9_readRule 219 = .ok (.aload_n 0, 1) := by decide +kernel
theorem dX9_readRule_220 : decode cX9_readRule 220 = .ok (.getfield 255, 3) := by decide +kernel
theorem dX9_readRule_223 : decode cX9_readRule 223 = .ok (.ldc2_w 293, 3) := by decide +kernel
theorem dX9_readRule_226 : decode cX9_readRule 226 = .ok (.lcmp, 1) := by decide +kernel
theorem dX9_readRule_227 : decode cX9_readRule 227 = .ok (.ifCond .gt 17, 3) := by decide +kernel
theorem dX9_readRule_230 : decode cX9_readRule 230 = .ok (.aload_n 0, 1) := by decide +kernel
theorem dX9_readRule_231 : decode cX9_readRule 231 = .ok (.getfield 255, 3) := by decide +kernel
theorem dX9_readRule_234 : decode cX9_readRule 234 = .ok (.iload_n 2, 1) := by decide +kernel
theorem dX9_readRule_235 : decode cX9_readRule 235 = .ok (.i2l, 1) := by decide +kernel
theorem dX9_readRule_236 : decode cX9_readRule 236 = .ok (.lcmp, 1) := by decide +kernel
theorem dX9_readRule_237 : decode cX9_readRule 237 = .ok (.ifCond .eq 7, 3) := by decide +kernel
theorem dX9_readRule_240 : decode cX9_readRule 240 = .ok (.iconst 1, 1) := by decide +kernel
theorem dX9_readRule_241 : decode cX9_readRule 241 = .ok (.goto 4, 3) := by decide +kernel
theorem dX9_readRule_244 : decode cX9_readRule 244 = .ok (.iconst 0, 1) := by decide +kernel
theorem dX9_readRule_245 : decode cX9_readRule 245 = .ok (.invokevirtual 280, 3) := by decide +kernel
theorem dX9_readRule_248 : decode cX9_readRule 248 = .ok (.aload_n 0, 1) := by decide +kernel
theorem dX9_readRule_249 : decode cX9_readRule 249 = .ok (.getfield 274, 3) := by decide +kernel
theorem dX9_readRule_252 : decode cX9_readRule 252 = .ok (.ifCond .eq 4, 3) := by decide +kernel
theorem dX9_readRule_255 : decode cX9_readRule 255 = .ok (.return_, 1) := by decide +kernel
theorem dX9_readRule_256 : decode cX9_readRule 256 = .ok (.aload_n 0, 1) := by decide +kernel
theorem dX9_readRule_257 : decode cX9_readRule 257 = .ok (.getfield 88, 3) := by decide +kernel
theorem dX9_readRule_260 : decode cX9_readRule 260 = .ok (.iconst 4, 1) := by decide +kernel
theorem dX9_readRule_261 : decode cX9_readRule 261 = .ok (.aload_n 0, 1) := by decide +kernel
theorem dX9_readRule_262 : decode cX9_readRule 262 = .ok (.getfield 288, 3) := by decide +kernel
theorem dX9_readRule_265 : decode cX9_readRule 265 = .ok (.imul, 1) := by decide +kernel
theorem dX9_readRule_266 : decode cX9_readRule 266 = .ok (.iload_n 1, 1) := by decide +kernel
theorem dX9_readRule_267 : decode cX9_readRule 267 = .ok (.iastore, 1) := by decide +kernel
theorem dX9_readRule_268 : decode cX9_readRule 268 = .ok (.aload_n 0, 1) := by decide +kernel
theorem dX9_readRule_269 : decode cX9_readRule 269 = .ok (.getfield 88, 3) := by decide +kernel
theorem dX9_readRule_272 : decode cX9_readRule 272 = .ok (.iconst 4, 1) := by decide +kernel
theorem dX9_readRule_273 : decode cX9_readRule 273 = .ok (.aload_n 0, 1) := by decide +kernel
theorem dX9_readRule_274 : decode cX9_readRule 274 = .ok (.getfield 288, 3) := by decide +kernel
theorem dX9_readRule_277 : decode cX9_readRule 277 = .ok (.imul, 1) := by decide +kernel
theorem dX9_readRule_278 : decode cX9_readRule 278 = .ok (.iconst 1, 1) := by decide +kernel
theorem dX9_readRule_279 : decode cX9_readRule 279 = .ok (.iadd, 1) := by decide +kernel
theorem dX9_readRule_280 : decode cX9_readRule 280 = .ok (.iload_n 2, 1) := by decide +kernel
theorem dX9_readRule_281 : decode cX9_readRule 281 = .ok (.iastore, 1) := by decide +kernel
theorem dX9_readRule_282 : decode cX9_readRule 282 = .ok (.aload_n 0, 1) := by decide +kernel
theorem dX9_readRule_283 : decode cX9_readRule 283 = .ok (.getfield 88, 3) := by decide +kernel
theorem dX9_readRule_286 : decode cX9_readRule 286 = .ok (.iconst 4, 1) := by decide +kernel
theorem dX9_readRule_287 : decode cX9_readRule 287 = .ok (.aload_n 0, 1) := by decide +kernel
theorem dX9_readRule_288 : decode cX9_readRule 288 = .ok (.getfield 288, 3) := by decide +kernel
theorem dX9_readRule_291 : decode cX9_readRule 291 = .ok (.imul, 1) := by decide +kernel
theorem dX9_readRule_292 : decode cX9_readRule 292 = .ok (.iconst 2, 1) := by decide +kernel
theorem dX9_readRule_293 : decode cX9_readRule 293 = .ok (.iadd, 1) := by decide +kernel
theorem dX9_readRule_294 : decode cX9_readRule 294 = .ok (.iload_n 3, 1) := by decide +kernel
theorem dX9_readRule_295 : decode cX9_readRule 295 = .ok (.iastore, 1) := by decide +kernel
theorem dX9_readRule_296 : decode cX9_readRule 296 = .ok (.aload_n 0, 1) := by decide +kernel
theorem dX9_readRule_297 : decode cX9_readRule 297 = .ok (.getfield 88, 3) := by decide +kernel
theorem dX9_readRule_300 : decode cX9_readRule 300 = .ok (.iconst 4, 1) := by decide +kernel
theorem dX9_readRule_301 : decode cX9_readRule 301 = .ok (.aload_n 0, 1) := by decide +kernel
theorem dX9_readRule_302 : decode cX9_readRule 302 = .ok (.getfield 288, 3) := by decide +kernel
theorem dX9_readRule_305 : decode cX9_readRule 305 = .ok (.imul, 1) := by decide +kernel
theorem dX9_readRule_306 : decode cX9_readRule 306 = .ok (.iconst 3, 1) := by decide +kernel
theorem dX9_readRule_307 : decode cX9_readRule 307 = .ok (.iadd, 1) := by decide +kernel
theorem dX9_readRule_308 : decode cX9_readRule 308 = .ok (.iload 4, 2) := by decide +kernel
theorem dX9_readRule_310 : decode cX9_readRule 310 = .ok (.iastore, 1) := by decide +kernel
theorem dX9_readRule_311 : decode cX9_readRule 311 = .ok (.aload_n 0, 1) := by decide +kernel
theorem dX9_readRule_312 : decode cX9_readRule 312 = .ok (.dup, 1) := by decide +kernel
theorem dX9_readRule_313 : decode cX9_readRule 313 = .ok (.getfield 288, 3) := by decide +kernel
theorem dX9_readRule_316 : decode cX9_readRule 316 = .ok (.iconst 1, 1) := by decide +kernel
theorem dX9_readRule_317 : decode cX9_readRule 317 = .ok (.iadd, 1) := by decide +kernel
theorem dX9_readRule_318 : decode cX9_readRule 318 = .ok (.putfield 288, 3) := by decide +kernel
theorem dX9_readRule_321 : decode cX9_readRule 321 = .ok (.return_, 1) := by decide +kernel
theorem dX9_rules_0 : decode cX9_rules 0 = .ok (.aload_n 0, 1) := by decide +kernel
theorem dX9_rules_1 : decode cX9_rules 1 = .ok (.iconst 0, 1) := by decide +kernel
theorem dX9_rules_2 : decode cX9_rules 2 = .ok (.putfield 131, 3) := by decide +kernel
theorem dX9_rules_5 : decode cX9_rules 5 = .ok (.aload_n 0, 1) := by decide +kernel
theorem dX9_rules_6 : decode cX9_rules 6 = .ok (.iconst 0, 1) := by decide +kernel
theorem dX9_rules_7 : decode cX9_rules 7 = .ok (.putfield 249, 3) := by decide +kernel
theorem dX9_rules_10 : decode cX9_rules 10 = .ok (.aload_n 0, 1) := by decide +kernel
theorem dX9_rules_11 : decode cX9_rules 11 = .ok (.iconst 0, 1) := by decide +kernel
theorem dX9_rules_12 : decode cX9_rules 12 = .ok (.putfield 274, 3) := by decide +kernel
theorem dX9_rules_15 : decode cX9_rules 15 = .ok (.aload_n 0, 1) := by decide +kernel
theorem dX9_rules_16 : decode cX9_rules 16 = .ok (.iconst (-1), 1) := by decide +kernel
theorem dX9_rules_17 : decode cX9_rules 17 = .ok (.putfield 94, 3) := by decide +kernel
theorem dX9_rules_20 : decode cX9_rules 20 = .ok (.aload_n 0, 1) := by decide +kernel
theorem dX9_rules_21 : decode cX9_rules 21 = .ok (.iconst 0, 1) := by decide +kernel
theorem dX9_rules_22 : decode cX9_rules 22 = .ok (.putfield 288, 3) := by decide +kernel
theorem dX9_rules_25 : decode cX9_rules 25 = .ok (.aload_n 0, 1) := by decide +kernel
theorem dX9_rules_26 : decode cX9_rules 26 = .ok (.invokevirtual 277, 3) := by decide +kernel
theorem dX9_rules_29 : decode cX9_rules 29 = .ok (.aload_n 0, 1) := by decide +kernel
theorem dX9_rules_30 : decode cX9_rules 30 = .ok (.getfield 265, 3) := by decide +kernel
theorem dX9_rules_33 : decode cX9_rules 33 = .ok (.ifCond .eq 63, 3) := by decide +kernel
theorem dX9_rules_36 : decode cX9_rules 36 = .ok (.aload_n 0, 1) := by decide +kernel
theorem dX9_rules_37 : decode cX9_rules 37 = .ok (.invokevirtual 299, 3) := by decide +kernel
theorem dX9_rules_40 : decode cX9_rules 40 = .ok (.aload_n 0, 1) := by decide +kernel
theorem dX9_rules_41 : decode cX9_rules 41 = .ok (.getfield 274, 3) := by decide +kernel
theorem dX9_rules_44 : decode cX9_rules 44 = .ok (.ifCond .ne 33, 3) := by decide +kernel
theorem dX9_rules_47 : decode cX9_rules 47 = .ok (.aload_n 0, 1) := by decide +kernel
theorem dX9_rules_48 : decode cX9_rules 48 = .ok (.getfield 265, 3) := by decide +kernel
theorem dX9_rules_51 : decode cX9_rules 51 = .ok (.iconst 3, 1) := by decide +kernel
theorem dX9_rules_52 : decode cX9_rules 52 = .ok (.if_icmp .ne 25, 3) := by decide +kernel
theorem dX9_rules_55 : decode cX9_rules 55 = .ok (.aload_n 0, 1) := by decide +kernel
theorem dX9_rules_56 : decode cX9_rules 56 = .ok (.getfield 255, 3) := by decide +kernel
theorem dX9_rules_59 : decode cX9_rules 59 = .ok (.ldc2_w 302, 3) := by decide +kernel
theorem dX9_rules_62 : decode cX9_rules 62 = .ok (.lcmp, 1) := by decide +kernel
theorem dX9_rules_63 : decode cX9_rules 63 = .ok (.ifCond .ne 14, 3) := by decide +kernel
theorem dX9_rules_66 : decode cX9_rules 66 = .ok (.aload_n 0, 1) := by decide +kernel
theorem dX9_rules_67 : decode cX9_rules 67 = .ok (.invokevirtual 277, 3) := by decide +kernel
theorem dX9_rules_70 : decode cX9_rules 70 = .ok (.aload_n 0, 1) := by decide +kernel
theorem dX9_rules_71 : decode cX9_rules 71 = .ok (.invokevirtual 299, 3) := by decide +kernel
theorem dX9_rules_74 : decode cX9_rules 74 = .ok (.goto (-34), 3) := by decide +kernel
theorem dX9_rules_77 : decode cX9_rules 77 = .ok (.aload_n 0, 1) := by decide +kernel
theorem dX9_rules_78 : decode cX9_rules 78 = .ok (.getfield 274, 3) := by decide +kernel
theorem dX9_rules_81 : decode cX9_rules 81 = .ok (.ifCond .ne 15, 3) := by decide +kernel
theorem dX9_rules_84 : decode cX9_rules 84 = .ok (.aload_n 0, 1) := by decide +kernel
theorem dX9_rules_85 : decode cX9_rules 85 = .ok (.getfield 265, 3) := by decide +kernel
theorem dX9_rules_88 : decode cX9_rules 88 = .ok (.ifCond .eq 8, 3) := by decide +kernel
theorem dX9_rules_91 : decode cX9_rules 91 = .ok (.aload_n 0, 1) := by decide +kernel
theorem dX9_rules_92 : decode cX9_rules 92 = .ok (.iconst 0, 1) := by decide +kernel
theorem dX9_rules_93 : decode cX9_rules 93 = .ok (.invokevirtual 280, 3) := by decide +kernel
theorem dX9_rules_96 : decode cX9_rules 96 = .ok (.aload_n 0, 1) := by decide +kernel
theorem dX9_rules_97 : decode cX9_rules 97 = .ok (.iconst 0, 1) := by decide +kernel
theorem dX9_rules_98 : decode cX9_rules 98 = .ok (.putfield 243, 3) := by decide +kernel
theorem dX9_rules_101 : decode cX9_rules 101 = .ok (.aload_n 0, 1) := by decide +kernel
theorem dX9_rules_102 : decode cX9_rules 102 = .ok (.getfield 274, 3) := by decide +kernel
theorem dX9_rules_105 : decode cX9_rules 105 = .ok (.ifCond .eq 10, 3) := by decide +kernel
theorem dX9_rules_108 : decode cX9_rules 108 = .ok (.aload_n 0, 1) := by decide +kernel
theorem dX9_rules_109 : decode cX9_rules 109 = .ok (.bipush (-6), 2) := by decide +kernel
theorem dX9_rules_111 : decode cX9_rules 111 = .ok (.invokevirtual 162, 3) := by decide +kernel
theorem dX9_rules_114 : decode cX9_rules 114 = .ok (.ireturn, 1) := by decide +kernel
theorem dX9_rules_115 : decode cX9_rules 115 = .ok (.aload_n 0, 1) := by decide +kernel
theorem dX9_rules_116 : decode cX9_rules 116 = .ok (.aload_n 0, 1) := by decide +kernel
theorem dX9_rules_117 : decode cX9_rules 117 = .ok (.getfield 288, 3) := by decide +kernel
theorem dX9_rules_120 : decode cX9_rules 120 = .ok (.putfield 207, 3) := by decide +kernel
theorem dX9_rules_123 : decode cX9_rules 123 = .ok (.iconst 0, 1) := by decide +kernel
theorem dX9_rules_124 : decode cX9_rules 124 = .ok (.istore_n 1, 1) := by decide +kernel
theorem dX9_rules_125 : decode cX9_rules 125 = .ok (.iload_n 1, 1) := by decide +kernel
theorem dX9_rules_126 : decode cX9_rules 126 = .ok (.aload_n 0, 1) := by decide +kernel
theorem dX9_rules_127 : decode cX9_rules 127 = .ok (.getfield 207, 3) := by decide +kernel
theorem dX9_rules_130 : decode cX9_rules 130 = .ok (.if_icmp .ge 71, 3) := by decide +kernel
theorem dX9_rules_133 : decode cX9_rules 133 = .ok (.aload_n 0, 1) := by decide +kernel
theorem dX9_rules_134 : decode cX9_rules 134 = .ok (.getfield 57, 3) := by decide +kernel
theorem dX9_rules_137 : decode cX9_rules 137 = .ok (.iload_n 1, 1) := by decide +kernel
theorem dX9_rules_138 : decode cX9_rules 138 = .ok (.aload_n 0, 1) := by decide +kernel
theorem dX9_rules_139 : decode cX9_rules 139 = .ok (.getfield 88, 3) := by decide +kernel
theorem dX9_rules_142 : decode cX9_rules 142 = .ok (.iconst 4, 1) := by decide +kernel
theorem dX9_rules_143 : decode cX9_rules 143 = .ok (.iload_n 1, 1) := by decide +kernel
theorem dX9_rules_144 : decode cX9_rules 144 = .ok (.imul, 1) := by decide +kernel
theorem dX9_rules_145 : decode cX9_rules 145 = .ok (.iaload, 1) := by decide +kernel
theorem dX9_rules_146 : decode cX9_rules 146 = .ok (.iastore, 1) := by decide +kernel
theorem dX9_rules_147 : decode cX9_rules 147 = .ok (.aload_n 0, 1) := by decide +kernel
theorem dX9_rules_148 : decode cX9_rules 148 = .ok (.getfield 60, 3) := by decide +kernel
theorem dX9_rules_151 : decode cX9_rules 151 = .ok (.iload_n 1, 1) := by decide +kernel
theorem dX9_rules_152 : decode cX9_rules 152 = .ok (.aload_n 0, 1) := by decide +kernel
theorem dX9_rules_153 : decode cX9_rules 153 = .ok (.getfield 88, 3) := by decide +kernel
theorem dX9_rules_156 : decode cX9_rules 156 = .ok (.iconst 4, 1) := by decide +kernel
theorem dX9_rules_157 : decode cX9_rules 157 = .ok (.iload_n 1, 1) := by decide +kernel
theorem dX9_rules_158 : decode cX9_rules 158 = .ok (.imul, 1) := by decide +kernel
theorem dX9_rules_159 : decode cX9_rules 159 = .ok (.iconst 1, 1) := by decide +kernel
theorem dX9_rules_160 : decode cX9_rules 160 = .ok (.iadd, 1) := by decide +kernel
theorem dX9_rules_161 : decode cX9_rules 161 = .ok (.iaload, 1) := by decide +kernel
theorem dX9_rules_162 : decode cX9_rules 162 = .ok (.iastore, 1) := by decide +kernel
theorem dX9_rules_163 : decode cX9_rules 163 = .ok (.aload_n 0, 1) := by decide +kernel
theorem dX9_rules_164 : decode cX9_rules 164 = .ok (.getfield 63, 3) := by decide +kernel
theorem dX9_rules_167 : decode cX9_rules 167 = .ok (.iload_n 1, 1) := by decide +kernel
theorem dX9_rules_168 : decode cX9_rules 168 = .ok (.aload_n 0, 1) := by decide +kernel
theorem dX9_rules_169 : decode cX9_rules 169 = .ok (.getfield 88, 3) := by decide +kernel
theorem dX9_rules_172 : decode cX9_rules 172 = .ok (.iconst 4, 1) := by decide +kernel
theorem dX9_rules_173 : decode cX9_rules 173 = .ok (.iload_n 1, 1) := by decide +kernel
theorem dX9_rules_174 : decode cX9_rules 174 = .ok (.imul, 1) := by decide +kernel
theorem dX9_rules_175 : decode cX9_rules 175 = .ok (.iconst 2, 1) := by decide +kernel
theorem dX9_rules_176 : decode cX9_rules 176 = .ok (.iadd, 1) := by decide +kernel
theorem dX9_rules_177 : decode cX9_rules 177 = .ok (.iaload, 1) := by decide +kernel
theorem dX9_rules_178 : decode cX9_rules 178 = .ok (.iastore, 1) := by decide +kernel
theorem dX9_rules_179 : decode cX9_rules 179 = .ok (.aload_n 0, 1) := by decide +kernel
theorem dX9_rules_180 : decode cX9_rules 180 = .ok (.getfield 66, 3) := by decide +kernel
theorem dX9_rules_183 : decode cX9_rules 183 = .ok (.iload_n 1, 1) := by decide +kernel
theorem dX9_rules_184 : decode cX9_rules 184 = .ok (.aload_n 0, 1) := by decide +kernel
theorem dX9_rules_185 : decode cX9_rules 185 = .ok (.getfield 88, 3) := by decide +kernel
theorem dX9_rules_188 : decode cX9_rules 188 = .ok (.iconst 4, 1) := by decide +kernel
theorem dX9_rules_189 : decode cX9_rules 189 = .ok (.iload_n 1, 1) := by decide +kernel
theorem dX9_rules_190 : decode cX9_rules 190 = .ok (.imul, 1) := by decide +kernel
theorem dX9_rules_191 : decode cX9_rules 191 = .ok (.iconst 3, 1) := by decide +kernel
theorem dX9_rules_192 : decode cX9_rules 192 = .ok (.iadd, 1) := by decide +kernel
theorem dX9_rules_193 : decode cX9_rules 193 = .ok (.iaload, 1) := by decide +kernel
theorem dX9_rules_194 : decode cX9_rules 194 = .ok (.iastore, 1) := by decide +kernel
theorem dX9_rules_195 : decode cX9_rules 195 = .ok (.iinc 1 1, 3) := by decide +kernel
theorem dX9_rules_198 : decode cX9_rules 198 = .ok (.goto (-73), 3) := by decide +kernel
theorem dX9_rules_201 : decode cX9_rules 201 = .ok (.aload_n 0, 1) := by decide +kernel
theorem dX9_rules_202 : decode cX9_rules 202 = .ok (.aload_n 0, 1) := by decide +kernel
theorem dX9_rules_203 : decode cX9_rules 203 = .ok (.getfield 207, 3) := by decide +kernel
theorem dX9_rules_206 : decode cX9_rules 206 = .ok (.invokevirtual 162, 3) := by decide +kernel
theorem dX9_rules_209 : decode cX9_rules 209 = .ok (.ireturn, 1) := by decide +kernel
theorem dX9_fault_0 : decode cX9_fault 0 = .ok (.aload_n 0, 1) := by decide +kernel
theorem dX9_fault_1 : decode cX9_fault 1 = .ok (.iconst 0, 1) := by decide +kernel
theorem dX9_fault_2 : decode cX9_fault 2 = .ok (.putfield 131, 3) := by decide +kernel
theorem dX9_fault_5 : decode cX9_fault 5 = .ok (.aload_n 0, 1) := by decide +kernel
theorem dX9_fault_6 : decode cX9_fault 6 = .ok (.getfield 94, 3) := by decide +kernel
theorem dX9_fault_9 : decode cX9_fault 9 = .ok (.ireturn, 1) := by decide +kernel
theorem dX9_store_0 : decode cX9_store 0 = .ok (.aload_n 0, 1) := by decide +kernel
theorem dX9_store_1 : decode cX9_store 1 = .ok (.iconst 0, 1) := by decide +kernel
theorem dX9_store_2 : decode cX9_store 2 = .ok (.putfield 131, 3) := by decide +kernel
theorem dX9_store_5 : decode cX9_store 5 = .ok (.iload_n 2, 1) := by decide +kernel
theorem dX9_store_6 : decode cX9_store 6 = .ok (.i2l, 1) := by decide +kernel
theorem dX9_store_7 : decode cX9_store 7 = .ok (.lconst 1, 1) := by decide +kernel
theorem dX9_store_8 : decode cX9_store 8 = .ok (.ldc2_w 304, 3) := by decide +kernel
theorem dX9_store_11 : decode cX9_store 11 = .ok (.invokestatic 139, 3) := by decide +kernel
theorem dX9_store_14 : decode cX9_store 14 = .ok (.ifCond .eq 66, 3) := by decide +kernel
theorem dX9_store_17 : decode cX9_store 17 = .ok (.iload_n 3, 1) := by decide +kernel
theorem dX9_store_18 : decode cX9_store 18 = .ok (.i2l, 1) := by decide +kernel
theorem dX9_store_19 : decode cX9_store 19 = .ok (.lconst 0, 1) := by decide +kernel
theorem dX9_store_20 : decode cX9_store 20 = .ok (.iload_n 2, 1) := by decide +kernel
theorem dX9_store_21 : decode cX9_store 21 = .ok (.i2l, 1) := by decide +kernel
theorem dX9_store_22 : decode cX9_store 22 = .ok (.invokestatic 139, 3) := by decide +kernel
theorem dX9_store_25 : decode cX9_store 25 = .ok (.ifCond .eq 55, 3) := by decide +kernel
theorem dX9_store_28 : decode cX9_store 28 = .ok (.iload 4, 2) := by decide +kernel
theorem dX9_store_30 : decode cX9_store 30 = .ok (.i2l, 1) := by decide +kernel
theorem dX9_store_31 : decode cX9_store 31 = .ok (.lconst 0, 1) := by decide +kernel
theorem dX9_store_32 : decode cX9_store 32 = .ok (.ldc2_w 196, 3) := by decide +kernel
theorem dX9_store_35 : decode cX9_store 35 = .ok (.invokestatic 139, 3) := by decide +kernel
theorem dX9_store_38 : decode cX9_store 38 = .ok (.ifCond .eq 42, 3) := by decide +kernel
theorem dX9_store_41 : decode cX9_store 41 = .ok (.iload 5, 2) := by decide +kernel
theorem dX9_store_43 : decode cX9_store 43 = .ok (.i2l, 1) := by decide +kernel
theorem dX9_store_44 : decode cX9_store 44 = .ok (.lconst 0, 1) := by decide +kernel
theorem dX9_store_45 : decode cX9_store 45 = .ok (.ldc2_w 196, 3) := by decide +kernel
theorem dX9_store_48 : decode cX9_store 48 = .ok (.invokestatic 139, 3) := by decide +kernel
theorem dX9_store_51 : decode cX9_store 51 = .ok (.ifCond .eq 29, 3) := by decide +kernel
theorem dX9_store_54 : decode cX9_store 54 = .ok (.iload 6, 2) := by decide +kernel
theorem dX9_store_56 : decode cX9_store 56 = .ok (.i2l, 1) := by decide +kernel
theorem dX9_store_57 : decode cX9_store 57 = .ok (.lconst 0, 1) := by decide +kernel
theorem dX9_store_58 : decode cX9_store 58 = .ok (.ldc2_w 291, 3) := by decide +kernel
theorem dX9_store_61 : decode cX9_store 61 = .ok (.invokestatic 139, 3) := by decide +kernel
theorem dX9_store_64 : decode cX9_store 64 = .ok (.ifCond .eq 16, 3) := by decide +kernel
theorem dX9_store_67 : decode cX9_store 67 = .ok (.iload 7, 2) := by decide +kernel
theorem dX9_store_69 : decode cX9_store 69 = .ok (.i2l, 1) := by decide +kernel
theorem dX9_store_70 : decode cX9_store 70 = .ok (.lconst 1, 1) := by decide +kernel
theorem dX9_store_71 : decode cX9_store 71 = .ok (.ldc2_w 143, 3) := by decide +kernel
theorem dX9_store_74 : decode cX9_store 74 = .ok (.invokestatic 139, 3) := by decide +kernel
theorem dX9_store_77 : decode cX9_store 77 = .ok (.ifCond .ne 9, 3) := by decide +kernel
theorem dX9_store_80 : decode cX9_store 80 = .ok (.aload_n 0, 1) := by decide +kernel
theorem dX9_store_81 : decode cX9_store 81 = .ok (.iconst (-1), 1) := by decide +kernel
theorem dX9_store_82 : decode cX9_store 82 = .ok (.invokevirtual 162, 3) := by decide +kernel
theorem dX9_store_85 : decode cX9_store 85 = .ok (.ireturn, 1) := by decide +kernel
theorem dX9_store_86 : decode cX9_store 86 = .ok (.aload_n 0, 1) := by decide +kernel
theorem dX9_store_87 : decode cX9_store 87 = .ok (.iload_n 1, 1) := by decide +kernel
theorem dX9_store_88 : decode cX9_store 88 = .ok (.invokevirtual 186, 3) := by decide +kernel
theorem dX9_store_91 : decode cX9_store 91 = .ok (.ifCond .ne 10, 3) := by decide +kernel
theorem dX9_store_94 : decode cX9_store 94 = .ok (.aload_n 0, 1) := by decide +kernel
theorem dX9_store_95 : decode cX9_store 95 = .ok (.bipush (-2), 2) := by decide +kernel
theorem dX9_store_97 : decode cX9_store 97 = .ok (.invokevirtual 162, 3) := by decide +kernel
theorem dX9_store_100 : decode cX9_store 100 = .ok (.ireturn, 1) := by decide +kernel
theorem dX9_store_101 : decode cX9_store 101 = .ok (.aload_n 0, 1) := by decide +kernel
theorem dX9_store_102 : decode cX9_store 102 = .ok (.getfield 306, 3) := by decide +kernel
theorem dX9_store_105 : decode cX9_store 105 = .ok (.bipush 6, 2) := by decide +kernel
theorem dX9_store_107 : decode cX9_store 107 = .ok (.if_icmp .ne 10, 3) := by decide +kernel
theorem dX9_store_110 : decode cX9_store 110 = .ok (.aload_n 0, 1) := by decide +kernel
theorem dX9_store_111 : decode cX9_store 111 = .ok (.bipush (-5), 2) := by decide +kernel
theorem dX9_store_113 : decode cX9_store 113 = .ok (.invokevirtual 162, 3) := by decide +kernel
theorem dX9_store_116 : decode cX9_store 116 = .ok (.ireturn, 1) := by decide +kernel
theorem dX9_store_117 : decode cX9_store 117 = .ok (.aload_n 0, 1) := by decide +kernel
theorem dX9_store_118 : decode cX9_store 118 = .ok (.getfield 97, 3) := by decide +kernel
theorem dX9_store_121 : decode cX9_store 121 = .ok (.aload_n 0, 1) := by decide +kernel
theorem dX9_store_122 : decode cX9_store 122 = .ok (.getfield 306, 3) := by decide +kernel
theorem dX9_store_125 : decode cX9_store 125 = .ok (.iload_n 1, 1) := by decide +kernel
theorem dX9_store_126 : decode cX9_store 126 = .ok (.iastore, 1) := by decide +kernel
theorem dX9_store_127 : decode cX9_store 127 = .ok (.aload_n 0, 1) := by decide +kernel
theorem dX9_store_128 : decode cX9_store 128 = .ok (.getfield 100, 3) := by decide +kernel
theorem dX9_store_131 : decode cX9_store 131 = .ok (.aload_n 0, 1) := by decide +kernel
theorem dX9_store_132 : decode cX9_store 132 = .ok (.getfield 306, 3) := by decide +kernel
theorem dX9_store_135 : decode cX9_store 135 = .ok (.iload_n 2, 1) := by decide +kernel
theorem dX9_store_136 : decode cX9_store 136 = .ok (.iastore, 1) := by decide +kernel
theorem dX9_store_137 : decode cX9_store 137 = .ok (.aload_n 0, 1) := by decide +kernel
theorem dX9_store_138 : decode cX9_store 138 = .ok (.getfield 103, 3) := by decide +kernel
theorem dX9_store_141 : decode cX9_store 141 = .ok (.aload_n 0, 1) := by decide +kernel
theorem dX9_store_142 : decode cX9_store 142 = .ok (.getfield 306, 3) := by decide +kernel
theorem dX9_store_145 : decode cX9_store 145 = .ok (.iload_n 3, 1) := by decide +kernel
theorem dX9_store_146 : decode cX9_store 146 = .ok (.iastore, 1) := by decide +kernel
theorem dX9_store_147 : decode cX9_store 147 = .ok (.aload_n 0, 1) := by decide +kernel
theorem dX9_store_148 : decode cX9_store 148 = .ok (.getfield 106, 3) := by decide +kernel
theorem dX9_store_151 : decode cX9_store 151 = .ok (.aload_n 0, 1) := by decide +kernel
theorem dX9_store_152 : decode cX9_store 152 = .ok (.getfield 306, 3) := by decide +kernel
theorem dX9_store_155 : decode cX9_store 155 = .ok (.iload 4, 2) := by decide +kernel
theorem dX9_store_157 : decode cX9_store 157 = .ok (.iastore, 1) := by decide +kernel
theorem dX9_store_158 : decode cX9_store 158 = .ok (.aload_n 0, 1) := by decide +kernel
theorem dX9_store_159 : decode cX9_store 159 = .ok (.getfield 109, 3) := by decide +kernel
theorem dX9_store_162 : decode cX9_store 162 = .ok (.aload_n 0, 1) := by decide +kernel
theorem dX9_store_163 : decode cX9_store 163 = .ok (.getfield 306, 3) := by decide +kernel
theorem dX9_store_166 : decode cX9_store 166 = .ok (.iload 5, 2) := by decide +kernel
theorem dX9_store_168 : decode cX9_store 168 = .ok (.iastore, 1) := by decide +kernel
theorem dX9_store_169 : decode cX9_store 169 = .ok (.aload_n 0, 1) := by decide +kernel
theorem dX9_store_170 : decode cX9_store 170 = .ok (.getfield 112, 3) := by decide +kernel
theorem dX9_store_173 : decode cX9_store 173 = .ok (.aload_n 0, 1) := by decide +kernel
theorem dX9_store_174 : decode cX9_store 174 = .ok (.getfield 306, 3) := by decide +kernel
theorem dX9_store_177 : decode cX9_store 177 = .ok (.iload 6, 2) := by decide +kernel
theorem dX9_store_179 : decode cX9_store 179 = .ok (.iastore, 1) := by decide +kernel
theorem dX9_store_180 : decode cX9_store 180 = .ok (.aload_n 0, 1) := by decide +kernel
theorem dX9_store_181 : decode cX9_store 181 = .ok (.getfield 115, 3) := by decide +kernel
theorem dX9_store_184 : decode cX9_store 184 = .ok (.aload_n 0, 1) := by decide +kernel
theorem dX9_store_185 : decode cX9_store 185 = .ok (.getfield 306, 3) := by decide +kernel
theorem dX9_store_188 : decode cX9_store 188 = .ok (.iload 7, 2) := by decide +kernel
theorem dX9_store_190 : decode cX9_store 190 = .ok (.iastore, 1) := by decide +kernel
theorem dX9_store_191 : decode cX9_store 191 = .ok (.aload_n 0, 1) := by decide +kernel
theorem dX9_store_192 : decode cX9_store 192 = .ok (.dup, 1) := by decide +kernel
theorem dX9_store_193 : decode cX9_store 193 = .ok (.getfield 306, 3) := by decide +kernel
theorem dX9_store_196 : decode cX9_store 196 = .ok (.iconst 1, 1) := by decide +kernel
theorem dX9_store_197 : decode cX9_store 197 = .ok (.iadd, 1) := by decide +kernel
theorem dX9_store_198 : decode cX9_store 198 = .ok (.putfield 306, 3) := by decide +kernel
theorem dX9_store_201 : decode cX9_store 201 = .ok (.aload_n 0, 1) := by decide +kernel
theorem dX9_store_202 : decode cX9_store 202 = .ok (.aload_n 0, 1) := by decide +kernel
theorem dX9_store_203 : decode cX9_store 203 = .ok (.getfield 306, 3) := by decide +kernel
theorem dX9_store_206 : decode cX9_store 206 = .ok (.iconst 1, 1) := by decide +kernel
theorem dX9_store_207 : decode cX9_store 207 = .ok (.isub, 1) := by decide +kernel
theorem dX9_store_208 : decode cX9_store 208 = .ok (.invokevirtual 162, 3) := by decide +kernel
theorem dX9_store_211 : decode cX9_store 211 = .ok (.ireturn, 1) := by decide +kernel
theorem dX9_isStore_0 : decode cX9_isStore 0 = .ok (.iload_n 1, 1) := by decide +kernel
theorem dX9_isStore_1 : decode cX9_isStore 1 = .ok (.i2l, 1) := by decide +kernel
theorem dX9_isStore_2 : decode cX9_isStore 2 = .ok (.lconst 0, 1) := by decide +kernel
theorem dX9_isStore_3 : decode cX9_isStore 3 = .ok (.aload_n 0, 1) := by decide +kernel
theorem dX9_isStore_4 : decode cX9_isStore 4 = .ok (.getfield 306, 3) := by decide +kernel
theorem dX9_isStore_7 : decode cX9_isStore 7 = .ok (.i2l, 1) := by decide +kernel
theorem dX9_isStore_8 : decode cX9_isStore 8 = .ok (.lconst 1, 1) := by decide +kernel
theorem dX9_isStore_9 : decode cX9_isStore 9 = .ok (.lsub, 1) := by decide +kernel
theorem dX9_isStore_10 : decode cX9_isStore 10 = .ok (.invokestatic 139, 3) := by decide +kernel
theorem dX9_isStore_13 : decode cX9_isStore 13 = .ok (.ireturn, 1) := by decide +kernel
theorem dX9_level_0 : decode cX9_level 0 = .ok (.aload_n 0, 1) := by decide +kernel
theorem dX9_level_1 : decode cX9_level 1 = .ok (.iconst 0, 1) := by decide +kernel
theorem dX9_level_2 : decode cX9_level 2 = .ok (.putfield 131, 3) := by decide +kernel
theorem dX9_level_5 : decode cX9_level 5 = .ok (.iload_n 2, 1) := by decide +kernel
theorem dX9_level_6 : decode cX9_level 6 = .ok (.ifCond .ge 9, 3) := by decide +kernel
theorem dX9_level_9 : decode cX9_level 9 = .ok (.aload_n 0, 1) := by decide +kernel
theorem dX9_level_10 : decode cX9_level 10 = .ok (.iconst (-1), 1) := by decide +kernel
theorem dX9_level_11 : decode cX9_level 11 = .ok (.invokevirtual 162, 3) := by decide +kernel
theorem dX9_level_14 : decode cX9_level 14 = .ok (.ireturn, 1) := by decide +kernel
theorem dX9_level_15 : decode cX9_level 15 = .ok (.aload_n 0, 1) := by decide +kernel
theorem dX9_level_16 : decode cX9_level 16 = .ok (.iload_n 1, 1) := by decide +kernel
theorem dX9_level_17 : decode cX9_level 17 = .ok (.invokevirtual 309, 3) := by decide +kernel
theorem dX9_level_20 : decode cX9_level 20 = .ok (.ifCond .ne 10, 3) := by decide +kernel
theorem dX9_level_23 : decode cX9_level 23 = .ok (.aload_n 0, 1) := by decide +kernel
theorem dX9_level_24 : decode cX9_level 24 = .ok (.bipush (-2), 2) := by decide +kernel
theorem dX9_level_26 : decode cX9_level 26 = .ok (.invokevirtual 162, 3) := by decide +kernel
theorem dX9_level_29 : decode cX9_level 29 = .ok (.ireturn, 1) := by decide +kernel
theorem dX9_level_30 : decode cX9_level 30 = .ok (.iload_n 2, 1) := by decide +kernel
theorem dX9_level_31 : decode cX9_level 31 = .ok (.aload_n 0, 1) := by decide +kernel
theorem dX9_level_32 : decode cX9_level 32 = .ok (.getfield 100, 3) := by decide +kernel
theorem dX9_level_35 : decode cX9_level 35 = .ok (.iload_n 1, 1) := by decide +kernel
theorem dX9_level_36 : decode cX9_level 36 = .ok (.iaload, 1) := by decide +kernel
theorem dX9_level_37 : decode cX9_level 37 = .ok (.if_icmp .le 9, 3) := by decide +kernel
theorem dX9_level_40 : decode cX9_level 40 = .ok (.aload_n 0, 1) := by decide +kernel
theorem dX9_level_41 : decode cX9_level 41 = .ok (.iconst (-1), 1) := by decide +kernel
theorem dX9_level_42 : decode cX9_level 42 = .ok (.invokevirtual 162, 3) := by decide +kernel
theorem dX9_level_45 : decode cX9_level 45 = .ok (.ireturn, 1) := by decide +kernel
theorem dX9_level_46 : decode cX9_level 46 = .ok (.aload_n 0, 1) := by decide +kernel
theorem dX9_level_47 : decode cX9_level 47 = .ok (.getfield 103, 3) := by decide +kernel
theorem dX9_level_50 : decode cX9_level 50 = .ok (.iload_n 1, 1) := by decide +kernel
theorem dX9_level_51 : decode cX9_level 51 = .ok (.iaload, 1) := by decide +kernel
theorem dX9_level_52 : decode cX9_level 52 = .ok (.istore_n 3, 1) := by decide +kernel
theorem dX9_level_53 : decode cX9_level 53 = .ok (.aload_n 0, 1) := by decide +kernel
theorem dX9_level_54 : decode cX9_level 54 = .ok (.getfield 103, 3) := by decide +kernel
theorem dX9_level_57 : decode cX9_level 57 = .ok (.iload_n 1, 1) := by decide +kernel
theorem dX9_level_58 : decode cX9_level 58 = .ok (.iload_n 2, 1) := by decide +kernel
theorem dX9_level_59 : decode cX9_level 59 = .ok (.iastore, 1) := by decide +kernel
theorem dX9_level_60 : decode cX9_level 60 = .ok (.aload_n 0, 1) := by decide +kernel
theorem dX9_level_61 : decode cX9_level 61 = .ok (.iload_n 3, 1) := by decide +kernel
theorem dX9_level_62 : decode cX9_level 62 = .ok (.invokevirtual 162, 3) := by decide +kernel
theorem dX9_level_65 : decode cX9_level 65 = .ok (.ireturn, 1) := by decide +kernel
theorem dX9_goes_0 : decode cX9_goes 0 = .ok (.iload_n 2, 1) := by decide +kernel
theorem dX9_goes_1 : decode cX9_goes 1 = .ok (.iload_n 3, 1) := by decide +kernel
theorem dX9_goes_2 : decode cX9_goes 2 = .ok (.iadd, 1) := by decide +kernel
theorem dX9_goes_3 : decode cX9_goes 3 = .ok (.i2l, 1) := by decide +kernel
theorem dX9_goes_4 : decode cX9_goes 4 = .ok (.lconst 0, 1) := by decide +kernel
theorem dX9_goes_5 : decode cX9_goes 5 = .ok (.aload_n 0, 1) := by decide +kernel
theorem dX9_goes_6 : decode cX9_goes 6 = .ok (.getfield 100, 3) := by decide +kernel
theorem dX9_goes_9 : decode cX9_goes 9 = .ok (.iload_n 1, 1) := by decide +kernel
theorem dX9_goes_10 : decode cX9_goes 10 = .ok (.iaload, 1) := by decide +kernel
theorem dX9_goes_11 : decode cX9_goes 11 = .ok (.i2l, 1) := by decide +kernel
theorem dX9_goes_12 : decode cX9_goes 12 = .ok (.invokestatic 139, 3) := by decide +kernel
theorem dX9_goes_15 : decode cX9_goes 15 = .ok (.ifCond .ne 5, 3) := by decide +kernel
theorem dX9_goes_18 : decode cX9_goes 18 = .ok (.iconst 0, 1) := by decide +kernel
theorem dX9_goes_19 : decode cX9_goes 19 = .ok (.ireturn, 1) := by decide +kernel
theorem dX9_goes_20 : decode cX9_goes 20 = .ok (.iload_n 3, 1) := by decide +kernel
theorem dX9_goes_21 : decode cX9_goes 21 = .ok (.aload_n 0, 1) := by decide +kernel
theorem dX9_goes_22 : decode cX9_goes 22 = .ok (.getfield 115, 3) := by decide +kernel
theorem dX9_goes_25 : decode cX9_goes 25 = .ok (.iload_n 1, 1) := by decide +kernel
theorem dX9_goes_26 : decode cX9_goes 26 = .ok (.iaload, 1) := by decide +kernel
theorem dX9_goes_27 : decode cX9_goes 27 = .ok (.imul, 1) := by decide +kernel
theorem dX9_goes_28 : decode cX9_goes 28 = .ok (.istore 6, 2) := by decide +kernel
theorem dX9_goes_30 : decode cX9_goes 30 = .ok (.iload_n 3, 1) := by decide +kernel
theorem dX9_goes_31 : decode cX9_goes 31 = .ok (.ifCond .eq 37, 3) := by decide +kernel
theorem dX9_goes_34 : decode cX9_goes 34 = .ok (.iload_n 3, 1) := by decide +kernel
theorem dX9_goes_35 : decode cX9_goes 35 = .ok (.ifCond .le 25, 3) := by decide +kernel
theorem dX9_goes_38 : decode cX9_goes 38 = .ok (.iload 5, 2) := by decide +kernel
theorem dX9_goes_40 : decode cX9_goes 40 = .ok (.iload 6, 2) := by decide +kernel
theorem dX9_goes_42 : decode cX9_goes 42 = .ok (.iadd, 1) := by decide +kernel
theorem dX9_goes_43 : decode cX9_goes 43 = .ok (.aload_n 0, 1) := by decide +kernel
theorem dX9_goes_44 : decode cX9_goes 44 = .ok (.getfield 23, 3) := by decide +kernel
theorem dX9_goes_47 : decode cX9_goes 47 = .ok (.aload_n 0, 1) := by decide +kernel
theorem dX9_goes_48 : decode cX9_goes 48 = .ok (.getfield 97, 3) := by decide +kernel
theorem dX9_goes_51 : decode cX9_goes 51 = .ok (.iload_n 1, 1) := by decide +kernel
theorem dX9_goes_52 : decode cX9_goes 52 = .ok (.iaload, 1) := by decide +kernel
theorem dX9_goes_53 : decode cX9_goes 53 = .ok (.iaload, 1) := by decide +kernel
theorem dX9_goes_54 : decode cX9_goes 54 = .ok (.if_icmp .gt 18, 3) := by decide +kernel
theorem dX9_goes_57 : decode cX9_goes 57 = .ok (.goto 11, 3) := by decide +kernel
theorem dX9_goes_60 : decode cX9_goes 60 = .ok (.iload 6, 2) := by decide +kernel
theorem dX9_goes_62 : decode cX9_goes 62 = .ok (.ineg, 1) := by decide +kernel
theorem dX9_goes_63 : decode cX9_goes 63 = .ok (.iload 5, 2) := by decide +kernel
theorem dX9_goes_65 : decode cX9_goes 65 = .ok (.if_icmp .gt 7, 3) := by decide +kernel
theorem dX9_goes_68 : decode cX9_goes 68 = .ok (.iconst 1, 1) := by decide +kernel
theorem dX9_goes_69 : decode cX9_goes 69 = .ok (.goto 4, 3) := by decide +kernel
theorem dX9_goes_72 : decode cX9_goes 72 = .ok (.iconst 0, 1) := by decide +kernel
theorem dX9_goes_73 : decode cX9_goes 73 = .ok (.ireturn, 1) := by decide +kernel
theorem dX9_afterwards_0 : decode cX9_afterwards 0 = .ok (.iload_n 2, 1) := by decide +kernel
theorem dX9_afterwards_1 : decode cX9_afterwards 1 = .ok (.aload_n 0, 1) := by decide +kernel
theorem dX9_afterwards_2 : decode cX9_afterwards 2 = .ok (.getfield 112, 3) := by decide +kernel
theorem dX9_afterwards_5 : decode cX9_afterwards 5 = .ok (.iload_n 1, 1) := by decide +kernel
theorem dX9_afterwards_6 : decode cX9_afterwards 6 = .ok (.iaload, 1) := by decide +kernel
theorem dX9_afterwards_7 : decode cX9_afterwards 7 = .ok (.if_icmp .ge 7, 3) := by decide +kernel
theorem dX9_afterwards_10 : decode cX9_afterwards 10 = .ok (.iconst 0, 1) := by decide +kernel
theorem dX9_afterwards_11 : decode cX9_afterwards 11 = .ok (.goto 11, 3) := by decide +kernel
theorem dX9_afterwards_14 : decode cX9_afterwards 14 = .ok (.iload_n 2, 1) := by decide +kernel
theorem dX9_afterwards_15 : decode cX9_afterwards 15 = .ok (.aload_n 0, 1) := by decide +kernel
theorem dX9_afterwards_16 : decode cX9_afterwards 16 = .ok (.getfield 112, 3) := by decide +kernel
theorem dX9_afterwards_19 : decode cX9_afterwards 19 = .ok (.iload_n 1, 1) := by decide +kernel
theorem dX9_afterwards_20 : decode cX9_afterwards 20 = .ok (.iaload, 1) := by decide +kernel
theorem dX9_afterwards_21 : decode cX9_afterwards 21 = .ok (.isub, 1) := by decide +kernel
theorem dX9_afterwards_22 : decode cX9_afterwards 22 = .ok (.ireturn, 1) := by decide +kernel
theorem dX9_fill_0 : decode cX9_fill 0 = .ok (.aload_n 0, 1) := by decide +kernel
theorem dX9_fill_1 : decode cX9_fill 1 = .ok (.iconst 0, 1) := by decide +kernel
theorem dX9_fill_2 : decode cX9_fill 2 = .ok (.putfield 131, 3) := by decide +kernel
theorem dX9_fill_5 : decode cX9_fill 5 = .ok (.iload_n 2, 1) := by decide +kernel
theorem dX9_fill_6 : decode cX9_fill 6 = .ok (.i2l, 1) := by decide +kernel
theorem dX9_fill_7 : decode cX9_fill 7 = .ok (.lconst 1, 1) := by decide +kernel
theorem dX9_fill_8 : decode cX9_fill 8 = .ok (.ldc2_w 241, 3) := by decide +kernel
theorem dX9_fill_11 : decode cX9_fill 11 = .ok (.invokestatic 139, 3) := by decide +kernel
theorem dX9_fill_14 : decode cX9_fill 14 = .ok (.ifCond .eq 37, 3) := by decide +kernel
theorem dX9_fill_17 : decode cX9_fill 17 = .ok (.aload_n 0, 1) := by decide +kernel
theorem dX9_fill_18 : decode cX9_fill 18 = .ok (.getfield 173, 3) := by decide +kernel
theorem dX9_fill_21 : decode cX9_fill 21 = .ok (.iload_n 2, 1) := by decide +kernel
theorem dX9_fill_22 : decode cX9_fill 22 = .ok (.iadd, 1) := by decide +kernel
theorem dX9_fill_23 : decode cX9_fill 23 = .ok (.sipush 168, 3) := by decide +kernel
theorem dX9_fill_26 : decode cX9_fill 26 = .ok (.if_icmp .gt 25, 3) := by decide +kernel
theorem dX9_fill_29 : decode cX9_fill 29 = .ok (.iload_n 3, 1) := by decide +kernel
theorem dX9_fill_30 : decode cX9_fill 30 = .ok (.ifCond .lt 21, 3) := by decide +kernel
theorem dX9_fill_33 : decode cX9_fill 33 = .ok (.aload_n 0, 1) := by decide +kernel
theorem dX9_fill_34 : decode cX9_fill 34 = .ok (.iload_n 1, 1) := by decide +kernel
theorem dX9_fill_35 : decode cX9_fill 35 = .ok (.invokevirtual 309, 3) := by decide +kernel
theorem dX9_fill_38 : decode cX9_fill 38 = .ok (.ifCond .eq 22, 3) := by decide +kernel
theorem dX9_fill_41 : decode cX9_fill 41 = .ok (.iload_n 3, 1) := by decide +kernel
theorem dX9_fill_42 : decode cX9_fill 42 = .ok (.aload_n 0, 1) := by decide +kernel
theorem dX9_fill_43 : decode cX9_fill 43 = .ok (.getfield 100, 3) := by decide +kernel
theorem dX9_fill_46 : decode cX9_fill 46 = .ok (.iload_n 1, 1) := by decide +kernel
theorem dX9_fill_47 : decode cX9_fill 47 = .ok (.iaload, 1) := by decide +kernel
theorem dX9_fill_48 : decode cX9_fill 48 = .ok (.if_icmp .le 12, 3) := by decide +kernel
theorem dX9_fill_51 : decode cX9_fill 51 = .ok (.aload_n 0, 1) := by decide +kernel
theorem dX9_fill_52 : decode cX9_fill 52 = .ok (.iconst (-1), 1) := by decide +kernel
theorem dX9_fill_53 : decode cX9_fill 53 = .ok (.putfield 134, 3) := by decide +kernel
theorem dX9_fill_56 : decode cX9_fill 56 = .ok (.ldc2_w 312, 3) := by decide +kernel
theorem dX9_fill_59 : decode cX9_fill 59 = .ok (.lreturn, 1) := by decide +kernel
theorem dX9_fill_60 : decode cX9_fill 60 = .ok (.aload_n 0, 1) := by decide +kernel
theorem dX9_fill_61 : decode cX9_fill 61 = .ok (.iload_n 1, 1) := by decide +kernel
theorem dX9_fill_62 : decode cX9_fill 62 = .ok (.invokevirtual 309, 3) := by decide +kernel
theorem dX9_fill_65 : decode cX9_fill 65 = .ok (.ifCond .ne 13, 3) := by decide +kernel
theorem dX9_fill_68 : decode cX9_fill 68 = .ok (.aload_n 0, 1) := by decide +kernel
theorem dX9_fill_69 : decode cX9_fill 69 = .ok (.bipush (-2), 2) := by decide +kernel
theorem dX9_fill_71 : decode cX9_fill 71 = .ok (.putfield 134, 3) := by decide +kernel
theorem dX9_fill_74 : decode cX9_fill 74 = .ok (.ldc2_w 314, 3) := by decide +kernel
theorem dX9_fill_77 : decode cX9_fill 77 = .ok (.lreturn, 1) := by decide +kernel
theorem dX9_fill_78 : decode cX9_fill 78 = .ok (.aload_n 0, 1) := by decide +kernel
theorem dX9_fill_79 : decode cX9_fill 79 = .ok (.getfield 100, 3) := by decide +kernel
theorem dX9_fill_82 : decode cX9_fill 82 = .ok (.iload_n 1, 1) := by decide +kernel
theorem dX9_fill_83 : decode cX9_fill 83 = .ok (.iaload, 1) := by decide +kernel
theorem dX9_fill_84 : decode cX9_fill 84 = .ok (.iconst 1, 1) := by decide +kernel
theorem dX9_fill_85 : decode cX9_fill 85 = .ok (.iadd, 1) := by decide +kernel
theorem dX9_fill_86 : decode cX9_fill 86 = .ok (.istore 4, 2) := by decide +kernel
theorem dX9_fill_88 : decode cX9_fill 88 = .ok (.iconst 0, 1) := by decide +kernel
theorem dX9_fill_89 : decode cX9_fill 89 = .ok (.istore 5, 2) := by decide +kernel
theorem dX9_fill_91 : decode cX9_fill 91 = .ok (.iload 5, 2) := by decide +kernel
theorem dX9_fill_93 : decode cX9_fill 93 = .ok (.iload 4, 2) := by decide +kernel
theorem dX9_fill_95 : decode cX9_fill 95 = .ok (.if_icmp .ge 45, 3) := by decide +kernel
theorem dX9_fill_98 : decode cX9_fill 98 = .ok (.aload_n 0, 1) := by decide +kernel
theorem dX9_fill_99 : decode cX9_fill 99 = .ok (.getfield 118, 3) := by decide +kernel
theorem dX9_fill_102 : decode cX9_fill 102 = .ok (.bipush 41, 2) := by decide +kernel
theorem dX9_fill_104 : decode cX9_fill 104 = .ok (.iload_n 2, 1) := by decide +kernel
theorem dX9_fill_105 : decode cX9_fill 105 = .ok (.imul, 1) := by decide +kernel
theorem dX9_fill_106 : decode cX9_fill 106 = .ok (.iload 5, 2) := by decide +kernel
theorem dX9_fill_108 : decode cX9_fill 108 = .ok (.iadd, 1) := by decide +kernel
theorem dX9_fill_109 : decode cX9_fill 109 = .ok (.lconst 0, 1) := by decide +kernel
theorem dX9_fill_110 : decode cX9_fill 110 = .ok (.lastore, 1) := by decide +kernel
theorem dX9_fill_111 : decode cX9_fill 111 = .ok (.aload_n 0, 1) := by decide +kernel
theorem dX9_fill_112 : decode cX9_fill 112 = .ok (.getfield 121, 3) := by decide +kernel
theorem dX9_fill_115 : decode cX9_fill 115 = .ok (.bipush 41, 2) := by decide +kernel
theorem dX9_fill_117 : decode cX9_fill 117 = .ok (.iload_n 2, 1) := by decide +kernel
theorem dX9_fill_118 : decode cX9_fill 118 = .ok (.imul, 1) := by decide +kernel
theorem dX9_fill_119 : decode cX9_fill 119 = .ok (.iload 5, 2) := by decide +kernel
theorem dX9_fill_121 : decode cX9_fill 121 = .ok (.iadd, 1) := by decide +kernel
theorem dX9_fill_122 : decode cX9_fill 122 = .ok (.iload 5, 2) := by decide +kernel
theorem dX9_fill_124 : decode cX9_fill 124 = .ok (.iload_n 3, 1) := by decide +kernel
theorem dX9_fill_125 : decode cX9_fill 125 = .ok (.if_icmp .lt 7, 3) := by decide +kernel
theorem dX9_fill_128 : decode cX9_fill 128 = .ok (.iconst 1, 1) := by decide +kernel
theorem dX9_fill_129 : decode cX9_fill 129 = .ok (.goto 4, 3) := by decide +kernel
theorem dX9_fill_132 : decode cX9_fill 132 = .ok (.iconst 0, 1) := by decide +kernel
theorem dX9_fill_133 : decode cX9_fill 133 = .ok (.bastore, 1) := by decide +kernel
theorem dX9_fill_134 : decode cX9_fill 134 = .ok (.iinc 5 1, 3) := by decide +kernel
theorem dX9_fill_137 : decode cX9_fill 137 = .ok (.goto (-46), 3) := by decide +kernel
theorem dX9_fill_140 : decode cX9_fill 140 = .ok (.iload_n 2, 1) := by decide +kernel
theorem dX9_fill_141 : decode cX9_fill 141 = .ok (.iconst 1, 1) := by decide +kernel
theorem dX9_fill_142 : decode cX9_fill 142 = .ok (.isub, 1) := by decide +kernel
theorem dX9_fill_143 : decode cX9_fill 143 = .ok (.istore 5, 2) := by decide +kernel
theorem dX9_fill_145 : decode cX9_fill 145 = .ok (.iload 5, 2) := by decide +kernel
theorem dX9_fill_147 : decode cX9_fill 147 = .ok (.ifCond .lt 254, 3) := by decide +kernel
theorem dX9_fill_150 : decode cX9_fill 150 = .ok (.aload_n 0, 1) := by decide +kernel
theorem dX9_fill_151 : decode cX9_fill 151 = .ok (.aload_n 0, 1) := by decide +kernel
theorem dX9_fill_152 : decode cX9_fill 152 = .ok (.getfield 97, 3) := by decide +kernel
theorem dX9_fill_155 : decode cX9_fill 155 = .ok (.iload_n 1, 1) := by decide +kernel
theorem dX9_fill_156 : decode cX9_fill 156 = .ok (.iaload, 1) := by decide +kernel
theorem dX9_fill_157 : decode cX9_fill 157 = .ok (.aload_n 0, 1) := by decide +kernel
theorem dX9_fill_158 : decode cX9_fill 158 = .ok (.getfield 173, 3) := by decide +kernel
theorem dX9_fill_161 : decode cX9_fill 161 = .ok (.iload 5, 2) := by decide +kernel
theorem dX9_fill_163 : decode cX9_fill 163 = .ok (.iadd, 1) := by decide +kernel
theorem dX9_fill_164 : decode cX9_fill 164 = .ok (.iconst (-1), 1) := by decide +kernel
theorem dX9_fill_165 : decode cX9_fill 165 = .ok (.invokevirtual 203, 3) := by decide +kernel
theorem dX9_fill_168 : decode cX9_fill 168 = .ok (.istore 6, 2) := by decide +kernel
theorem dX9_fill_170 : decode cX9_fill 170 = .ok (.aload_n 0, 1) := by decide +kernel
theorem dX9_fill_171 : decode cX9_fill 171 = .ok (.aload_n 0, 1) := by decide +kernel
theorem dX9_fill_172 : decode cX9_fill 172 = .ok (.getfield 173, 3) := by decide +kernel
theorem dX9_fill_175 : decode cX9_fill 175 = .ok (.iload 5, 2) := by decide +kernel
theorem dX9_fill_177 : decode cX9_fill 177 = .ok (.iadd, 1) := by decide +kernel
theorem dX9_fill_178 : decode cX9_fill 178 = .ok (.aload_n 0, 1) := by decide +kernel
theorem dX9_fill_179 : decode cX9_fill 179 = .ok (.getfield 173, 3) := by decide +kernel
theorem dX9_fill_182 : decode cX9_fill 182 = .ok (.invokevirtual 176, 3) := by decide +kernel
theorem dX9_fill_185 : decode cX9_fill 185 = .ok (.i2l, 1) := by decide +kernel
theorem dX9_fill_186 : decode cX9_fill 186 = .ok (.aload_n 0, 1) := by decide +kernel
theorem dX9_fill_187 : decode cX9_fill 187 = .ok (.getfield 115, 3) := by decide +kernel
theorem dX9_fill_190 : decode cX9_fill 190 = .ok (.iload_n 1, 1) := by decide +kernel
theorem dX9_fill_191 : decode cX9_fill 191 = .ok (.iaload, 1) := by decide +kernel
theorem dX9_fill_192 : decode cX9_fill 192 = .ok (.i2l, 1) := by decide +kernel
theorem dX9_fill_193 : decode cX9_fill 193 = .ok (.lmul, 1) := by decide +kernel
theorem dX9_fill_194 : decode cX9_fill 194 = .ok (.lstore 7, 2) := by decide +kernel
theorem dX9_fill_196 : decode cX9_fill 196 = .ok (.iconst 0, 1) := by decide +kernel
theorem dX9_fill_197 : decode cX9_fill 197 = .ok (.istore 9, 2) := by decide +kernel
theorem dX9_fill_199 : decode cX9_fill 199 = .ok (.iload 9, 2) := by decide +kernel
theorem dX9_fill_201 : decode cX9_fill 201 = .ok (.iload 4, 2) := by decide +kernel
theorem dX9_fill_203 : decode cX9_fill 203 = .ok (.if_icmp .ge 192, 3) := by decide +kernel
theorem dX9_fill_206 : decode cX9_fill 206 = .ok (.aload_n 0, 1) := by decide +kernel
theorem dX9_fill_207 : decode cX9_fill 207 = .ok (.getfield 121, 3) := by decide +kernel
theorem dX9_fill_210 : decode cX9_fill 210 = .ok (.bipush 41, 2) := by decide +kernel
theorem dX9_fill_212 : decode cX9_fill 212 = .ok (.iload 5, 2) := by decide +kernel
theorem dX9_fill_214 : decode cX9_fill 214 = .ok (.imul, 1) := by decide +kernel
theorem dX9_fill_215 : decode cX9_fill 215 = .ok (.iload 9, 2) := by decide +kernel
theorem dX9_fill_217 : decode cX9_fill 217 = .ok (.iadd, 1) := by decide +kernel
theorem dX9_fill_218 : decode cX9_fill 218 = .ok (.iconst 0, 1) := by decide +kernel
theorem dX9_fill_219 : decode cX9_fill 219 = .ok (.bastore, 1) := by decide +kernel
theorem dX9_fill_220 : decode cX9_fill 220 = .ok (.aload_n 0, 1) := by decide +kernel
theorem dX9_fill_221 : decode cX9_fill 221 = .ok (.getfield 109, 3) := by decide +kernel
theorem dX9_fill_224 : decode cX9_fill 224 = .ok (.iload_n 1, 1) := by decide +kernel
theorem dX9_fill_225 : decode cX9_fill 225 = .ok (.iaload, 1) := by decide +kernel
theorem dX9_fill_226 : decode cX9_fill 226 = .ok (.ineg, 1) := by decide +kernel
theorem dX9_fill_227 : decode cX9_fill 227 = .ok (.istore 10, 2) := by decide +kernel
theorem dX9_fill_229 : decode cX9_fill 229 = .ok (.iload 10, 2) := by decide +kernel
theorem dX9_fill_231 : decode cX9_fill 231 = .ok (.aload_n 0, 1) := by decide +kernel
theorem dX9_fill_232 : decode cX9_fill 232 = .ok (.getfield 106, 3) := by decide +kernel
theorem dX9_fill_235 : decode cX9_fill 235 = .ok (.iload_n 1, 1) := by decide +kernel
theorem dX9_fill_236 : decode cX9_fill 236 = .ok (.iaload, 1) := by decide +kernel
theorem dX9_fill_237 : decode cX9_fill 237 = .ok (.if_icmp .gt 152, 3) := by decide +kernel
theorem dX9_fill_240 : decode cX9_fill 240 = .ok (.aload_n 0, 1) := by decide +kernel
theorem dX9_fill_241 : decode cX9_fill 241 = .ok (.iload_n 1, 1) := by decide +kernel
theorem dX9_fill_242 : decode cX9_fill 242 = .ok (.iload 9, 2) := by decide +kernel
theorem dX9_fill_244 : decode cX9_fill 244 = .ok (.iload 10, 2) := by decide +kernel
theorem dX9_fill_246 : decode cX9_fill 246 = .ok (.aload_n 0, 1) := by decide +kernel
theorem dX9_fill_247 : decode cX9_fill 247 = .ok (.getfield 173, 3) := by decide +kernel
theorem dX9_fill_250 : decode cX9_fill 250 = .ok (.iload 5, 2) := by decide +kernel
theorem dX9_fill_252 : decode cX9_fill 252 = .ok (.iadd, 1) := by decide +kernel
theorem dX9_fill_253 : decode cX9_fill 253 = .ok (.iload 6, 2) := by decide +kernel
theorem dX9_fill_255 : decode cX9_fill 255 = .ok (.invokevirtual 316, 3) := by decide +kernel
theorem dX9_fill_258 : decode cX9_fill 258 = .ok (.ifCond .ne 6, 3) := by decide +kernel
theorem dX9_fill_261 : decode cX9_fill 261 = .ok (.goto 122, 3) := by decide +kernel
theorem dX9_fill_264 : decode cX9_fill 264 = .ok (.bipush 41, 2) := by decide +kernel
theorem dX9_fill_266 : decode cX9_fill 266 = .ok (.iload 5, 2) := by decide +kernel
theorem dX9_fill_268 : decode cX9_fill 268 = .ok (.imul, 1) := by decide +kernel
theorem dX9_fill_269 : decode cX9_fill 269 = .ok (.bipush 41, 2) := by decide +kernel
theorem dX9_fill_271 : decode cX9_fill 271 = .ok (.iadd, 1) := by decide +kernel
theorem dX9_fill_272 : decode cX9_fill 272 = .ok (.aload_n 0, 1) := by decide +kernel
theorem dX9_fill_273 : decode cX9_fill 273 = .ok (.iload_n 1, 1) := by decide +kernel
theorem dX9_fill_274 : decode cX9_fill 274 = .ok (.iload 9, 2) := by decide +kernel
theorem dX9_fill_276 : decode cX9_fill 276 = .ok (.iload 10, 2) := by decide +kernel
theorem dX9_fill_278 : decode cX9_fill 278 = .ok (.iadd, 1) := by decide +kernel
theorem dX9_fill_279 : decode cX9_fill 279 = .ok (.invokevirtual 320, 3) := by decide +kernel
theorem dX9_fill_282 : decode cX9_fill 282 = .ok (.iadd, 1) := by decide +kernel
theorem dX9_fill_283 : decode cX9_fill 283 = .ok (.istore 11, 2) := by decide +kernel
theorem dX9_fill_285 : decode cX9_fill 285 = .ok (.aload_n 0, 1) := by decide +kernel
theorem dX9_fill_286 : decode cX9_fill 286 = .ok (.getfield 121, 3) := by decide +kernel
theorem dX9_fill_289 : decode cX9_fill 289 = .ok (.iload 11, 2) := by decide +kernel
theorem dX9_fill_291 : decode cX9_fill 291 = .ok (.baload, 1) := by decide +kernel
theorem dX9_fill_292 : decode cX9_fill 292 = .ok (.ifCond .eq 91, 3) := by decide +kernel
theorem dX9_fill_295 : decode cX9_fill 295 = .ok (.aload_n 0, 1) := by decide +kernel
theorem dX9_fill_296 : decode cX9_fill 296 = .ok (.getfield 121, 3) := by decide +kernel
theorem dX9_fill_299 : decode cX9_fill 299 = .ok (.bipush 41, 2) := by decide +kernel
theorem dX9_fill_301 : decode cX9_fill 301 = .ok (.iload 5, 2) := by decide +kernel
theorem dX9_fill_303 : decode cX9_fill 303 = .ok (.imul, 1) := by decide +kernel
theorem dX9_fill_304 : decode cX9_fill 304 = .ok (.iload 9, 2) := by decide +kernel
theorem dX9_fill_306 : decode cX9_fill 306 = .ok (.iadd, 1) := by decide +kernel
theorem dX9_fill_307 : decode cX9_fill 307 = .ok (.baload, 1) := by decide +kernel
theorem dX9_fill_308 : decode cX9_fill 308 = .ok (.ifCond .eq 34, 3) := by decide +kernel
theorem dX9_fill_311 : decode cX9_fill 311 = .ok (.aload_n 0, 1) := by decide +kernel
theorem dX9_fill_312 : decode cX9_fill 312 = .ok (.getfield 118, 3) := by decide +kernel
theorem dX9_fill_315 : decode cX9_fill 315 = .ok (.iload 11, 2) := by decide +kernel
theorem dX9_fill_317 : decode cX9_fill 317 = .ok (.laload, 1) := by decide +kernel
theorem dX9_fill_318 : decode cX9_fill 318 = .ok (.iload 10, 2) := by decide +kernel
theorem dX9_fill_320 : decode cX9_fill 320 = .ok (.i2l, 1) := by decide +kernel
theorem dX9_fill_321 : decode cX9_fill 321 = .ok (.lload 7, 2) := by decide +kernel
theorem dX9_fill_323 : decode cX9_fill 323 = .ok (.lmul, 1) := by decide +kernel
theorem dX9_fill_324 : decode cX9_fill 324 = .ok (.ladd, 1) := by decide +kernel
theorem dX9_fill_325 : decode cX9_fill 325 = .ok (.aload_n 0, 1) := by decide +kernel
theorem dX9_fill_326 : decode cX9_fill 326 = .ok (.getfield 118, 3) := by decide +kernel
theorem dX9_fill_329 : decode cX9_fill 329 = .ok (.bipush 41, 2) := by decide +kernel
theorem dX9_fill_331 : decode cX9_fill 331 = .ok (.iload 5, 2) := by decide +kernel
theorem dX9_fill_333 : decode cX9_fill 333 = .ok (.imul, 1) := by decide +kernel
theorem dX9_fill_334 : decode cX9_fill 334 = .ok (.iload 9, 2) := by decide +kernel
theorem dX9_fill_336 : decode cX9_fill 336 = .ok (.iadd, 1) := by decide +kernel
theorem dX9_fill_337 : decode cX9_fill 337 = .ok (.laload, 1) := by decide +kernel
theorem dX9_fill_338 : decode cX9_fill 338 = .ok (.lcmp, 1) := by decide +kernel
theorem dX9_fill_339 : decode cX9_fill 339 = .ok (.ifCond .ge 44, 3) := by decide +kernel
theorem dX9_fill_342 : decode cX9_fill 342 = .ok (.aload_n 0, 1) := by decide +kernel
theorem dX9_fill_343 : decode cX9_fill 343 = .ok (.getfield 121, 3) := by decide +kernel
theorem dX9_fill_346 : decode cX9_fill 346 = .ok (.bipush 41, 2) := by decide +kernel
theorem dX9_fill_348 : decode cX9_fill 348 = .ok (.iload 5, 2) := by decide +kernel
theorem dX9_fill_350 : decode cX9_fill 350 = .ok (.imul, 1) := by decide +kernel
theorem dX9_fill_351 : decode cX9_fill 351 = .ok (.iload 9, 2) := by decide +kernel
theorem dX9_fill_353 : decode cX9_fill 353 = .ok (.iadd, 1) := by decide +kernel
theorem dX9_fill_354 : decode cX9_fill 354 = .ok (.iconst 1, 1) := by decide +kernel
theorem dX9_fill_355 : decode cX9_fill 355 = .ok (.bastore, 1) := by decide +kernel
theorem dX9_fill_356 : decode cX9_fill 356 = .ok (.aload_n 0, 1) := by decide +kernel
theorem dX9_fill_357 : decode cX9_fill 357 = .ok (.getfield 118, 3) := by decide +kernel
theorem dX9_fill_360 : decode cX9_fill 360 = .ok (.bipush 41, 2) := by decide +kernel
theorem dX9_fill_362 : decode cX9_fill 362 = .ok (.iload 5, 2) := by decide +kernel
theorem dX9_fill_364 : decode cX9_fill 364 = .ok (.imul, 1) := by decide +kernel
theorem dX9_fill_365 : decode cX9_fill 365 = .ok (.iload 9, 2) := by decide +kernel
theorem dX9_fill_367 : decode cX9_fill 367 = .ok (.iadd, 1) := by decide +kernel
theorem dX9_fill_368 : decode cX9_fill 368 = .ok (.aload_n 0, 1) := by decide +kernel
theorem dX9_fill_369 : decode cX9_fill 369 = .ok (.getfield 118, 3) := by decide +kernel
theorem dX9_fill_372 : decode cX9_fill 372 = .ok (.iload 11, 2) := by decide +kernel
theorem dX9_fill_374 : decode cX9_fill 374 = .ok (.laload, 1) := by decide +kernel
theorem dX9_fill_375 : decode cX9_fill 375 = .ok (.iload 10, 2) := by decide +kernel
theorem dX9_fill_377 : decode cX9_fill 377 = .ok (.i2l, 1) := by decide +kernel
theorem dX9_fill_378 : decode cX9_fill 378 = .ok (.lload 7, 2) := by decide +kernel
theorem dX9_fill_380 : decode cX9_fill 380 = .ok (.lmul, 1) := by decide +kernel
theorem dX9_fill_381 : decode cX9_fill 381 = .ok (.ladd, 1) := by decide +kernel
theorem dX9_fill_382 : decode cX9_fill 382 = .ok (.lastore, 1) := by decide +kernel
theorem dX9_fill_383 : decode cX9_fill 383 = .ok (.iinc 10 1, 3) := by decide +kernel
theorem dX9_fill_386 : decode cX9_fill 386 = .ok (.goto (-157), 3) := by decide +kernel
theorem dX9_fill_389 : decode cX9_fill 389 = .ok (.iinc 9 1, 3) := by decide +kernel
theorem dX9_fill_392 : decode cX9_fill 392 = .ok (.goto (-193), 3) := by decide +kernel
theorem dX9_fill_395 : decode cX9_fill 395 = .ok (.iinc 5 (-1), 3) := by decide +kernel
theorem dX9_fill_398 : decode cX9_fill 398 = .ok (.goto (-253), 3) := by decide +kernel
theorem dX9_fill_401 : decode cX9_fill 401 = .ok (.aload_n 0, 1) := by decide +kernel
theorem dX9_fill_402 : decode cX9_fill 402 = .ok (.getfield 121, 3) := by decide +kernel
theorem dX9_fill_405 : decode cX9_fill 405 = .ok (.aload_n 0, 1) := by decide +kernel
theorem dX9_fill_406 : decode cX9_fill 406 = .ok (.getfield 103, 3) := by decide +kernel
theorem dX9_fill_409 : decode cX9_fill 409 = .ok (.iload_n 1, 1) := by decide +kernel
theorem dX9_fill_410 : decode cX9_fill 410 = .ok (.iaload, 1) := by decide +kernel
theorem dX9_fill_411 : decode cX9_fill 411 = .ok (.baload, 1) := by decide +kernel
theorem dX9_fill_412 : decode cX9_fill 412 = .ok (.ifCond .ne 13, 3) := by decide +kernel
theorem dX9_fill_415 : decode cX9_fill 415 = .ok (.aload_n 0, 1) := by decide +kernel
theorem dX9_fill_416 : decode cX9_fill 416 = .ok (.bipush (-6), 2) := by decide +kernel
theorem dX9_fill_418 : decode cX9_fill 418 = .ok (.putfield 134, 3) := by decide +kernel
theorem dX9_fill_421 : decode cX9_fill 421 = .ok (.ldc2_w 231, 3) := by decide +kernel
theorem dX9_fill_424 : decode cX9_fill 424 = .ok (.lreturn, 1) := by decide +kernel
theorem dX9_fill_425 : decode cX9_fill 425 = .ok (.aload_n 0, 1) := by decide +kernel
theorem dX9_fill_426 : decode cX9_fill 426 = .ok (.getfield 103, 3) := by decide +kernel
theorem dX9_fill_429 : decode cX9_fill 429 = .ok (.iload_n 1, 1) := by decide +kernel
theorem dX9_fill_430 : decode cX9_fill 430 = .ok (.iaload, 1) := by decide +kernel
theorem dX9_fill_431 : decode cX9_fill 431 = .ok (.istore 5, 2) := by decide +kernel
theorem dX9_fill_433 : decode cX9_fill 433 = .ok (.iconst 0, 1) := by decide +kernel
theorem dX9_fill_434 : decode cX9_fill 434 = .ok (.istore 6, 2) := by decide +kernel
theorem dX9_fill_436 : decode cX9_fill 436 = .ok (.iload 6, 2) := by decide +kernel
theorem dX9_fill_438 : decode cX9_fill 438 = .ok (.iload_n 2, 1) := by decide +kernel
theorem dX9_fill_439 : decode cX9_fill 439 = .ok (.if_icmp .ge 223, 3) := by decide +kernel
theorem dX9_fill_442 : decode cX9_fill 442 = .ok (.aload_n 0, 1) := by decide +kernel
theorem dX9_fill_443 : decode cX9_fill 443 = .ok (.aload_n 0, 1) := by decide +kernel
theorem dX9_fill_444 : decode cX9_fill 444 = .ok (.getfield 97, 3) := by decide +kernel
theorem dX9_fill_447 : decode cX9_fill 447 = .ok (.iload_n 1, 1) := by decide +kernel
theorem dX9_fill_448 : decode cX9_fill 448 = .ok (.iaload, 1) := by decide +kernel
theorem dX9_fill_449 : decode cX9_fill 449 = .ok (.aload_n 0, 1) := by decide +kernel
theorem dX9_fill_450 : decode cX9_fill 450 = .ok (.getfield 173, 3) := by decide +kernel
theorem dX9_fill_453 : decode cX9_fill 453 = .ok (.iload 6, 2) := by decide +kernel
theorem dX9_fill_455 : decode cX9_fill 455 = .ok (.iadd, 1) := by decide +kernel
theorem dX9_fill_456 : decode cX9_fill 456 = .ok (.iconst (-1), 1) := by decide +kernel
theorem dX9_fill_457 : decode cX9_fill 457 = .ok (.invokevirtual 203, 3) := by decide +kernel
theorem dX9_fill_460 : decode cX9_fill 460 = .ok (.istore 7, 2) := by decide +kernel
theorem dX9_fill_462 : decode cX9_fill 462 = .ok (.aload_n 0, 1) := by decide +kernel
theorem dX9_fill_463 : decode cX9_fill 463 = .ok (.aload_n 0, 1) := by decide +kernel
theorem dX9_fill_464 : decode cX9_fill 464 = .ok (.getfield 173, 3) := by decide +kernel
theorem dX9_fill_467 : decode cX9_fill 467 = .ok (.iload 6, 2) := by decide +kernel
theorem dX9_fill_469 : decode cX9_fill 469 = .ok (.iadd, 1) := by decide +kernel
theorem dX9_fill_470 : decode cX9_fill 470 = .ok (.aload_n 0, 1) := by decide +kernel
theorem dX9_fill_471 : decode cX9_fill 471 = .ok (.getfield 173, 3) := by decide +kernel
theorem dX9_fill_474 : decode cX9_fill 474 = .ok (.invokevirtual 176, 3) := by decide +kernel
theorem dX9_fill_477 : decode cX9_fill 477 = .ok (.i2l, 1) := by decide +kernel
theorem dX9_fill_478 : decode cX9_fill 478 = .ok (.aload_n 0, 1) := by decide +kernel
theorem dX9_fill_479 : decode cX9_fill 479 = .ok (.getfield 115, 3) := by decide +kernel
theorem dX9_fill_482 : decode cX9_fill 482 = .ok (.iload_n 1, 1) := by decide +kernel
theorem dX9_fill_483 : decode cX9_fill 483 = .ok (.iaload, 1) := by decide +kernel
theorem dX9_fill_484 : decode cX9_fill 484 = .ok (.i2l, 1) := by decide +kernel
theorem dX9_fill_485 : decode cX9_fill 485 = .ok (.lmul, 1) := by decide +kernel
theorem dX9_fill_486 : decode cX9_fill 486 = .ok (.lstore 8, 2) := by decide +kernel
theorem dX9_fill_488 : decode cX9_fill 488 = .ok (.aload_n 0, 1) := by decide +kernel
theorem dX9_fill_489 : decode cX9_fill 489 = .ok (.getfield 109, 3) := by decide +kernel
theorem dX9_fill_492 : decode cX9_fill 492 = .ok (.iload_n 1, 1) := by decide +kernel
theorem dX9_fill_493 : decode cX9_fill 493 = .ok (.iaload, 1) := by decide +kernel
theorem dX9_fill_494 : decode cX9_fill 494 = .ok (.ineg, 1) := by decide +kernel
theorem dX9_fill_495 : decode cX9_fill 495 = .ok (.istore 10, 2) := by decide +kernel
theorem dX9_fill_497 : decode cX9_fill 497 = .ok (.iconst 0, 1) := by decide +kernel
theorem dX9_fill_498 : decode cX9_fill 498 = .ok (.istore 11, 2) := by decide +kernel
theorem dX9_fill_500 : decode cX9_fill 500 = .ok (.iload 11, 2) := by decide +kernel
theorem dX9_fill_502 : decode cX9_fill 502 = .ok (.ifCond .ne 124, 3) := by decide +kernel
theorem dX9_fill_505 : decode cX9_fill 505 = .ok (.aload_n 0, 1) := by decide +kernel
theorem dX9_fill_506 : decode cX9_fill 506 = .ok (.iload_n 1, 1) := by decide +kernel
theorem dX9_fill_507 : decode cX9_fill 507 = .ok (.iload 5, 2) := by decide +kernel
theorem dX9_fill_509 : decode cX9_fill 509 = .ok (.iload 10, 2) := by decide +kernel
theorem dX9_fill_511 : decode cX9_fill 511 = .ok (.aload_n 0, 1) := by decide +kernel
theorem dX9_fill_512 : decode cX9_fill 512 = .ok (.getfield 173, 3) := by decide +kernel
theorem dX9_fill_515 : decode cX9_fill 515 = .ok (.iload 6, 2) := by decide +kernel
theorem dX9_fill_517 : decode cX9_fill 517 = .ok (.iadd, 1) := by decide +kernel
theorem dX9_fill_518 : decode cX9_fill 518 = .ok (.iload 7, 2) := by decide +kernel
theorem dX9_fill_520 : decode cX9_fill 520 = .ok (.invokevirtual 316, 3) := by decide +kernel
theorem dX9_fill_523 : decode cX9_fill 523 = .ok (.istore 11, 2) := by decide +kernel
theorem dX9_fill_525 : decode cX9_fill 525 = .ok (.iload 11, 2) := by decide +kernel
theorem dX9_fill_527 : decode cX9_fill 527 = .ok (.ifCond .eq 25, 3) := by decide +kernel
theorem dX9_fill_530 : decode cX9_fill 530 = .ok (.bipush 41, 2) := by decide +kernel
theorem dX9_fill_532 : decode cX9_fill 532 = .ok (.iload 6, 2) := by decide +kernel
theorem dX9_fill_534 : decode cX9_fill 534 = .ok (.imul, 1) := by decide +kernel
theorem dX9_fill_535 : decode cX9_fill 535 = .ok (.bipush 41, 2) := by decide +kernel
theorem dX9_fill_537 : decode cX9_fill 537 = .ok (.iadd, 1) := by decide +kernel
theorem dX9_fill_538 : decode cX9_fill 538 = .ok (.aload_n 0, 1) := by decide +kernel
theorem dX9_fill_539 : decode cX9_fill 539 = .ok (.iload_n 1, 1) := by decide +kernel
theorem dX9_fill_540 : decode cX9_fill 540 = .ok (.iload 5, 2) := by decide +kernel
theorem dX9_fill_542 : decode cX9_fill 542 = .ok (.iload 10, 2) := by decide +kernel
theorem dX9_fill_544 : decode cX9_fill 544 = .ok (.iadd, 1) := by decide +kernel
theorem dX9_fill_545 : decode cX9_fill 545 = .ok (.invokevirtual 320, 3) := by decide +kernel
theorem dX9_fill_548 : decode cX9_fill 548 = .ok (.iadd, 1) := by decide +kernel
theorem dX9_fill_549 : decode cX9_fill 549 = .ok (.goto 4, 3) := by decide +kernel
theorem dX9_fill_552 : decode cX9_fill 552 = .ok (.iconst 0, 1) := by decide +kernel
theorem dX9_fill_553 : decode cX9_fill 553 = .ok (.istore 12, 2) := by decide +kernel
theorem dX9_fill_555 : decode cX9_fill 555 = .ok (.iload 11, 2) := by decide +kernel
theorem dX9_fill_557 : decode cX9_fill 557 = .ok (.ifCond .eq 48, 3) := by decide +kernel
theorem dX9_fill_560 : decode cX9_fill 560 = .ok (.aload_n 0, 1) := by decide +kernel
theorem dX9_fill_561 : decode cX9_fill 561 = .ok (.getfield 121, 3) := by decide +kernel
theorem dX9_fill_564 : decode cX9_fill 564 = .ok (.iload 12, 2) := by decide +kernel
theorem dX9_fill_566 : decode cX9_fill 566 = .ok (.baload, 1) := by decide +kernel
theorem dX9_fill_567 : decode cX9_fill 567 = .ok (.ifCond .eq 38, 3) := by decide +kernel
theorem dX9_fill_570 : decode cX9_fill 570 = .ok (.aload_n 0, 1) := by decide +kernel
theorem dX9_fill_571 : decode cX9_fill 571 = .ok (.getfield 118, 3) := by decide +kernel
theorem dX9_fill_574 : decode cX9_fill 574 = .ok (.iload 12, 2) := by decide +kernel
theorem dX9_fill_576 : decode cX9_fill 576 = .ok (.laload, 1) := by decide +kernel
theorem dX9_fill_577 : decode cX9_fill 577 = .ok (.iload 10, 2) := by decide +kernel
theorem dX9_fill_579 : decode cX9_fill 579 = .ok (.i2l, 1) := by decide +kernel
theorem dX9_fill_580 : decode cX9_fill 580 = .ok (.lload 8, 2) := by decide +kernel
theorem dX9_fill_582 : decode cX9_fill 582 = .ok (.lmul, 1) := by decide +kernel
theorem dX9_fill_583 : decode cX9_fill 583 = .ok (.ladd, 1) := by decide +kernel
theorem dX9_fill_584 : decode cX9_fill 584 = .ok (.aload_n 0, 1) := by decide +kernel
theorem dX9_fill_585 : decode cX9_fill 585 = .ok (.getfield 118, 3) := by decide +kernel
theorem dX9_fill_588 : decode cX9_fill 588 = .ok (.bipush 41, 2) := by decide +kernel
theorem dX9_fill_590 : decode cX9_fill 590 = .ok (.iload 6, 2) := by decide +kernel
theorem dX9_fill_592 : decode cX9_fill 592 = .ok (.imul, 1) := by decide +kernel
theorem dX9_fill_593 : decode cX9_fill 593 = .ok (.iload 5, 2) := by decide +kernel
theorem dX9_fill_595 : decode cX9_fill 595 = .ok (.iadd, 1) := by decide +kernel
theorem dX9_fill_596 : decode cX9_fill 596 = .ok (.laload, 1) := by decide +kernel
theorem dX9_fill_597 : decode cX9_fill 597 = .ok (.lcmp, 1) := by decide +kernel
theorem dX9_fill_598 : decode cX9_fill 598 = .ok (.ifCond .ne 7, 3) := by decide +kernel
theorem dX9_fill_601 : decode cX9_fill 601 = .ok (.iconst 1, 1) := by decide +kernel
theorem dX9_fill_602 : decode cX9_fill 602 = .ok (.goto 4, 3) := by decide +kernel
theorem dX9_fill_605 : decode cX9_fill 605 = .ok (.iconst 0, 1) := by decide +kernel
theorem dX9_fill_606 : decode cX9_fill 606 = .ok (.istore 11, 2) := by decide +kernel
theorem dX9_fill_608 : decode cX9_fill 608 = .ok (.iload 10, 2) := by decide +kernel
theorem dX9_fill_610 : decode cX9_fill 610 = .ok (.iload 11, 2) := by decide +kernel
theorem dX9_fill_612 : decode cX9_fill 612 = .ok (.ifCond .eq 7, 3) := by decide +kernel
theorem dX9_fill_615 : decode cX9_fill 615 = .ok (.iconst 0, 1) := by decide +kernel
theorem dX9_fill_616 : decode cX9_fill 616 = .ok (.goto 4, 3) := by decide +kernel
theorem dX9_fill_619 : decode cX9_fill 619 = .ok (.iconst 1, 1) := by decide +kernel
theorem dX9_fill_620 : decode cX9_fill 620 = .ok (.iadd, 1) := by decide +kernel
theorem dX9_fill_621 : decode cX9_fill 621 = .ok (.istore 10, 2) := by decide +kernel
theorem dX9_fill_623 : decode cX9_fill 623 = .ok (.goto (-123), 3) := by decide +kernel
theorem dX9_fill_626 : decode cX9_fill 626 = .ok (.aload_n 0, 1) := by decide +kernel
theorem dX9_fill_627 : decode cX9_fill 627 = .ok (.getfield 125, 3) := by decide +kernel
theorem dX9_fill_630 : decode cX9_fill 630 = .ok (.iload 6, 2) := by decide +kernel
theorem dX9_fill_632 : decode cX9_fill 632 = .ok (.iload 10, 2) := by decide +kernel
theorem dX9_fill_634 : decode cX9_fill 634 = .ok (.iastore, 1) := by decide +kernel
theorem dX9_fill_635 : decode cX9_fill 635 = .ok (.aload_n 0, 1) := by decide +kernel
theorem dX9_fill_636 : decode cX9_fill 636 = .ok (.iload_n 1, 1) := by decide +kernel
theorem dX9_fill_637 : decode cX9_fill 637 = .ok (.iload 5, 2) := by decide +kernel
theorem dX9_fill_639 : decode cX9_fill 639 = .ok (.iload 10, 2) := by decide +kernel
theorem dX9_fill_641 : decode cX9_fill 641 = .ok (.iadd, 1) := by decide +kernel
theorem dX9_fill_642 : decode cX9_fill 642 = .ok (.invokevirtual 320, 3) := by decide +kernel
theorem dX9_fill_645 : decode cX9_fill 645 = .ok (.istore 5, 2) := by decide +kernel
theorem dX9_fill_647 : decode cX9_fill 647 = .ok (.aload_n 0, 1) := by decide +kernel
theorem dX9_fill_648 : decode cX9_fill 648 = .ok (.getfield 128, 3) := by decide +kernel
theorem dX9_fill_651 : decode cX9_fill 651 = .ok (.iload 6, 2) := by decide +kernel
theorem dX9_fill_653 : decode cX9_fill 653 = .ok (.iload 5, 2) := by decide +kernel
theorem dX9_fill_655 : decode cX9_fill 655 = .ok (.iastore, 1) := by decide +kernel
theorem dX9_fill_656 : decode cX9_fill 656 = .ok (.iinc 6 1, 3) := by decide +kernel
theorem dX9_fill_659 : decode cX9_fill 659 = .ok (.goto (-223), 3) := by decide +kernel
theorem dX9_fill_662 : decode cX9_fill 662 = .ok (.aload_n 0, 1) := by decide +kernel
theorem dX9_fill_663 : decode cX9_fill 663 = .ok (.iload_n 2, 1) := by decide +kernel
theorem dX9_fill_664 : decode cX9_fill 664 = .ok (.putfield 323, 3) := by decide +kernel
theorem dX9_fill_667 : decode cX9_fill 667 = .ok (.aload_n 0, 1) := by decide +kernel
theorem dX9_fill_668 : decode cX9_fill 668 = .ok (.iconst 0, 1) := by decide +kernel
theorem dX9_fill_669 : decode cX9_fill 669 = .ok (.putfield 134, 3) := by decide +kernel
theorem dX9_fill_672 : decode cX9_fill 672 = .ok (.aload_n 0, 1) := by decide +kernel
theorem dX9_fill_673 : decode cX9_fill 673 = .ok (.getfield 118, 3) := by decide +kernel
theorem dX9_fill_676 : decode cX9_fill 676 = .ok (.aload_n 0, 1) := by decide +kernel
theorem dX9_fill_677 : decode cX9_fill 677 = .ok (.getfield 103, 3) := by decide +kernel
theorem dX9_fill_680 : decode cX9_fill 680 = .ok (.iload_n 1, 1) := by decide +kernel
theorem dX9_fill_681 : decode cX9_fill 681 = .ok (.iaload, 1) := by decide +kernel
theorem dX9_fill_682 : decode cX9_fill 682 = .ok (.laload, 1) := by decide +kernel
theorem dX9_fill_683 : decode cX9_fill 683 = .ok (.lreturn, 1) := by decide +kernel
theorem dX9_filled_0 : decode cX9_filled 0 = .ok (.aload_n 0, 1) := by decide +kernel
theorem dX9_filled_1 : decode cX9_filled 1 = .ok (.iconst 0, 1) := by decide +kernel
theorem dX9_filled_2 : decode cX9_filled 2 = .ok (.putfield 131, 3) := by decide +kernel
theorem dX9_filled_5 : decode cX9_filled 5 = .ok (.iload_n 1, 1) := by decide +kernel
theorem dX9_filled_6 : decode cX9_filled 6 = .ok (.i2l, 1) := by decide +kernel
theorem dX9_filled_7 : decode cX9_filled 7 = .ok (.lconst 0, 1) := by decide +kernel
theorem dX9_filled_8 : decode cX9_filled 8 = .ok (.aload_n 0, 1) := by decide +kernel
theorem dX9_filled_9 : decode cX9_filled 9 = .ok (.getfield 323, 3) := by decide +kernel
theorem dX9_filled_12 : decode cX9_filled 12 = .ok (.i2l, 1) := by decide +kernel
theorem dX9_filled_13 : decode cX9_filled 13 = .ok (.lconst 1, 1) := by decide +kernel
theorem dX9_filled_14 : decode cX9_filled 14 = .ok (.lsub, 1) := by decide +kernel
theorem dX9_filled_15 : decode cX9_filled 15 = .ok (.invokestatic 139, 3) := by decide +kernel
theorem dX9_filled_18 : decode cX9_filled 18 = .ok (.ifCond .ne 9, 3) := by decide +kernel
theorem dX9_filled_21 : decode cX9_filled 21 = .ok (.sipush (-1000), 3) := by decide +kernel
theorem dX9_filled_24 : decode cX9_filled 24 = .ok (.goto 33, 3) := by decide +kernel
theorem dX9_filled_27 : decode cX9_filled 27 = .ok (.iload_n 2, 1) := by decide +kernel
theorem dX9_filled_28 : decode cX9_filled 28 = .ok (.ifCond .ne 12, 3) := by decide +kernel
theorem dX9_filled_31 : decode cX9_filled 31 = .ok (.aload_n 0, 1) := by decide +kernel
theorem dX9_filled_32 : decode cX9_filled 32 = .ok (.getfield 125, 3) := by decide +kernel
theorem dX9_filled_35 : decode cX9_filled 35 = .ok (.iload_n 1, 1) := by decide +kernel
theorem dX9_filled_36 : decode cX9_filled 36 = .ok (.iaload, 1) := by decide +kernel
theorem dX9_filled_37 : decode cX9_filled 37 = .ok (.goto 20, 3) := by decide +kernel
theorem dX9_filled_40 : decode cX9_filled 40 = .ok (.iload_n 2, 1) := by decide +kernel
theorem dX9_filled_41 : decode cX9_filled 41 = .ok (.iconst 1, 1) := by decide +kernel
theorem dX9_filled_42 : decode cX9_filled 42 = .ok (.if_icmp .ne 12, 3) := by decide +kernel
theorem dX9_filled_45 : decode cX9_filled 45 = .ok (.aload_n 0, 1) := by decide +kernel
theorem dX9_filled_46 : decode cX9_filled 46 = .ok (.getfield 128, 3) := by decide +kernel
theorem dX9_filled_49 : decode cX9_filled 49 = .ok (.iload_n 1, 1) := by decide +kernel
theorem dX9_filled_50 : decode cX9_filled 50 = .ok (.iaload, 1) := by decide +kernel
theorem dX9_filled_51 : decode cX9_filled 51 = .ok (.goto 6, 3) := by decide +kernel
theorem dX9_filled_54 : decode cX9_filled 54 = .ok (.sipush (-1000), 3) := by decide +kernel
theorem dX9_filled_57 : decode cX9_filled 57 = .ok (.ireturn, 1) := by decide +kernel
theorem dX9_jobsThat_0 : decode cX9_jobsThat 0 = .ok (.iconst 0, 1) := by decide +kernel
theorem dX9_jobsThat_1 : decode cX9_jobsThat 1 = .ok (.istore_n 2, 1) := by decide +kernel
theorem dX9_jobsThat_2 : decode cX9_jobsThat 2 = .ok (.iconst 0, 1) := by decide +kernel
theorem dX9_jobsThat_3 : decode cX9_jobsThat 3 = .ok (.istore_n 3, 1) := by decide +kernel
theorem dX9_jobsThat_4 : decode cX9_jobsThat 4 = .ok (.iload_n 3, 1) := by decide +kernel
theorem dX9_jobsThat_5 : decode cX9_jobsThat 5 = .ok (.aload_n 0, 1) := by decide +kernel
theorem dX9_jobsThat_6 : decode cX9_jobsThat 6 = .ok (.getfield 148, 3) := by decide +kernel
theorem dX9_jobsThat_9 : decode cX9_jobsThat 9 = .ok (.if_icmp .ge 27, 3) := by decide +kernel
theorem dX9_jobsThat_12 : decode cX9_jobsThat 12 = .ok (.iload_n 2, 1) := by decide +kernel
theorem dX9_jobsThat_13 : decode cX9_jobsThat 13 = .ok (.aload_n 0, 1) := by decide +kernel
theorem dX9_jobsThat_14 : decode cX9_jobsThat 14 = .ok (.getfield 48, 3) := by decide +kernel
theorem dX9_jobsThat_17 : decode cX9_jobsThat 17 = .ok (.iload_n 3, 1) := by decide +kernel
theorem dX9_jobsThat_18 : decode cX9_jobsThat 18 = .ok (.iaload, 1) := by decide +kernel
theorem dX9_jobsThat_19 : decode cX9_jobsThat 19 = .ok (.iload_n 1, 1) := by decide +kernel
theorem dX9_jobsThat_20 : decode cX9_jobsThat 20 = .ok (.if_icmp .ne 7, 3) := by decide +kernel
theorem dX9_jobsThat_23 : decode cX9_jobsThat 23 = .ok (.iconst 1, 1) := by decide +kernel
theorem dX9_jobsThat_24 : decode cX9_jobsThat 24 = .ok (.goto 4, 3) := by decide +kernel
theorem dX9_jobsThat_27 : decode cX9_jobsThat 27 = .ok (.iconst 0, 1) := by decide +kernel
theorem dX9_jobsThat_28 : decode cX9_jobsThat 28 = .ok (.iadd, 1) := by decide +kernel
theorem dX9_jobsThat_29 : decode cX9_jobsThat 29 = .ok (.istore_n 2, 1) := by decide +kernel
theorem dX9_jobsThat_30 : decode cX9_jobsThat 30 = .ok (.iinc 3 1, 3) := by decide +kernel
theorem dX9_jobsThat_33 : decode cX9_jobsThat 33 = .ok (.goto (-29), 3) := by decide +kernel
theorem dX9_jobsThat_36 : decode cX9_jobsThat 36 = .ok (.iload_n 2, 1) := by decide +kernel
theorem dX9_jobsThat_37 : decode cX9_jobsThat 37 = .ok (.ireturn, 1) := by decide +kernel
theorem dX9_count_0 : decode cX9_count 0 = .ok (.aload_n 0, 1) := by decide +kernel
theorem dX9_count_1 : decode cX9_count 1 = .ok (.iconst 0, 1) := by decide +kernel
theorem dX9_count_2 : decode cX9_count 2 = .ok (.putfield 131, 3) := by decide +kernel
theorem dX9_count_5 : decode cX9_count 5 = .ok (.iload_n 1, 1) := by decide +kernel
theorem dX9_count_6 : decode cX9_count 6 = .ok (.tableswitch 107 0 9 #[54, 59, 64, 69, 74, 79, 84, 89, 95, 101], 54) := by decide +kernel
theorem dX9_count_60 : decode cX9_count 60 = .ok (.aload_n 0, 1) := by decide +kernel
theorem dX9_count_61 : decode cX9_count 61 = .ok (.getfield 173, 3) := by decide +kernel
theorem dX9_count_64 : decode cX9_count 64 = .ok (.ireturn, 1) := by decide +kernel
theorem dX9_count_65 : decode cX9_count 65 = .ok (.aload_n 0, 1) := by decide +kernel
theorem dX9_count_66 : decode cX9_count 66 = .ok (.getfield 145, 3) := by decide +kernel
theorem dX9_count_69 : decode cX9_count 69 = .ok (.ireturn, 1) := by decide +kernel
theorem dX9_count_70 : decode cX9_count 70 = .ok (.aload_n 0, 1) := by decide +kernel
theorem dX9_count_71 : decode cX9_count 71 = .ok (.getfield 148, 3) := by decide +kernel
theorem dX9_count_74 : decode cX9_count 74 = .ok (.ireturn, 1) := by decide +kernel
theorem dX9_count_75 : decode cX9_count 75 = .ok (.aload_n 0, 1) := by decide +kernel
theorem dX9_count_76 : decode cX9_count 76 = .ok (.getfield 166, 3) := by decide +kernel
theorem dX9_count_79 : decode cX9_count 79 = .ok (.ireturn, 1) := by decide +kernel
theorem dX9_count_80 : decode cX9_count 80 = .ok (.aload_n 0, 1) := by decide +kernel
theorem dX9_count_81 : decode cX9_count 81 = .ok (.getfield 207, 3) := by decide +kernel
theorem dX9_count_84 : decode cX9_count 84 = .ok (.ireturn, 1) := by decide +kernel
theorem dX9_count_85 : decode cX9_count 85 = .ok (.aload_n 0, 1) := by decide +kernel
theorem dX9_count_86 : decode cX9_count 86 = .ok (.getfield 306, 3) := by decide +kernel
theorem dX9_count_89 : decode cX9_count 89 = .ok (.ireturn, 1) := by decide +kernel
theorem dX9_count_90 : decode cX9_count 90 = .ok (.aload_n 0, 1) := by decide +kernel
theorem dX9_count_91 : decode cX9_count 91 = .ok (.getfield 243, 3) := by decide +kernel
theorem dX9_count_94 : decode cX9_count 94 = .ok (.ireturn, 1) := by decide +kernel
theorem dX9_count_95 : decode cX9_count 95 = .ok (.aload_n 0, 1) := by decide +kernel
theorem dX9_count_96 : decode cX9_count 96 = .ok (.iconst 0, 1) := by decide +kernel
theorem dX9_count_97 : decode cX9_count 97 = .ok (.invokevirtual 326, 3) := by decide +kernel
theorem dX9_count_100 : decode cX9_count 100 = .ok (.ireturn, 1) := by decide +kernel
theorem dX9_count_101 : decode cX9_count 101 = .ok (.aload_n 0, 1) := by decide +kernel
theorem dX9_count_102 : decode cX9_count 102 = .ok (.iconst 1, 1) := by decide +kernel
theorem dX9_count_103 : decode cX9_count 103 = .ok (.invokevirtual 326, 3) := by decide +kernel
theorem dX9_count_106 : decode cX9_count 106 = .ok (.ireturn, 1) := by decide +kernel
theorem dX9_count_107 : decode cX9_count 107 = .ok (.aload_n 0, 1) := by decide +kernel
theorem dX9_count_108 : decode cX9_count 108 = .ok (.iconst 2, 1) := by decide +kernel
theorem dX9_count_109 : decode cX9_count 109 = .ok (.invokevirtual 326, 3) := by decide +kernel
theorem dX9_count_112 : decode cX9_count 112 = .ok (.ireturn, 1) := by decide +kernel
theorem dX9_count_113 : decode cX9_count 113 = .ok (.iconst (-1), 1) := by decide +kernel
theorem dX9_count_114 : decode cX9_count 114 = .ok (.ireturn, 1) := by decide +kernel
theorem dX9_status_0 : decode cX9_status 0 = .ok (.aload_n 0, 1) := by decide +kernel
theorem dX9_status_1 : decode cX9_status 1 = .ok (.iconst 0, 1) := by decide +kernel
theorem dX9_status_2 : decode cX9_status 2 = .ok (.putfield 131, 3) := by decide +kernel
theorem dX9_status_5 : decode cX9_status 5 = .ok (.aload_n 0, 1) := by decide +kernel
theorem dX9_status_6 : decode cX9_status 6 = .ok (.getfield 134, 3) := by decide +kernel
theorem dX9_status_9 : decode cX9_status 9 = .ok (.ireturn, 1) := by decide +kernel
