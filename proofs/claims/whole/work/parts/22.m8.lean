theorem dX9_isSmall_0 : decode cX9_isSmall 0 = .ok (.iload_n 0, 1) := by decide +kernel
theorem dX9_isSmall_1 : decode cX9_isSmall 1 = .ok (.i2l, 1) := by decide +kernel
theorem dX9_isSmall_2 : decode cX9_isSmall 2 = .ok (.ldc2_w 220, 3) := by decide +kernel
theorem dX9_isSmall_5 : decode cX9_isSmall 5 = .ok (.ldc2_w 222, 3) := by decide +kernel
theorem dX9_isSmall_8 : decode cX9_isSmall 8 = .ok (.invokestatic 43, 3) := by decide +kernel
theorem dX9_isSmall_11 : decode cX9_isSmall 11 = .ok (.ireturn, 1) := by decide +kernel
theorem dX9_isFigure_0 : decode cX9_isFigure 0 = .ok (.iload_n 0, 1) := by decide +kernel
theorem dX9_isFigure_1 : decode cX9_isFigure 1 = .ok (.i2l, 1) := by decide +kernel
theorem dX9_isFigure_2 : decode cX9_isFigure 2 = .ok (.ldc2_w 224, 3) := by decide +kernel
theorem dX9_isFigure_5 : decode cX9_isFigure 5 = .ok (.ldc2_w 226, 3) := by decide +kernel
theorem dX9_isFigure_8 : decode cX9_isFigure 8 = .ok (.invokestatic 43, 3) := by decide +kernel
theorem dX9_isFigure_11 : decode cX9_isFigure 11 = .ok (.ireturn, 1) := by decide +kernel
theorem dX9_lookAt_0 : decode cX9_lookAt 0 = .ok (.aload_n 0, 1) := by decide +kernel
theorem dX9_lookAt_1 : decode cX9_lookAt 1 = .ok (.iload_n 1, 1) := by decide +kernel
theorem dX9_lookAt_2 : decode cX9_lookAt 2 = .ok (.putfield 228, 3) := by decide +kernel
theorem dX9_lookAt_5 : decode cX9_lookAt 5 = .ok (.aload_n 0, 1) := by decide +kernel
theorem dX9_lookAt_6 : decode cX9_lookAt 6 = .ok (.getfield 228, 3) := by decide +kernel
theorem dX9_lookAt_9 : decode cX9_lookAt 9 = .ok (.aload_n 0, 1) := by decide +kernel
theorem dX9_lookAt_10 : decode cX9_lookAt 10 = .ok (.getfield 217, 3) := by decide +kernel
theorem dX9_lookAt_13 : decode cX9_lookAt 13 = .ok (.if_icmp .ge 30, 3) := by decide +kernel
theorem dX9_lookAt_16 : decode cX9_lookAt 16 = .ok (.aload_n 0, 1) := by decide +kernel
theorem dX9_lookAt_17 : decode cX9_lookAt 17 = .ok (.getfield 30, 3) := by decide +kernel
theorem dX9_lookAt_20 : decode cX9_lookAt 20 = .ok (.aload_n 0, 1) := by decide +kernel
theorem dX9_lookAt_21 : decode cX9_lookAt 21 = .ok (.getfield 228, 3) := by decide +kernel
theorem dX9_lookAt_24 : decode cX9_lookAt 24 = .ok (.iaload, 1) := by decide +kernel
theorem dX9_lookAt_25 : decode cX9_lookAt 25 = .ok (.bipush 32, 2) := by decide +kernel
theorem dX9_lookAt_27 : decode cX9_lookAt 27 = .ok (.if_icmp .ne 16, 3) := by decide +kernel
theorem dX9_lookAt_30 : decode cX9_lookAt 30 = .ok (.aload_n 0, 1) := by decide +kernel
theorem dX9_lookAt_31 : decode cX9_lookAt 31 = .ok (.dup, 1) := by decide +kernel
theorem dX9_lookAt_32 : decode cX9_lookAt 32 = .ok (.getfield 228, 3) := by decide +kernel
theorem dX9_lookAt_35 : decode cX9_lookAt 35 = .ok (.iconst 1, 1) := by decide +kernel
theorem dX9_lookAt_36 : decode cX9_lookAt 36 = .ok (.iadd, 1) := by decide +kernel
theorem dX9_lookAt_37 : decode cX9_lookAt 37 = .ok (.putfield 228, 3) := by decide +kernel
theorem dX9_lookAt_40 : decode cX9_lookAt 40 = .ok (.goto (-35), 3) := by decide +kernel
theorem dX9_lookAt_43 : decode cX9_lookAt 43 = .ok (.aload_n 0, 1) := by decide +kernel
theorem dX9_lookAt_44 : decode cX9_lookAt 44 = .ok (.iconst 0, 1) := by decide +kernel
theorem dX9_lookAt_45 : decode cX9_lookAt 45 = .ok (.putfield 231, 3) := by decide +kernel
theorem dX9_lookAt_48 : decode cX9_lookAt 48 = .ok (.aload_n 0, 1) := by decide +kernel
theorem dX9_lookAt_49 : decode cX9_lookAt 49 = .ok (.iconst 0, 1) := by decide +kernel
theorem dX9_lookAt_50 : decode cX9_lookAt 50 = .ok (.putfield 234, 3) := by decide +kernel
theorem dX9_lookAt_53 : decode cX9_lookAt 53 = .ok (.aload_n 0, 1) := by decide +kernel
theorem dX9_lookAt_54 : decode cX9_lookAt 54 = .ok (.iconst 0, 1) := by decide +kernel
theorem dX9_lookAt_55 : decode cX9_lookAt 55 = .ok (.putfield 237, 3) := by decide +kernel
theorem dX9_lookAt_58 : decode cX9_lookAt 58 = .ok (.aload_n 0, 1) := by decide +kernel
theorem dX9_lookAt_59 : decode cX9_lookAt 59 = .ok (.getfield 228, 3) := by decide +kernel
theorem dX9_lookAt_62 : decode cX9_lookAt 62 = .ok (.aload_n 0, 1) := by decide +kernel
theorem dX9_lookAt_63 : decode cX9_lookAt 63 = .ok (.getfield 217, 3) := by decide +kernel
theorem dX9_lookAt_66 : decode cX9_lookAt 66 = .ok (.if_icmp .ne 4, 3) := by decide +kernel
theorem dX9_lookAt_69 : decode cX9_lookAt 69 = .ok (.return_, 1) := by decide +kernel
theorem dX9_lookAt_70 : decode cX9_lookAt 70 = .ok (.aload_n 0, 1) := by decide +kernel
theorem dX9_lookAt_71 : decode cX9_lookAt 71 = .ok (.getfield 30, 3) := by decide +kernel
theorem dX9_lookAt_74 : decode cX9_lookAt 74 = .ok (.aload_n 0, 1) := by decide +kernel
theorem dX9_lookAt_75 : decode cX9_lookAt 75 = .ok (.getfield 228, 3) := by decide +kernel
theorem dX9_lookAt_78 : decode cX9_lookAt 78 = .ok (.iaload, 1) := by decide +kernel
theorem dX9_lookAt_79 : decode cX9_lookAt 79 = .ok (.istore_n 2, 1) := by decide +kernel
theorem dX9_lookAt_80 : decode cX9_lookAt 80 = .ok (.aload_n 0, 1) := by decide +kernel
theorem dX9_lookAt_81 : decode cX9_lookAt 81 = .ok (.iload_n 2, 1) := by decide +kernel
theorem dX9_lookAt_82 : decode cX9_lookAt 82 = .ok (.invokestatic 240, 3) := by decide +kernel
theorem dX9_lookAt_85 : decode cX9_lookAt 85 = .ok (.ifCond .eq 7, 3) := by decide +kernel
theorem dX9_lookAt_88 : decode cX9_lookAt 88 = .ok (.iconst 1, 1) := by decide +kernel
theorem dX9_lookAt_89 : decode cX9_lookAt 89 = .ok (.goto 25, 3) := by decide +kernel
theorem dX9_lookAt_92 : decode cX9_lookAt 92 = .ok (.iload_n 2, 1) := by decide +kernel
theorem dX9_lookAt_93 : decode cX9_lookAt 93 = .ok (.invokestatic 243, 3) := by decide +kernel
theorem dX9_lookAt_96 : decode cX9_lookAt 96 = .ok (.ifCond .eq 7, 3) := by decide +kernel
theorem dX9_lookAt_99 : decode cX9_lookAt 99 = .ok (.iconst 2, 1) := by decide +kernel
theorem dX9_lookAt_100 : decode cX9_lookAt 100 = .ok (.goto 14, 3) := by decide +kernel
theorem dX9_lookAt_103 : decode cX9_lookAt 103 = .ok (.iload_n 2, 1) := by decide +kernel
theorem dX9_lookAt_104 : decode cX9_lookAt 104 = .ok (.bipush 59, 2) := by decide +kernel
theorem dX9_lookAt_106 : decode cX9_lookAt 106 = .ok (.if_icmp .ne 7, 3) := by decide +kernel
theorem dX9_lookAt_109 : decode cX9_lookAt 109 = .ok (.iconst 3, 1) := by decide +kernel
theorem dX9_lookAt_110 : decode cX9_lookAt 110 = .ok (.goto 4, 3) := by decide +kernel
theorem dX9_lookAt_113 : decode cX9_lookAt 113 = .ok (.iconst 4, 1) := by decide +kernel
theorem dX9_lookAt_114 : decode cX9_lookAt 114 = .ok (.putfield 234, 3) := by decide +kernel
theorem dX9_lookAt_117 : decode cX9_lookAt 117 = .ok (.aload_n 0, 1) := by decide +kernel
theorem dX9_lookAt_118 : decode cX9_lookAt 118 = .ok (.iconst 1, 1) := by decide +kernel
theorem dX9_lookAt_119 : decode cX9_lookAt 119 = .ok (.putfield 231, 3) := by decide +kernel
theorem dX9_lookAt_122 : decode cX9_lookAt 122 = .ok (.aload_n 0, 1) := by decide +kernel
theorem dX9_lookAt_123 : decode cX9_lookAt 123 = .ok (.getfield 234, 3) := by decide +kernel
theorem dX9_lookAt_126 : decode cX9_lookAt 126 = .ok (.iconst 3, 1) := by decide +kernel
theorem dX9_lookAt_127 : decode cX9_lookAt 127 = .ok (.if_icmp .ge 7, 3) := by decide +kernel
theorem dX9_lookAt_130 : decode cX9_lookAt 130 = .ok (.iconst 1, 1) := by decide +kernel
theorem dX9_lookAt_131 : decode cX9_lookAt 131 = .ok (.goto 4, 3) := by decide +kernel
theorem dX9_lookAt_134 : decode cX9_lookAt 134 = .ok (.iconst 0, 1) := by decide +kernel
theorem dX9_lookAt_135 : decode cX9_lookAt 135 = .ok (.istore_n 3, 1) := by decide +kernel
theorem dX9_lookAt_136 : decode cX9_lookAt 136 = .ok (.iload_n 3, 1) := by decide +kernel
theorem dX9_lookAt_137 : decode cX9_lookAt 137 = .ok (.ifCond .eq 78, 3) := by decide +kernel
theorem dX9_lookAt_140 : decode cX9_lookAt 140 = .ok (.aload_n 0, 1) := by decide +kernel
theorem dX9_lookAt_141 : decode cX9_lookAt 141 = .ok (.getfield 228, 3) := by decide +kernel
theorem dX9_lookAt_144 : decode cX9_lookAt 144 = .ok (.aload_n 0, 1) := by decide +kernel
theorem dX9_lookAt_145 : decode cX9_lookAt 145 = .ok (.getfield 231, 3) := by decide +kernel
theorem dX9_lookAt_148 : decode cX9_lookAt 148 = .ok (.iadd, 1) := by decide +kernel
theorem dX9_lookAt_149 : decode cX9_lookAt 149 = .ok (.aload_n 0, 1) := by decide +kernel
theorem dX9_lookAt_150 : decode cX9_lookAt 150 = .ok (.getfield 217, 3) := by decide +kernel
theorem dX9_lookAt_153 : decode cX9_lookAt 153 = .ok (.if_icmp .ge 62, 3) := by decide +kernel
theorem dX9_lookAt_156 : decode cX9_lookAt 156 = .ok (.aload_n 0, 1) := by decide +kernel
theorem dX9_lookAt_157 : decode cX9_lookAt 157 = .ok (.getfield 30, 3) := by decide +kernel
theorem dX9_lookAt_160 : decode cX9_lookAt 160 = .ok (.aload_n 0, 1) := by decide +kernel
theorem dX9_lookAt_161 : decode cX9_lookAt 161 = .ok (.getfield 228, 3) := by decide +kernel
theorem dX9_lookAt_164 : decode cX9_lookAt 164 = .ok (.aload_n 0, 1) := by decide +kernel
theorem dX9_lookAt_165 : decode cX9_lookAt 165 = .ok (.getfield 231, 3) := by decide +kernel
theorem dX9_lookAt_168 : decode cX9_lookAt 168 = .ok (.iadd, 1) := by decide +kernel
theorem dX9_lookAt_169 : decode cX9_lookAt 169 = .ok (.iaload, 1) := by decide +kernel
theorem dX9_lookAt_170 : decode cX9_lookAt 170 = .ok (.istore 4, 2) := by decide +kernel
theorem dX9_lookAt_172 : decode cX9_lookAt 172 = .ok (.aload_n 0, 1) := by decide +kernel
theorem dX9_lookAt_173 : decode cX9_lookAt 173 = .ok (.getfield 234, 3) := by decide +kernel
theorem dX9_lookAt_176 : decode cX9_lookAt 176 = .ok (.iconst 1, 1) := by decide +kernel
theorem dX9_lookAt_177 : decode cX9_lookAt 177 = .ok (.if_icmp .ne 11, 3) := by decide +kernel
theorem dX9_lookAt_180 : decode cX9_lookAt 180 = .ok (.iload 4, 2) := by decide +kernel
theorem dX9_lookAt_182 : decode cX9_lookAt 182 = .ok (.invokestatic 240, 3) := by decide +kernel
theorem dX9_lookAt_185 : decode cX9_lookAt 185 = .ok (.goto 8, 3) := by decide +kernel
theorem dX9_lookAt_188 : decode cX9_lookAt 188 = .ok (.iload 4, 2) := by decide +kernel
theorem dX9_lookAt_190 : decode cX9_lookAt 190 = .ok (.invokestatic 243, 3) := by decide +kernel
theorem dX9_lookAt_193 : decode cX9_lookAt 193 = .ok (.istore_n 3, 1) := by decide +kernel
theorem dX9_lookAt_194 : decode cX9_lookAt 194 = .ok (.aload_n 0, 1) := by decide +kernel
theorem dX9_lookAt_195 : decode cX9_lookAt 195 = .ok (.dup, 1) := by decide +kernel
theorem dX9_lookAt_196 : decode cX9_lookAt 196 = .ok (.getfield 231, 3) := by decide +kernel
theorem dX9_lookAt_199 : decode cX9_lookAt 199 = .ok (.iload_n 3, 1) := by decide +kernel
theorem dX9_lookAt_200 : decode cX9_lookAt 200 = .ok (.ifCond .eq 7, 3) := by decide +kernel
theorem dX9_lookAt_203 : decode cX9_lookAt 203 = .ok (.iconst 1, 1) := by decide +kernel
theorem dX9_lookAt_204 : decode cX9_lookAt 204 = .ok (.goto 4, 3) := by decide +kernel
theorem dX9_lookAt_207 : decode cX9_lookAt 207 = .ok (.iconst 0, 1) := by decide +kernel
theorem dX9_lookAt_208 : decode cX9_lookAt 208 = .ok (.iadd, 1) := by decide +kernel
theorem dX9_lookAt_209 : decode cX9_lookAt 209 = .ok (.putfield 231, 3) := by decide +kernel
theorem dX9_lookAt_212 : decode cX9_lookAt 212 = .ok (.goto (-76), 3) := by decide +kernel
theorem dX9_lookAt_215 : decode cX9_lookAt 215 = .ok (.iconst 0, 1) := by decide +kernel
theorem dX9_lookAt_216 : decode cX9_lookAt 216 = .ok (.istore 4, 2) := by decide +kernel
theorem dX9_lookAt_218 : decode cX9_lookAt 218 = .ok (.iload 4, 2) := by decide +kernel
theorem dX9_lookAt_220 : decode cX9_lookAt 220 = .ok (.aload_n 0, 1) := by decide +kernel
theorem dX9_lookAt_221 : decode cX9_lookAt 221 = .ok (.getfield 231, 3) := by decide +kernel
theorem dX9_lookAt_224 : decode cX9_lookAt 224 = .ok (.if_icmp .ge 50, 3) := by decide +kernel
theorem dX9_lookAt_227 : decode cX9_lookAt 227 = .ok (.iload 4, 2) := by decide +kernel
theorem dX9_lookAt_229 : decode cX9_lookAt 229 = .ok (.iconst 2, 1) := by decide +kernel
theorem dX9_lookAt_230 : decode cX9_lookAt 230 = .ok (.if_icmp .ge 44, 3) := by decide +kernel
theorem dX9_lookAt_233 : decode cX9_lookAt 233 = .ok (.aload_n 0, 1) := by decide +kernel
theorem dX9_lookAt_234 : decode cX9_lookAt 234 = .ok (.getfield 234, 3) := by decide +kernel
theorem dX9_lookAt_237 : decode cX9_lookAt 237 = .ok (.iconst 2, 1) := by decide +kernel
theorem dX9_lookAt_238 : decode cX9_lookAt 238 = .ok (.if_icmp .ne 36, 3) := by decide +kernel
theorem dX9_lookAt_241 : decode cX9_lookAt 241 = .ok (.aload_n 0, 1) := by decide +kernel
theorem dX9_lookAt_242 : decode cX9_lookAt 242 = .ok (.bipush 10, 2) := by decide +kernel
theorem dX9_lookAt_244 : decode cX9_lookAt 244 = .ok (.aload_n 0, 1) := by decide +kernel
theorem dX9_lookAt_245 : decode cX9_lookAt 245 = .ok (.getfield 237, 3) := by decide +kernel
theorem dX9_lookAt_248 : decode cX9_lookAt 248 = .ok (.imul, 1) := by decide +kernel
theorem dX9_lookAt_249 : decode cX9_lookAt 249 = .ok (.aload_n 0, 1) := by decide +kernel
theorem dX9_lookAt_250 : decode cX9_lookAt 250 = .ok (.getfield 30, 3) := by decide +kernel
theorem dX9_lookAt_253 : decode cX9_lookAt 253 = .ok (.aload_n 0, 1) := by decide +kernel
theorem dX9_lookAt_254 : decode cX9_lookAt 254 = .ok (.getfield 228, 3) := by decide +kernel
theorem dX9_lookAt_257 : decode cX9_lookAt 257 = .ok (.iload 4, 2) := by decide +kernel
theorem dX9_lookAt_259 : decode cX9_lookAt 259 = .ok (.iadd, 1) := by decide +kernel
theorem dX9_lookAt_260 : decode cX9_lookAt 260 = .ok (.iaload, 1) := by decide +kernel
theorem dX9_lookAt_261 : decode cX9_lookAt 261 = .ok (.iadd, 1) := by decide +kernel
theorem dX9_lookAt_262 : decode cX9_lookAt 262 = .ok (.bipush 48, 2) := by decide +kernel
theorem dX9_lookAt_264 : decode cX9_lookAt 264 = .ok (.isub, 1) := by decide +kernel
theorem dX9_lookAt_265 : decode cX9_lookAt 265 = .ok (.putfield 237, 3) := by decide +kernel
theorem dX9_lookAt_268 : decode cX9_lookAt 268 = .ok (.iinc 4 1, 3) := by decide +kernel
theorem dX9_lookAt_271 : decode cX9_lookAt 271 = .ok (.goto (-53), 3) := by decide +kernel
theorem dX9_lookAt_274 : decode cX9_lookAt 274 = .ok (.aload_n 0, 1) := by decide +kernel
theorem dX9_lookAt_275 : decode cX9_lookAt 275 = .ok (.aload_n 0, 1) := by decide +kernel
theorem dX9_lookAt_276 : decode cX9_lookAt 276 = .ok (.getfield 234, 3) := by decide +kernel
theorem dX9_lookAt_279 : decode cX9_lookAt 279 = .ok (.iconst 2, 1) := by decide +kernel
theorem dX9_lookAt_280 : decode cX9_lookAt 280 = .ok (.if_icmp .ne 15, 3) := by decide +kernel
theorem dX9_lookAt_283 : decode cX9_lookAt 283 = .ok (.aload_n 0, 1) := by decide +kernel
theorem dX9_lookAt_284 : decode cX9_lookAt 284 = .ok (.getfield 231, 3) := by decide +kernel
theorem dX9_lookAt_287 : decode cX9_lookAt 287 = .ok (.iconst 2, 1) := by decide +kernel
theorem dX9_lookAt_288 : decode cX9_lookAt 288 = .ok (.if_icmp .le 7, 3) := by decide +kernel
theorem dX9_lookAt_291 : decode cX9_lookAt 291 = .ok (.iconst 4, 1) := by decide +kernel
theorem dX9_lookAt_292 : decode cX9_lookAt 292 = .ok (.goto 7, 3) := by decide +kernel
theorem dX9_lookAt_295 : decode cX9_lookAt 295 = .ok (.aload_n 0, 1) := by decide +kernel
theorem dX9_lookAt_296 : decode cX9_lookAt 296 = .ok (.getfield 234, 3) := by decide +kernel
theorem dX9_lookAt_299 : decode cX9_lookAt 299 = .ok (.putfield 234, 3) := by decide +kernel
theorem dX9_lookAt_302 : decode cX9_lookAt 302 = .ok (.return_, 1) := by decide +kernel
theorem dX9_goOn_0 : decode cX9_goOn 0 = .ok (.aload_n 0, 1) := by decide +kernel
theorem dX9_goOn_1 : decode cX9_goOn 1 = .ok (.aload_n 0, 1) := by decide +kernel
theorem dX9_goOn_2 : decode cX9_goOn 2 = .ok (.getfield 228, 3) := by decide +kernel
theorem dX9_goOn_5 : decode cX9_goOn 5 = .ok (.aload_n 0, 1) := by decide +kernel
theorem dX9_goOn_6 : decode cX9_goOn 6 = .ok (.getfield 231, 3) := by decide +kernel
theorem dX9_goOn_9 : decode cX9_goOn 9 = .ok (.iadd, 1) := by decide +kernel
theorem dX9_goOn_10 : decode cX9_goOn 10 = .ok (.invokevirtual 246, 3) := by decide +kernel
theorem dX9_goOn_13 : decode cX9_goOn 13 = .ok (.return_, 1) := by decide +kernel
theorem dX9_isCalled_0 : decode cX9_isCalled 0 = .ok (.aload_n 0, 1) := by decide +kernel
theorem dX9_isCalled_1 : decode cX9_isCalled 1 = .ok (.getfield 234, 3) := by decide +kernel
theorem dX9_isCalled_4 : decode cX9_isCalled 4 = .ok (.iconst 1, 1) := by decide +kernel
theorem dX9_isCalled_5 : decode cX9_isCalled 5 = .ok (.if_icmp .ne 15, 3) := by decide +kernel
theorem dX9_isCalled_8 : decode cX9_isCalled 8 = .ok (.aload_n 0, 1) := by decide +kernel
theorem dX9_isCalled_9 : decode cX9_isCalled 9 = .ok (.getfield 231, 3) := by decide +kernel
theorem dX9_isCalled_12 : decode cX9_isCalled 12 = .ok (.iload_n 1, 1) := by decide +kernel
theorem dX9_isCalled_13 : decode cX9_isCalled 13 = .ok (.if_icmp .ne 7, 3) := by decide +kernel
theorem dX9_isCalled_16 : decode cX9_isCalled 16 = .ok (.iconst 1, 1) := by decide +kernel
theorem dX9_isCalled_17 : decode cX9_isCalled 17 = .ok (.goto 4, 3) := by decide +kernel
theorem dX9_isCalled_20 : decode cX9_isCalled 20 = .ok (.iconst 0, 1) := by decide +kernel
theorem dX9_isCalled_21 : decode cX9_isCalled 21 = .ok (.istore 8, 2) := by decide +kernel
theorem dX9_isCalled_23 : decode cX9_isCalled 23 = .ok (.iconst 0, 1) := by decide +kernel
theorem dX9_isCalled_24 : decode cX9_isCalled 24 = .ok (.istore 9, 2) := by decide +kernel
theorem dX9_isCalled_26 : decode cX9_isCalled 26 = .ok (.iload 9, 2) := by decide +kernel
theorem dX9_isCalled_28 : decode cX9_isCalled 28 = .ok (.iload_n 1, 1) := by decide +kernel
theorem dX9_isCalled_29 : decode cX9_isCalled 29 = .ok (.if_icmp .ge 90, 3) := by decide +kernel
theorem dX9_isCalled_32 : decode cX9_isCalled 32 = .ok (.iload 8, 2) := by decide +kernel
theorem dX9_isCalled_34 : decode cX9_isCalled 34 = .ok (.ifCond .eq 85, 3) := by decide +kernel
theorem dX9_isCalled_37 : decode cX9_isCalled 37 = .ok (.aload_n 0, 1) := by decide +kernel
theorem dX9_isCalled_38 : decode cX9_isCalled 38 = .ok (.getfield 30, 3) := by decide +kernel
theorem dX9_isCalled_41 : decode cX9_isCalled 41 = .ok (.aload_n 0, 1) := by decide +kernel
theorem dX9_isCalled_42 : decode cX9_isCalled 42 = .ok (.getfield 228, 3) := by decide +kernel
theorem dX9_isCalled_45 : decode cX9_isCalled 45 = .ok (.iload 9, 2) := by decide +kernel
theorem dX9_isCalled_47 : decode cX9_isCalled 47 = .ok (.iadd, 1) := by decide +kernel
theorem dX9_isCalled_48 : decode cX9_isCalled 48 = .ok (.iaload, 1) := by decide +kernel
theorem dX9_isCalled_49 : decode cX9_isCalled 49 = .ok (.iload 9, 2) := by decide +kernel
theorem dX9_isCalled_51 : decode cX9_isCalled 51 = .ok (.ifCond .ne 7, 3) := by decide +kernel
theorem dX9_isCalled_54 : decode cX9_isCalled 54 = .ok (.iload_n 2, 1) := by decide +kernel
theorem dX9_isCalled_55 : decode cX9_isCalled 55 = .ok (.goto 48, 3) := by decide +kernel
theorem dX9_isCalled_58 : decode cX9_isCalled 58 = .ok (.iload 9, 2) := by decide +kernel
theorem dX9_isCalled_60 : decode cX9_isCalled 60 = .ok (.iconst 1, 1) := by decide +kernel
theorem dX9_isCalled_61 : decode cX9_isCalled 61 = .ok (.if_icmp .ne 7, 3) := by decide +kernel
theorem dX9_isCalled_64 : decode cX9_isCalled 64 = .ok (.iload_n 3, 1) := by decide +kernel
theorem dX9_isCalled_65 : decode cX9_isCalled 65 = .ok (.goto 38, 3) := by decide +kernel
theorem dX9_isCalled_68 : decode cX9_isCalled 68 = .ok (.iload 9, 2) := by decide +kernel
theorem dX9_isCalled_70 : decode cX9_isCalled 70 = .ok (.iconst 2, 1) := by decide +kernel
theorem dX9_isCalled_71 : decode cX9_isCalled 71 = .ok (.if_icmp .ne 8, 3) := by decide +kernel
theorem dX9_isCalled_74 : decode cX9_isCalled 74 = .ok (.iload 4, 2) := by decide +kernel
theorem dX9_isCalled_76 : decode cX9_isCalled 76 = .ok (.goto 27, 3) := by decide +kernel
theorem dX9_isCalled_79 : decode cX9_isCalled 79 = .ok (.iload 9, 2) := by decide +kernel
theorem dX9_isCalled_81 : decode cX9_isCalled 81 = .ok (.iconst 3, 1) := by decide +kernel
theorem dX9_isCalled_82 : decode cX9_isCalled 82 = .ok (.if_icmp .ne 8, 3) := by decide +kernel
theorem dX9_isCalled_85 : decode cX9_isCalled 85 = .ok (.iload 5, 2) := by decide +kernel
theorem dX9_isCalled_87 : decode cX9_isCalled 87 = .ok (.goto 16, 3) := by decide +kernel
theorem dX9_isCalled_90 : decode cX9_isCalled 90 = .ok (.iload 9, 2) := by decide +kernel
theorem dX9_isCalled_92 : decode cX9_isCalled 92 = .ok (.iconst 4, 1) := by decide +kernel
theorem dX9_isCalled_93 : decode cX9_isCalled 93 = .ok (.if_icmp .ne 8, 3) := by decide +kernel
theorem dX9_isCalled_96 : decode cX9_isCalled 96 = .ok (.iload 6, 2) := by decide +kernel
theorem dX9_isCalled_98 : decode cX9_isCalled 98 = .ok (.goto 5, 3) := by decide +kernel
theorem dX9_isCalled_101 : decode cX9_isCalled 101 = .ok (.iload 7, 2) := by decide +kernel
theorem dX9_isCalled_103 : decode cX9_isCalled 103 = .ok (.if_icmp .ne 7, 3) := by decide +kernel
theorem dX9_isCalled_106 : decode cX9_isCalled 106 = .ok (.iconst 1, 1) := by decide +kernel
theorem dX9_isCalled_107 : decode cX9_isCalled 107 = .ok (.goto 4, 3) := by decide +kernel
theorem dX9_isCalled_110 : decode cX9_isCalled 110 = .ok (.iconst 0, 1) := by decide +kernel
theorem dX9_isCalled_111 : decode cX9_isCalled 111 = .ok (.istore 8, 2) := by decide +kernel
theorem dX9_isCalled_113 : decode cX9_isCalled 113 = .ok (.iinc 9 1, 3) := by decide +kernel
theorem dX9_isCalled_116 : decode cX9_isCalled 116 = .ok (.goto (-90), 3) := by decide +kernel
theorem dX9_isCalled_119 : decode cX9_isCalled 119 = .ok (.iload 8, 2) := by decide +kernel
theorem dX9_isCalled_121 : decode cX9_isCalled 121 = .ok (.ireturn, 1) := by decide +kernel
theorem dX9_takes_0 : decode cX9_takes 0 = .ok (.aload_n 0, 1) := by decide +kernel
theorem dX9_takes_1 : decode cX9_takes 1 = .ok (.getfield 234, 3) := by decide +kernel
theorem dX9_takes_4 : decode cX9_takes 4 = .ok (.iconst 2, 1) := by decide +kernel
theorem dX9_takes_5 : decode cX9_takes 5 = .ok (.if_icmp .ne 18, 3) := by decide +kernel
theorem dX9_takes_8 : decode cX9_takes 8 = .ok (.aload_n 0, 1) := by decide +kernel
theorem dX9_takes_9 : decode cX9_takes 9 = .ok (.getfield 237, 3) := by decide +kernel
theorem dX9_takes_12 : decode cX9_takes 12 = .ok (.i2l, 1) := by decide +kernel
theorem dX9_takes_13 : decode cX9_takes 13 = .ok (.iload_n 2, 1) := by decide +kernel
theorem dX9_takes_14 : decode cX9_takes 14 = .ok (.i2l, 1) := by decide +kernel
theorem dX9_takes_15 : decode cX9_takes 15 = .ok (.iload_n 3, 1) := by decide +kernel
theorem dX9_takes_16 : decode cX9_takes 16 = .ok (.i2l, 1) := by decide +kernel
theorem dX9_takes_17 : decode cX9_takes 17 = .ok (.invokestatic 43, 3) := by decide +kernel
theorem dX9_takes_20 : decode cX9_takes 20 = .ok (.ifCond .ne 5, 3) := by decide +kernel
theorem dX9_takes_23 : decode cX9_takes 23 = .ok (.iconst 0, 1) := by decide +kernel
theorem dX9_takes_24 : decode cX9_takes 24 = .ok (.ireturn, 1) := by decide +kernel
theorem dX9_takes_25 : decode cX9_takes 25 = .ok (.aload_n 0, 1) := by decide +kernel
theorem dX9_takes_26 : decode cX9_takes 26 = .ok (.getfield 36, 3) := by decide +kernel
theorem dX9_takes_29 : decode cX9_takes 29 = .ok (.iload_n 1, 1) := by decide +kernel
theorem dX9_takes_30 : decode cX9_takes 30 = .ok (.aload_n 0, 1) := by decide +kernel
theorem dX9_takes_31 : decode cX9_takes 31 = .ok (.getfield 237, 3) := by decide +kernel
theorem dX9_takes_34 : decode cX9_takes 34 = .ok (.iastore, 1) := by decide +kernel
theorem dX9_takes_35 : decode cX9_takes 35 = .ok (.aload_n 0, 1) := by decide +kernel
theorem dX9_takes_36 : decode cX9_takes 36 = .ok (.invokevirtual 249, 3) := by decide +kernel
theorem dX9_takes_39 : decode cX9_takes 39 = .ok (.iconst 1, 1) := by decide +kernel
theorem dX9_takes_40 : decode cX9_takes 40 = .ok (.ireturn, 1) := by decide +kernel
theorem kX9_isSmall : zCS yX9_isSmall cX9_isSmall 1 (some .boolean) 1 := ⟨q5_74, q1_3, q5_75, by decide +kernel, by decide +kernel, by decide +kernel⟩
theorem kX9_isFigure : zCS yX9_isFigure cX9_isFigure 1 (some .boolean) 1 := ⟨q5_79, q1_3, q5_80, by decide +kernel, by decide +kernel, by decide +kernel⟩
theorem kX9_lookAt : zCV yX9_lookAt RX9 cX9_lookAt 5 none 1 := ⟨q5_71, qp38, q1_3, q5_72, rfl, by decide +kernel, by decide +kernel, by decide +kernel⟩
theorem kX9_goOn : zCV yX9_goOn RX9 cX9_goOn 1 none 0 := ⟨q5_89, qp40, q1_3, q5_90, rfl, by decide +kernel, by decide +kernel, by decide +kernel⟩
theorem kX9_isCalled : zCV yX9_isCalled RX9 cX9_isCalled 10 (some .boolean) 7 := ⟨q5_85, qp39, q1_3, q5_86, rfl, by decide +kernel, by decide +kernel, by decide +kernel⟩
theorem kX9_takes : zCV yX9_takes RX9 cX9_takes 4 (some .boolean) 3 := ⟨q5_101, qp43, q1_3, q5_102, rfl, by decide +kernel, by decide +kernel, by decide +kernel⟩
set_option maxHeartbeats 4000000 in
set_option maxRecDepth 100000 in
theorem c_X9_isSmall (l : Launch) (g : zG) (q : Int32) (X : va_W)  : Met l yX9_isSmall (Cond.code yX9_isSmall cX9_isSmall 1 (some .boolean) :: TBL) { frames := 1, cells := 0, slots := 0, locals := 25 } (zPc [.int q] g (X)) (zQi g (fun r ws => r = bI (isSm q) ∧ ws = X)) 0 0 (zA (gz g)) := by
  refine z_start (by decide +kernel) rfl (Nat.le_of_ble_eq_true rfl) ?_
  intro p e s m args below meth c ls hE hr hnm hB hl
  have hl : lv_has ls 1 [(0, .int q)] := hl
  revert hB
  generalize s.heap = H
  generalize ([] : List Loc) = locs
  intro hB
  refine lv_iload_n hE.x hE.b dX9_isSmall_0 rfl (lv_at hl 0 rfl) ?_
  refine lv_i2l hE.x hE.b dX9_isSmall_1 rfl ?_
  refine lv_ldc2 (v := lN 97) hE.x hE.b hE.o (hE.t _ q5_76) dX9_isSmall_2 ?_
  refine lv_ldc2 (v := lN 122) hE.x hE.b hE.o (hE.t _ q5_77) dX9_isSmall_5 ?_
  refine z_qi hB (z_cS hE hB (c_X9_in l g (Int32.toInt64 q) (lN 97) (lN 122) (Int32.toInt q) 97 122 (X) (Int32.toInt_toInt64 _) (by decide) (by decide)) q4_88 kX9_in ⟨rfl, rfl⟩ ⟨Nat.le_of_ble_eq_true rfl, Nat.le_of_ble_eq_true rfl⟩ rfl hl.1 rfl (Nat.le_of_ble_eq_true rfl) dX9_isSmall_8 ⟨Nat.le_of_ble_eq_true rfl, Nat.le_of_ble_eq_true rfl⟩) (fun r_1 w_2 H locs hw hB => ?_)
  obtain ⟨hr9, hw9⟩ := hw
  have hr9 := hr9.symm
  subst hr9
  have hw9 := hw9.symm
  subst hw9
  exact z_bret (b := (inZ 97 122 (Int32.toInt q))) (ws := X) hE hB hr (⟨rfl, rfl⟩) dX9_isSmall_11

set_option maxHeartbeats 4000000 in
set_option maxRecDepth 100000 in
theorem c_X9_isFigure (l : Launch) (g : zG) (q : Int32) (X : va_W)  : Met l yX9_isFigure (Cond.code yX9_isFigure cX9_isFigure 1 (some .boolean) :: TBL) { frames := 1, cells := 0, slots := 0, locals := 25 } (zPc [.int q] g (X)) (zQi g (fun r ws => r = bI (isFg q) ∧ ws = X)) 0 0 (zA (gz g)) := by
  refine z_start (by decide +kernel) rfl (Nat.le_of_ble_eq_true rfl) ?_
  intro p e s m args below meth c ls hE hr hnm hB hl
  have hl : lv_has ls 1 [(0, .int q)] := hl
  revert hB
  generalize s.heap = H
  generalize ([] : List Loc) = locs
  intro hB
  refine lv_iload_n hE.x hE.b dX9_isFigure_0 rfl (lv_at hl 0 rfl) ?_
  refine lv_i2l hE.x hE.b dX9_isFigure_1 rfl ?_
  refine lv_ldc2 (v := lN 48) hE.x hE.b hE.o (hE.t _ q5_81) dX9_isFigure_2 ?_
  refine lv_ldc2 (v := lN 57) hE.x hE.b hE.o (hE.t _ q5_82) dX9_isFigure_5 ?_
  refine z_qi hB (z_cS hE hB (c_X9_in l g (Int32.toInt64 q) (lN 48) (lN 57) (Int32.toInt q) 48 57 (X) (Int32.toInt_toInt64 _) (by decide) (by decide)) q4_88 kX9_in ⟨rfl, rfl⟩ ⟨Nat.le_of_ble_eq_true rfl, Nat.le_of_ble_eq_true rfl⟩ rfl hl.1 rfl (Nat.le_of_ble_eq_true rfl) dX9_isFigure_8 ⟨Nat.le_of_ble_eq_true rfl, Nat.le_of_ble_eq_true rfl⟩) (fun r_1 w_2 H locs hw hB => ?_)
  obtain ⟨hr9, hw9⟩ := hw
  have hr9 := hr9.symm
  subst hr9
  have hw9 := hw9.symm
  subst hw9
  exact z_bret (b := (inZ 48 57 (Int32.toInt q))) (ws := X) hE hB hr (⟨rfl, rfl⟩) dX9_isFigure_11

set_option maxHeartbeats 4000000 in
set_option maxRecDepth 100000 in
theorem c_X9_lookAt (l : Launch) (g : zG) (o : Nat) (a : Nat → Nat) (F : Nat → Int32) (L : Nat → Int64) (A : Nat → Nat → Int32) (X : va_W) (ln : Nat) (pz : Nat) (hln : F 16 = nI ln) (hl150 : ln ≤ 150) (hby : byOK (A 5) ln) (hpz : pz ≤ ln) : Met l yX9_lookAt (Cond.code yX9_lookAt cX9_lookAt 5 none :: TBL) { frames := 2, cells := 0, slots := 0, locals := 45 } (zPc [.ref o, .int (nI pz)] g (mW g o a F L A ++ X)) (zQv g (fun ws => ∃ (F1 : Nat → Int32), ws = mW g o a F1 L A ++ X ∧ tkS F1 (A 5) ln (sk (A 5) ln pz))) 0 0 (zA (gz g)) := by
  refine z_start (by decide +kernel) rfl (Nat.le_of_ble_eq_true rfl) ?_
  intro p e s m args below meth c ls hE hr hnm hB hl
  have hl : lv_has ls 5 [(0, .ref o), (1, .int (nI pz))] := hl
  revert hB
  generalize s.heap = H
  generalize ([] : List Loc) = locs
  intro hB
  refine lv_aload_n hE.x hE.b dX9_lookAt_0 rfl (lv_at hl 0 rfl) ?_
  refine lv_iload_n hE.x hE.b dX9_lookAt_1 rfl (lv_at hl 1 rfl) ?_
  refine z_put (v := .int (nI pz)) (ty := .int) (ws' := mW g o a (upd F 17 (nI pz)) L A ++ X) hE hB inX9 tyX9 tyX9_ok nmX9 0 rfl rfl 17 (by decide) q4_18 (fun _ h9 => h9) rfl (by decide +kernel) rfl rfl (Nat.le_of_ble_eq_true rfl) rfl dX9_lookAt_2 (fun H locs hB => ?_)
  have k43 : ∀ (t : Nat) (H : Heap) (locs : List Loc) (ls : Array Slot), (t ≤ ln) → (sk (A 5) ln pz = t) → zB g s (mW g o a (upd F 17 (nI t)) L A ++ X) H locs → lv_has ls 5 [(0, .ref o), (1, .int (nI pz))] → W p l e { frames := 2, cells := 0, slots := 0, locals := 45 } s m args below meth c H locs 0 0 (MQ below (zQv g (fun ws => ∃ (F1 : Nat → Int32), ws = mW g o a F1 L A ++ X ∧ tkS F1 (A 5) ln (sk (A 5) ln pz))) args s 0 0 (zA (gz g))) (F0 m 43 ls []) := by
    intro t H locs ls htl hsk hB hl
    refine lv_aload_n hE.x hE.b dX9_lookAt_43 rfl (lv_at hl 0 rfl) ?_
    refine lv_iconst (v := nI 0) hE.x hE.b dX9_lookAt_44 rfl ?_
    refine z_put (v := .int (nI 0)) (ty := .int) (ws' := mW g o a (upd (upd F 17 (nI t)) 18 (nI 0)) L A ++ X) hE hB inX9 tyX9 tyX9_ok nmX9 0 rfl rfl 18 (by decide) q4_19 (fun _ h9 => h9) rfl (by decide +kernel) rfl rfl (Nat.le_of_ble_eq_true rfl) rfl dX9_lookAt_45 (fun H locs hB => ?_)
    refine lv_aload_n hE.x hE.b dX9_lookAt_48 rfl (lv_at hl 0 rfl) ?_
    refine lv_iconst (v := nI 0) hE.x hE.b dX9_lookAt_49 rfl ?_
    refine z_put (v := .int (nI 0)) (ty := .int) (ws' := mW g o a (upd (upd (upd F 17 (nI t)) 18 (nI 0)) 19 (nI 0)) L A ++ X) hE hB inX9 tyX9 tyX9_ok nmX9 0 rfl rfl 19 (by decide) q4_20 (fun _ h9 => h9) rfl (by decide +kernel) rfl rfl (Nat.le_of_ble_eq_true rfl) rfl dX9_lookAt_50 (fun H locs hB => ?_)
    refine lv_aload_n hE.x hE.b dX9_lookAt_53 rfl (lv_at hl 0 rfl) ?_
    refine lv_iconst (v := nI 0) hE.x hE.b dX9_lookAt_54 rfl ?_
    refine z_put (v := .int (nI 0)) (ty := .int) (ws' := mW g o a (upd (upd (upd (upd F 17 (nI t)) 18 (nI 0)) 19 (nI 0)) 20 (nI 0)) L A ++ X) hE hB inX9 tyX9 tyX9_ok nmX9 0 rfl rfl 20 (by decide) q4_21 (fun _ h9 => h9) rfl (by decide +kernel) rfl rfl (Nat.le_of_ble_eq_true rfl) rfl dX9_lookAt_55 (fun H locs hB => ?_)
    refine lv_aload_n hE.x hE.b dX9_lookAt_58 rfl (lv_at hl 0 rfl) ?_
    refine z_get (v := .int (nI t)) hE hB inX9 0 rfl rfl 17 (by decide) q4_18 (fun _ h9 => h9) rfl dX9_lookAt_59 ?_
    refine lv_aload_n hE.x hE.b dX9_lookAt_62 rfl (lv_at hl 0 rfl) ?_
    refine z_get (v := .int (F 16)) hE hB inX9 0 rfl rfl 16 (by decide) q4_17 (fun _ h9 => h9) rfl dX9_lookAt_63 ?_
    refine z_top (y := (nI ln)) hln ?_
    refine z_ne (tgt := 70) (X := ((t : Nat) : Int)) (Y := ((ln : Nat) : Int)) hE dX9_lookAt_66 (by decide) (nI_toInt (n := t) (by omega)) (nI_toInt (n := ln) (by omega)) (fun c_1 => ?_) (fun c_1 => ?_)
    · have htn : t < ln := by omega
      refine lv_aload_n hE.x hE.b dX9_lookAt_70 rfl (lv_at hl 0 rfl) ?_
      refine z_get (v := .ref (a 5)) hE hB inX9 0 rfl rfl 15 (by decide) q4_16 (fun _ h9 => h9) rfl dX9_lookAt_71 ?_
      refine lv_aload_n hE.x hE.b dX9_lookAt_74 rfl (lv_at hl 0 rfl) ?_
      refine z_get (v := .int (nI t)) hE hB inX9 0 rfl rfl 17 (by decide) q4_18 (fun _ h9 => h9) rfl dX9_lookAt_75 ?_
      refine z_iald (k := t) (f := (A 5)) hE hB 6 rfl (by omega) (by decide) dX9_lookAt_78 ?_
      refine lv_istore_n (lv' := [(2, .int ((A 5) t)), (0, .ref o), (1, .int (nI pz))]) hE.x hE.b dX9_lookAt_79 rfl hl (by decide) rfl (fun ls hl => ?_)
      have k114 : ∀ (k : Nat) (H : Heap) (locs : List Loc) (ls : Array Slot), (k = k0 (A 5) t) → zB g s (mW g o a (upd (upd (upd (upd F 17 (nI t)) 18 (nI 0)) 19 (nI 0)) 20 (nI 0)) L A ++ X) H locs → lv_has ls 5 [(2, .int ((A 5) t)), (0, .ref o), (1, .int (nI pz))] → W p l e { frames := 2, cells := 0, slots := 0, locals := 45 } s m args below meth c H locs 0 0 (MQ below (zQv g (fun ws => ∃ (F1 : Nat → Int32), ws = mW g o a F1 L A ++ X ∧ tkS F1 (A 5) ln (sk (A 5) ln pz))) args s 0 0 (zA (gz g))) (F0 m 114 ls [.int (nI k), .ref o]) := by
        intro k H locs ls hk hB hl
        have hk4 := k0_le (b := A 5) (q := t)
        refine z_put (v := .int (nI k)) (ty := .int) (ws' := mW g o a (upd (upd (upd (upd F 17 (nI t)) 18 (nI 0)) 19 (nI k)) 20 (nI 0)) L A ++ X) hE hB inX9 tyX9 tyX9_ok nmX9 0 rfl rfl 19 (by decide) q4_20 (fun _ h9 => h9) rfl (by decide +kernel) rfl rfl (Nat.le_of_ble_eq_true rfl) rfl dX9_lookAt_114 (fun H locs hB => ?_)
        have k215 : ∀ (j : Nat) (H : Heap) (locs : List Loc) (ls : Array Slot), (1 ≤ j) → (t + j ≤ ln) → (le (A 5) ln t = j) → zB g s (mW g o a (upd (upd (upd (upd F 17 (nI t)) 18 (nI j)) 19 (nI k)) 20 (nI 0)) L A ++ X) H locs → lv_has ls 5 [(2, .int ((A 5) t)), (0, .ref o), (1, .int (nI pz))] → W p l e { frames := 2, cells := 0, slots := 0, locals := 45 } s m args below meth c H locs 0 0 (MQ below (zQv g (fun ws => ∃ (F1 : Nat → Int32), ws = mW g o a F1 L A ++ X ∧ tkS F1 (A 5) ln (sk (A 5) ln pz))) args s 0 0 (zA (gz g))) (F0 m 215 ls []) := by
          intro j H locs ls hj1 hjl hle hB hl
          have k274 : ∀ (v : Nat) (H : Heap) (locs : List Loc) (ls : Array Slot), (v = vl (A 5) ln t) → zB g s (mW g o a (upd (upd (upd (upd F 17 (nI t)) 18 (nI j)) 19 (nI k)) 20 (nI v)) L A ++ X) H locs → lv_has ls 5 [(2, .int ((A 5) t)), (0, .ref o), (1, .int (nI pz))] → W p l e { frames := 2, cells := 0, slots := 0, locals := 45 } s m args below meth c H locs 0 0 (MQ below (zQv g (fun ws => ∃ (F1 : Nat → Int32), ws = mW g o a F1 L A ++ X ∧ tkS F1 (A 5) ln (sk (A 5) ln pz))) args s 0 0 (zA (gz g))) (F0 m 274 ls []) := by
            intro v H locs ls hv hB hl
            refine lv_aload_n hE.x hE.b dX9_lookAt_274 rfl (lv_at hl 1 rfl) ?_
            refine lv_aload_n hE.x hE.b dX9_lookAt_275 rfl (lv_at hl 1 rfl) ?_
            refine z_get (v := .int (nI k)) hE hB inX9 0 rfl rfl 19 (by decide) q4_20 (fun _ h9 => h9) rfl dX9_lookAt_276 ?_
            refine lv_iconst (v := nI 2) hE.x hE.b dX9_lookAt_279 rfl ?_
            refine z_ne (tgt := 295) (X := ((k : Nat) : Int)) (Y := (2 : Int)) hE dX9_lookAt_280 (by decide) (nI_toInt (n := k) (by omega)) rfl (fun c_2 => ?_) (fun c_2 => ?_)
            · refine lv_aload_n hE.x hE.b dX9_lookAt_295 rfl (lv_at hl 1 rfl) ?_
              refine z_get (v := .int (nI k)) hE hB inX9 0 rfl rfl 19 (by decide) q4_20 (fun _ h9 => h9) rfl dX9_lookAt_296 ?_
              refine z_put (v := .int (nI k)) (ty := .int) (ws' := mW g o a (upd (upd (upd (upd F 17 (nI t)) 18 (nI j)) 19 (nI k)) 20 (nI v)) L A ++ X) hE hB inX9 tyX9 tyX9_ok nmX9 0 rfl rfl 19 (by decide) q4_20 (fun _ h9 => h9) rfl (by decide +kernel) rfl rfl (Nat.le_of_ble_eq_true rfl) rfl dX9_lookAt_299 (fun H locs hB => ?_)
              exact z_vret (ws := mW g o a (upd (upd (upd (upd F 17 (nI t)) 18 (nI j)) 19 (nI k)) 20 (nI v)) L A ++ X) hE hB hr (⟨(upd (upd (upd (upd F 17 (nI t)) 18 (nI j)) 19 (nI k)) 20 (nI v)), rfl, by rw [hsk]; exact ⟨rfl, by rw [hle]; rfl, by rw [kd_k htn hk hle (by omega)]; rfl, by rw [← hv]; rfl, hln⟩⟩) dX9_lookAt_302
            · refine lv_aload_n hE.x hE.b dX9_lookAt_283 rfl (lv_at hl 1 rfl) ?_
              refine z_get (v := .int (nI j)) hE hB inX9 0 rfl rfl 18 (by decide) q4_19 (fun _ h9 => h9) rfl dX9_lookAt_284 ?_
              refine lv_iconst (v := nI 2) hE.x hE.b dX9_lookAt_287 rfl ?_
              refine z_le (tgt := 295) (X := ((j : Nat) : Int)) (Y := (2 : Int)) hE dX9_lookAt_288 (by decide) (nI_toInt (n := j) (by omega)) rfl (fun c_3 => ?_) (fun c_3 => ?_)
              · refine lv_aload_n hE.x hE.b dX9_lookAt_295 rfl (lv_at hl 1 rfl) ?_
                refine z_get (v := .int (nI k)) hE hB inX9 0 rfl rfl 19 (by decide) q4_20 (fun _ h9 => h9) rfl dX9_lookAt_296 ?_
                refine z_put (v := .int (nI k)) (ty := .int) (ws' := mW g o a (upd (upd (upd (upd F 17 (nI t)) 18 (nI j)) 19 (nI k)) 20 (nI v)) L A ++ X) hE hB inX9 tyX9 tyX9_ok nmX9 0 rfl rfl 19 (by decide) q4_20 (fun _ h9 => h9) rfl (by decide +kernel) rfl rfl (Nat.le_of_ble_eq_true rfl) rfl dX9_lookAt_299 (fun H locs hB => ?_)
                exact z_vret (ws := mW g o a (upd (upd (upd (upd F 17 (nI t)) 18 (nI j)) 19 (nI k)) 20 (nI v)) L A ++ X) hE hB hr (⟨(upd (upd (upd (upd F 17 (nI t)) 18 (nI j)) 19 (nI k)) 20 (nI v)), rfl, by rw [hsk]; exact ⟨rfl, by rw [hle]; rfl, by rw [kd_k htn hk hle (by omega)]; rfl, by rw [← hv]; rfl, hln⟩⟩) dX9_lookAt_302
              · refine lv_iconst (v := nI 4) hE.x hE.b dX9_lookAt_291 rfl ?_
                refine lv_goto (tgt := 299) hE.x hE.b dX9_lookAt_292 (by decide) ?_
                refine z_put (v := .int (nI 4)) (ty := .int) (ws' := mW g o a (upd (upd (upd (upd F 17 (nI t)) 18 (nI j)) 19 (nI 4)) 20 (nI v)) L A ++ X) hE hB inX9 tyX9 tyX9_ok nmX9 0 rfl rfl 19 (by decide) q4_20 (fun _ h9 => h9) rfl (by decide +kernel) rfl rfl (Nat.le_of_ble_eq_true rfl) rfl dX9_lookAt_299 (fun H locs hB => ?_)
                exact z_vret (ws := mW g o a (upd (upd (upd (upd F 17 (nI t)) 18 (nI j)) 19 (nI 4)) 20 (nI v)) L A ++ X) hE hB hr (⟨(upd (upd (upd (upd F 17 (nI t)) 18 (nI j)) 19 (nI 4)) 20 (nI v)), rfl, by rw [hsk]; exact ⟨rfl, by rw [hle]; rfl, by rw [kd_4 htn hk hle (by omega) (by omega)]; rfl, by rw [← hv]; rfl, hln⟩⟩) dX9_lookAt_302
          have k218 : ∀ (fu : Nat) (i : Nat) (v : Nat) (H : Heap) (locs : List Loc) (ls : Array Slot), 2 - i < fu → (i ≤ j) → (i ≤ 2) → (v = if k = 2 then vlF (A 5) t i else 0) → zB g s (mW g o a (upd (upd (upd (upd F 17 (nI t)) 18 (nI j)) 19 (nI k)) 20 (nI v)) L A ++ X) H locs → lv_has ls 5 [(2, .int ((A 5) t)), (0, .ref o), (1, .int (nI pz)), (4, .int (nI i))] → W p l e { frames := 2, cells := 0, slots := 0, locals := 45 } s m args below meth c H locs 0 0 (MQ below (zQv g (fun ws => ∃ (F1 : Nat → Int32), ws = mW g o a F1 L A ++ X ∧ tkS F1 (A 5) ln (sk (A 5) ln pz))) args s 0 0 (zA (gz g))) (F0 m 218 ls []) := by
            intro fu
            induction fu with
            | zero => intro i v H locs ls hfu hij hi2 hv hB hl; exact absurd hfu (Nat.not_lt_zero _)
            | succ fu ih218 =>
              intro i v H locs ls hfu hij hi2 hv hB hl
              refine lv_iload hE.x hE.b dX9_lookAt_218 (lv_at hl 3 rfl) ?_
              refine lv_aload_n hE.x hE.b dX9_lookAt_220 rfl (lv_at hl 1 rfl) ?_
              refine z_get (v := .int (nI j)) hE hB inX9 0 rfl rfl 18 (by decide) q4_19 (fun _ h9 => h9) rfl dX9_lookAt_221 ?_
              refine z_ge (tgt := 274) (X := ((i : Nat) : Int)) (Y := ((j : Nat) : Int)) hE dX9_lookAt_224 (by decide) (nI_toInt (n := i) (by omega)) (nI_toInt (n := j) (by omega)) (fun c_4 => ?_) (fun c_4 => ?_)
              · exact k274 v _ _ _ (vl_1 htn hk hle hv hi2 hij (by omega)) hB (lv_sub hl [0, 1, 2] rfl)
              · refine lv_iload hE.x hE.b dX9_lookAt_227 (lv_at hl 3 rfl) ?_
                refine lv_iconst (v := nI 2) hE.x hE.b dX9_lookAt_229 rfl ?_
                refine z_ge (tgt := 274) (X := ((i : Nat) : Int)) (Y := (2 : Int)) hE dX9_lookAt_230 (by decide) (nI_toInt (n := i) (by omega)) rfl (fun c_5 => ?_) (fun c_5 => ?_)
                · exact k274 v _ _ _ (vl_1 htn hk hle hv hi2 hij (by omega)) hB (lv_sub hl [0, 1, 2] rfl)
                · refine lv_aload_n hE.x hE.b dX9_lookAt_233 rfl (lv_at hl 1 rfl) ?_
                  refine z_get (v := .int (nI k)) hE hB inX9 0 rfl rfl 19 (by decide) q4_20 (fun _ h9 => h9) rfl dX9_lookAt_234 ?_
                  refine lv_iconst (v := nI 2) hE.x hE.b dX9_lookAt_237 rfl ?_
                  refine z_ne (tgt := 274) (X := ((k : Nat) : Int)) (Y := (2 : Int)) hE dX9_lookAt_238 (by decide) (nI_toInt (n := k) (by omega)) rfl (fun c_6 => ?_) (fun c_6 => ?_)
                  · exact k274 v _ _ _ (vl_1 htn hk hle hv hi2 hij (by omega)) hB (lv_sub hl [0, 1, 2] rfl)
                  · have hr2 : j = rn isFg (A 5) ln t := by rw [← hle]; exact le_f htn (by omega)
                    have hfg := isFg_rc (rn_at (P := isFg) (b := A 5) (ln := ln) (k := i) (p := t) (by omega)).1
                    have hv9 : v ≤ 99 := by rw [hv, if_pos (by omega)]; exact vlF_le (b := A 5) (ln := ln) (q := t) i hi2 (by rw [← hr2]; exact hij)
                    refine lv_aload_n hE.x hE.b dX9_lookAt_241 rfl (lv_at hl 1 rfl) ?_
                    refine lv_bipush (v := (nI 10)) hE.x hE.b dX9_lookAt_242 rfl ?_
                    refine lv_aload_n hE.x hE.b dX9_lookAt_244 rfl (lv_at hl 1 rfl) ?_
                    refine z_get (v := .int (nI v)) hE hB inX9 0 rfl rfl 20 (by decide) q4_21 (fun _ h9 => h9) rfl dX9_lookAt_245 ?_
                    refine z_imulN hE dX9_lookAt_248 ?_
                    refine lv_aload_n hE.x hE.b dX9_lookAt_249 rfl (lv_at hl 1 rfl) ?_
                    refine z_get (v := .ref (a 5)) hE hB inX9 0 rfl rfl 15 (by decide) q4_16 (fun _ h9 => h9) rfl dX9_lookAt_250 ?_
                    refine lv_aload_n hE.x hE.b dX9_lookAt_253 rfl (lv_at hl 1 rfl) ?_
                    refine z_get (v := .int (nI t)) hE hB inX9 0 rfl rfl 17 (by decide) q4_18 (fun _ h9 => h9) rfl dX9_lookAt_254 ?_
                    refine lv_iload hE.x hE.b dX9_lookAt_257 (lv_at hl 3 rfl) ?_
                    refine z_iaddN hE dX9_lookAt_259 ?_
                    refine z_iald (k := (t + i)) (f := (A 5)) hE hB 6 rfl (by omega) (by decide) dX9_lookAt_260 ?_
                    refine z_top (y := (nI (rc (A 5 (t + i))))) (hby.c (by omega)).1 ?_
                    refine z_iaddN hE dX9_lookAt_261 ?_
                    refine lv_bipush (v := (nI 48)) hE.x hE.b dX9_lookAt_262 rfl ?_
                    refine z_isubN hE (by omega) dX9_lookAt_264 ?_
                    refine z_put (v := .int (nI (((10 * v) + (rc (A 5 (t + i)))) - 48))) (ty := .int) (ws' := mW g o a (upd (upd (upd (upd F 17 (nI t)) 18 (nI j)) 19 (nI k)) 20 (nI (((10 * v) + (rc (A 5 (t + i)))) - 48))) L A ++ X) hE hB inX9 tyX9 tyX9_ok nmX9 0 rfl rfl 20 (by decide) q4_21 (fun _ h9 => h9) rfl (by decide +kernel) rfl rfl (Nat.le_of_ble_eq_true rfl) rfl dX9_lookAt_265 (fun H locs hB => ?_)
                    refine lv_iinc (v := (nI (i + 1))) (lv' := [(4, .int (nI (i + 1))), (2, .int ((A 5) t)), (0, .ref o), (1, .int (nI pz))]) hE.x hE.b dX9_lookAt_268 hl (k := 3) rfl (nI_add _ _) (by decide) rfl (fun ls hl => ?_)
                    refine lv_goto (tgt := 218) hE.x hE.b dX9_lookAt_271 (by decide) ?_
                    exact ih218 (i + 1) (((10 * v) + (rc (A 5 (t + i)))) - 48) _ _ _ (by omega) (by omega) (by omega) (by rw [if_pos (by omega)]; rw [if_pos (by omega)] at hv; rw [hv]; rfl) hB (lv_sub hl [1, 2, 3, 0] rfl)
          refine lv_iconst (v := nI 0) hE.x hE.b dX9_lookAt_215 rfl ?_
          refine lv_istore (lv' := [(4, .int (nI 0)), (2, .int ((A 5) t)), (0, .ref o), (1, .int (nI pz))]) hE.x hE.b dX9_lookAt_216 hl (by decide) rfl (fun ls hl => ?_)
          exact k218 (2 - 0 + 1) 0 0 _ _ _ (Nat.lt_succ_self _) (by omega) (by omega) (by split <;> rfl) hB (lv_sub hl [1, 2, 3, 0] rfl)
        have k136 : ∀ (fu : Nat) (j : Nat) (mr : Bool) (H : Heap) (locs : List Loc) (ls : Array Slot), ln - (t + j) + mr.toNat < fu → (1 ≤ j) → (t + j ≤ ln) → (mr = true → (k = 1 ∧ le (A 5) ln t = j + rn isSm (A 5) ln (t + j)) ∨ (k = 2 ∧ le (A 5) ln t = j + rn isFg (A 5) ln (t + j))) → (mr = false → le (A 5) ln t = j) → zB g s (mW g o a (upd (upd (upd (upd F 17 (nI t)) 18 (nI j)) 19 (nI k)) 20 (nI 0)) L A ++ X) H locs → lv_has ls 5 [(2, .int ((A 5) t)), (0, .ref o), (1, .int (nI pz)), (3, .int (bI mr))] → W p l e { frames := 2, cells := 0, slots := 0, locals := 45 } s m args below meth c H locs 0 0 (MQ below (zQv g (fun ws => ∃ (F1 : Nat → Int32), ws = mW g o a F1 L A ++ X ∧ tkS F1 (A 5) ln (sk (A 5) ln pz))) args s 0 0 (zA (gz g))) (F0 m 136 ls []) := by
          intro fu
          induction fu with
          | zero => intro j mr H locs ls hfu hj1 hjl hmt hmf hB hl; exact absurd hfu (Nat.not_lt_zero _)
          | succ fu ih136 =>
            intro j mr H locs ls hfu hj1 hjl hmt hmf hB hl
            refine lv_iload_n hE.x hE.b dX9_lookAt_136 rfl (lv_at hl 3 rfl) ?_
            refine z_bf (b := mr) (tgt := 215) hE dX9_lookAt_137 (by decide) (fun c_7 => ?_) (fun c_7 => ?_)
            · exact k215 j _ _ _ (by omega) (by omega) (hmf c_7) hB (lv_sub hl [0, 1, 2] rfl)
            · refine lv_aload_n hE.x hE.b dX9_lookAt_140 rfl (lv_at hl 1 rfl) ?_
              refine z_get (v := .int (nI t)) hE hB inX9 0 rfl rfl 17 (by decide) q4_18 (fun _ h9 => h9) rfl dX9_lookAt_141 ?_
              refine lv_aload_n hE.x hE.b dX9_lookAt_144 rfl (lv_at hl 1 rfl) ?_
              refine z_get (v := .int (nI j)) hE hB inX9 0 rfl rfl 18 (by decide) q4_19 (fun _ h9 => h9) rfl dX9_lookAt_145 ?_
              refine z_iaddN hE dX9_lookAt_148 ?_
              refine lv_aload_n hE.x hE.b dX9_lookAt_149 rfl (lv_at hl 1 rfl) ?_
              refine z_get (v := .int (F 16)) hE hB inX9 0 rfl rfl 16 (by decide) q4_17 (fun _ h9 => h9) rfl dX9_lookAt_150 ?_
              refine z_top (y := (nI ln)) hln ?_
              refine z_ge (tgt := 215) (X := (((t + j) : Nat) : Int)) (Y := ((ln : Nat) : Int)) hE dX9_lookAt_153 (by decide) (nI_toInt (n := (t + j)) (by omega)) (nI_toInt (n := ln) (by omega)) (fun c_8 => ?_) (fun c_8 => ?_)
              · exact k215 j _ _ _ (by omega) (by omega) (le_4 (hmt c_7) (by omega)) hB (lv_sub hl [0, 1, 2] rfl)
              · refine lv_aload_n hE.x hE.b dX9_lookAt_156 rfl (lv_at hl 1 rfl) ?_
                refine z_get (v := .ref (a 5)) hE hB inX9 0 rfl rfl 15 (by decide) q4_16 (fun _ h9 => h9) rfl dX9_lookAt_157 ?_
                refine lv_aload_n hE.x hE.b dX9_lookAt_160 rfl (lv_at hl 1 rfl) ?_
                refine z_get (v := .int (nI t)) hE hB inX9 0 rfl rfl 17 (by decide) q4_18 (fun _ h9 => h9) rfl dX9_lookAt_161 ?_
                refine lv_aload_n hE.x hE.b dX9_lookAt_164 rfl (lv_at hl 1 rfl) ?_
                refine z_get (v := .int (nI j)) hE hB inX9 0 rfl rfl 18 (by decide) q4_19 (fun _ h9 => h9) rfl dX9_lookAt_165 ?_
                refine z_iaddN hE dX9_lookAt_168 ?_
                refine z_iald (k := (t + j)) (f := (A 5)) hE hB 6 rfl (by omega) (by decide) dX9_lookAt_169 ?_
                refine lv_istore (lv' := [(4, .int ((A 5) (t + j))), (2, .int ((A 5) t)), (0, .ref o), (1, .int (nI pz)), (3, .int (bI mr))]) hE.x hE.b dX9_lookAt_170 hl (by decide) rfl (fun ls hl => ?_)
                refine lv_aload_n hE.x hE.b dX9_lookAt_172 rfl (lv_at hl 2 rfl) ?_
                refine z_get (v := .int (nI k)) hE hB inX9 0 rfl rfl 19 (by decide) q4_20 (fun _ h9 => h9) rfl dX9_lookAt_173 ?_
                refine lv_iconst (v := nI 1) hE.x hE.b dX9_lookAt_176 rfl ?_
                refine z_ne (tgt := 188) (X := ((k : Nat) : Int)) (Y := (1 : Int)) hE dX9_lookAt_177 (by decide) (nI_toInt (n := k) (by omega)) rfl (fun c_9 => ?_) (fun c_9 => ?_)
                · refine lv_iload hE.x hE.b dX9_lookAt_188 (lv_at hl 0 rfl) ?_
                  refine z_qi hB (z_cS hE hB (c_X9_isFigure l g ((A 5) (t + j)) (mW g o a (upd (upd (upd (upd F 17 (nI t)) 18 (nI j)) 19 (nI k)) 20 (nI 0)) L A ++ X)) q5_78 kX9_isFigure ⟨rfl, rfl⟩ ⟨Nat.le_of_ble_eq_true rfl, Nat.le_of_ble_eq_true rfl⟩ rfl hl.1 rfl (Nat.le_of_ble_eq_true rfl) dX9_lookAt_190 ⟨Nat.le_of_ble_eq_true rfl, Nat.le_of_ble_eq_true rfl⟩) (fun r_10 w_11 H locs hw hB => ?_)
                  obtain ⟨hr9, hw9⟩ := hw
                  have hr9 := hr9.symm
                  subst hr9
                  have hw9 := hw9.symm
                  subst hw9
                  refine lv_istore_n (lv' := [(3, .int (bI (isFg ((A 5) (t + j))))), (4, .int ((A 5) (t + j))), (2, .int ((A 5) t)), (0, .ref o), (1, .int (nI pz))]) hE.x hE.b dX9_lookAt_193 rfl hl (by decide) rfl (fun ls hl => ?_)
                  refine lv_aload_n hE.x hE.b dX9_lookAt_194 rfl (lv_at hl 3 rfl) ?_
                  refine lv_dup hE.x hE.b dX9_lookAt_195 rfl ?_
                  refine z_get (v := .int (nI j)) hE hB inX9 0 rfl rfl 18 (by decide) q4_19 (fun _ h9 => h9) rfl dX9_lookAt_196 ?_
                  refine lv_iload_n hE.x hE.b dX9_lookAt_199 rfl (lv_at hl 0 rfl) ?_
                  refine z_bf (b := (isFg ((A 5) (t + j)))) (tgt := 207) hE dX9_lookAt_200 (by decide) (fun c_12 => ?_) (fun c_12 => ?_)
                  · refine lv_iconst (v := nI 0) hE.x hE.b dX9_lookAt_207 rfl ?_
                    refine z_iaddN hE dX9_lookAt_208 ?_
                    refine z_put (v := .int (nI (j + 0))) (ty := .int) (ws' := mW g o a (upd (upd (upd (upd F 17 (nI t)) 18 (nI (j + 0))) 19 (nI k)) 20 (nI 0)) L A ++ X) hE hB inX9 tyX9 tyX9_ok nmX9 0 rfl rfl 18 (by decide) q4_19 (fun _ h9 => h9) rfl (by decide +kernel) rfl rfl (Nat.le_of_ble_eq_true rfl) rfl dX9_lookAt_209 (fun H locs hB => ?_)
                    refine lv_goto (tgt := 136) hE.x hE.b dX9_lookAt_212 (by decide) ?_
                    exact ih136 (j + 0) (isFg ((A 5) (t + j))) _ _ _ (by have e1 := congrArg Bool.toNat c_7; have e2 := congrArg Bool.toNat c_12; simp only [Bool.toNat_true, Bool.toNat_false] at e1 e2; omega) (by omega) (by omega) (fun z => by rw [c_12] at z; cases z) (fun _ => le_3f (hmt c_7) (by omega) c_12) hB (lv_sub hl [2, 3, 4, 0] rfl)
                  · refine lv_iconst (v := nI 1) hE.x hE.b dX9_lookAt_203 rfl ?_
                    refine lv_goto (tgt := 208) hE.x hE.b dX9_lookAt_204 (by decide) ?_
                    refine z_iaddN hE dX9_lookAt_208 ?_
                    refine z_put (v := .int (nI (j + 1))) (ty := .int) (ws' := mW g o a (upd (upd (upd (upd F 17 (nI t)) 18 (nI (j + 1))) 19 (nI k)) 20 (nI 0)) L A ++ X) hE hB inX9 tyX9 tyX9_ok nmX9 0 rfl rfl 18 (by decide) q4_19 (fun _ h9 => h9) rfl (by decide +kernel) rfl rfl (Nat.le_of_ble_eq_true rfl) rfl dX9_lookAt_209 (fun H locs hB => ?_)
                    refine lv_goto (tgt := 136) hE.x hE.b dX9_lookAt_212 (by decide) ?_
                    exact ih136 (j + 1) (isFg ((A 5) (t + j))) _ _ _ (by have e1 := congrArg Bool.toNat c_7; have e2 := congrArg Bool.toNat c_12; simp only [Bool.toNat_true, Bool.toNat_false] at e1 e2; omega) (by omega) (by omega) (fun _ => le_2f (hmt c_7) (by omega) (by omega) c_12) (fun z => by rw [c_12] at z; cases z) hB (lv_sub hl [2, 3, 4, 0] rfl)
                · refine lv_iload hE.x hE.b dX9_lookAt_180 (lv_at hl 0 rfl) ?_
                  refine z_qi hB (z_cS hE hB (c_X9_isSmall l g ((A 5) (t + j)) (mW g o a (upd (upd (upd (upd F 17 (nI t)) 18 (nI j)) 19 (nI k)) 20 (nI 0)) L A ++ X)) q5_73 kX9_isSmall ⟨rfl, rfl⟩ ⟨Nat.le_of_ble_eq_true rfl, Nat.le_of_ble_eq_true rfl⟩ rfl hl.1 rfl (Nat.le_of_ble_eq_true rfl) dX9_lookAt_182 ⟨Nat.le_of_ble_eq_true rfl, Nat.le_of_ble_eq_true rfl⟩) (fun r_13 w_14 H locs hw hB => ?_)
                  obtain ⟨hr9, hw9⟩ := hw
                  have hr9 := hr9.symm
                  subst hr9
                  have hw9 := hw9.symm
                  subst hw9
                  refine lv_goto (tgt := 193) hE.x hE.b dX9_lookAt_185 (by decide) ?_
                  refine lv_istore_n (lv' := [(3, .int (bI (isSm ((A 5) (t + j))))), (4, .int ((A 5) (t + j))), (2, .int ((A 5) t)), (0, .ref o), (1, .int (nI pz))]) hE.x hE.b dX9_lookAt_193 rfl hl (by decide) rfl (fun ls hl => ?_)
                  refine lv_aload_n hE.x hE.b dX9_lookAt_194 rfl (lv_at hl 3 rfl) ?_
                  refine lv_dup hE.x hE.b dX9_lookAt_195 rfl ?_
                  refine z_get (v := .int (nI j)) hE hB inX9 0 rfl rfl 18 (by decide) q4_19 (fun _ h9 => h9) rfl dX9_lookAt_196 ?_
                  refine lv_iload_n hE.x hE.b dX9_lookAt_199 rfl (lv_at hl 0 rfl) ?_
                  refine z_bf (b := (isSm ((A 5) (t + j)))) (tgt := 207) hE dX9_lookAt_200 (by decide) (fun c_15 => ?_) (fun c_15 => ?_)
                  · refine lv_iconst (v := nI 0) hE.x hE.b dX9_lookAt_207 rfl ?_
                    refine z_iaddN hE dX9_lookAt_208 ?_
                    refine z_put (v := .int (nI (j + 0))) (ty := .int) (ws' := mW g o a (upd (upd (upd (upd F 17 (nI t)) 18 (nI (j + 0))) 19 (nI k)) 20 (nI 0)) L A ++ X) hE hB inX9 tyX9 tyX9_ok nmX9 0 rfl rfl 18 (by decide) q4_19 (fun _ h9 => h9) rfl (by decide +kernel) rfl rfl (Nat.le_of_ble_eq_true rfl) rfl dX9_lookAt_209 (fun H locs hB => ?_)
                    refine lv_goto (tgt := 136) hE.x hE.b dX9_lookAt_212 (by decide) ?_
                    exact ih136 (j + 0) (isSm ((A 5) (t + j))) _ _ _ (by have e1 := congrArg Bool.toNat c_7; have e2 := congrArg Bool.toNat c_15; simp only [Bool.toNat_true, Bool.toNat_false] at e1 e2; omega) (by omega) (by omega) (fun z => by rw [c_15] at z; cases z) (fun _ => le_3s (hmt c_7) (by omega) c_15) hB (lv_sub hl [2, 3, 4, 0] rfl)
                  · refine lv_iconst (v := nI 1) hE.x hE.b dX9_lookAt_203 rfl ?_
                    refine lv_goto (tgt := 208) hE.x hE.b dX9_lookAt_204 (by decide) ?_
                    refine z_iaddN hE dX9_lookAt_208 ?_
                    refine z_put (v := .int (nI (j + 1))) (ty := .int) (ws' := mW g o a (upd (upd (upd (upd F 17 (nI t)) 18 (nI (j + 1))) 19 (nI k)) 20 (nI 0)) L A ++ X) hE hB inX9 tyX9 tyX9_ok nmX9 0 rfl rfl 18 (by decide) q4_19 (fun _ h9 => h9) rfl (by decide +kernel) rfl rfl (Nat.le_of_ble_eq_true rfl) rfl dX9_lookAt_209 (fun H locs hB => ?_)
                    refine lv_goto (tgt := 136) hE.x hE.b dX9_lookAt_212 (by decide) ?_
                    exact ih136 (j + 1) (isSm ((A 5) (t + j))) _ _ _ (by have e1 := congrArg Bool.toNat c_7; have e2 := congrArg Bool.toNat c_15; simp only [Bool.toNat_true, Bool.toNat_false] at e1 e2; omega) (by omega) (by omega) (fun _ => le_2s (hmt c_7) (by omega) (by omega) c_15) (fun z => by rw [c_15] at z; cases z) hB (lv_sub hl [2, 3, 4, 0] rfl)
        refine lv_aload_n hE.x hE.b dX9_lookAt_117 rfl (lv_at hl 1 rfl) ?_
        refine lv_iconst (v := nI 1) hE.x hE.b dX9_lookAt_118 rfl ?_
        refine z_put (v := .int (nI 1)) (ty := .int) (ws' := mW g o a (upd (upd (upd (upd F 17 (nI t)) 18 (nI 1)) 19 (nI k)) 20 (nI 0)) L A ++ X) hE hB inX9 tyX9 tyX9_ok nmX9 0 rfl rfl 18 (by decide) q4_19 (fun _ h9 => h9) rfl (by decide +kernel) rfl rfl (Nat.le_of_ble_eq_true rfl) rfl dX9_lookAt_119 (fun H locs hB => ?_)
        refine lv_aload_n hE.x hE.b dX9_lookAt_122 rfl (lv_at hl 1 rfl) ?_
        refine z_get (v := .int (nI k)) hE hB inX9 0 rfl rfl 19 (by decide) q4_20 (fun _ h9 => h9) rfl dX9_lookAt_123 ?_
        refine lv_iconst (v := nI 3) hE.x hE.b dX9_lookAt_126 rfl ?_
        refine z_ge (tgt := 134) (X := ((k : Nat) : Int)) (Y := (3 : Int)) hE dX9_lookAt_127 (by decide) (nI_toInt (n := k) (by omega)) rfl (fun c_16 => ?_) (fun c_16 => ?_)
        · refine lv_iconst (v := nI 0) hE.x hE.b dX9_lookAt_134 rfl ?_
          refine lv_istore_n (lv' := [(3, .int (nI 0)), (2, .int ((A 5) t)), (0, .ref o), (1, .int (nI pz))]) hE.x hE.b dX9_lookAt_135 rfl hl (by decide) rfl (fun ls hl => ?_)
          exact k136 (ln - (t + 1) + false.toNat + 1) 1 false _ _ _ (Nat.lt_succ_self _) (by omega) (by omega) (fun z => by cases z) (fun _ => le_0 htn hk (by omega)) hB (lv_sub hl [1, 2, 3, 0] rfl)
        · refine lv_iconst (v := nI 1) hE.x hE.b dX9_lookAt_130 rfl ?_
          refine lv_goto (tgt := 135) hE.x hE.b dX9_lookAt_131 (by decide) ?_
          refine lv_istore_n (lv' := [(3, .int (nI 1)), (2, .int ((A 5) t)), (0, .ref o), (1, .int (nI pz))]) hE.x hE.b dX9_lookAt_135 rfl hl (by decide) rfl (fun ls hl => ?_)
          exact k136 (ln - (t + 1) + true.toNat + 1) 1 true _ _ _ (Nat.lt_succ_self _) (by omega) (by omega) (fun _ => le_1 htn hk (by omega)) (fun z => by cases z) hB (lv_sub hl [1, 2, 3, 0] rfl)
      refine lv_aload_n hE.x hE.b dX9_lookAt_80 rfl (lv_at hl 1 rfl) ?_
      refine lv_iload_n hE.x hE.b dX9_lookAt_81 rfl (lv_at hl 0 rfl) ?_
      refine z_qi hB (z_cS hE hB (c_X9_isSmall l g ((A 5) t) (mW g o a (upd (upd (upd (upd F 17 (nI t)) 18 (nI 0)) 19 (nI 0)) 20 (nI 0)) L A ++ X)) q5_73 kX9_isSmall ⟨rfl, rfl⟩ ⟨Nat.le_of_ble_eq_true rfl, Nat.le_of_ble_eq_true rfl⟩ rfl hl.1 rfl (Nat.le_of_ble_eq_true rfl) dX9_lookAt_82 ⟨Nat.le_of_ble_eq_true rfl, Nat.le_of_ble_eq_true rfl⟩) (fun r_17 w_18 H locs hw hB => ?_)
      obtain ⟨hr9, hw9⟩ := hw
      have hr9 := hr9.symm
      subst hr9
      have hw9 := hw9.symm
      subst hw9
      refine z_bf (b := (isSm ((A 5) t))) (tgt := 92) hE dX9_lookAt_85 (by decide) (fun c_19 => ?_) (fun c_19 => ?_)
      · refine lv_iload_n hE.x hE.b dX9_lookAt_92 rfl (lv_at hl 0 rfl) ?_
        refine z_qi hB (z_cS hE hB (c_X9_isFigure l g ((A 5) t) (mW g o a (upd (upd (upd (upd F 17 (nI t)) 18 (nI 0)) 19 (nI 0)) 20 (nI 0)) L A ++ X)) q5_78 kX9_isFigure ⟨rfl, rfl⟩ ⟨Nat.le_of_ble_eq_true rfl, Nat.le_of_ble_eq_true rfl⟩ rfl hl.1 rfl (Nat.le_of_ble_eq_true rfl) dX9_lookAt_93 ⟨Nat.le_of_ble_eq_true rfl, Nat.le_of_ble_eq_true rfl⟩) (fun r_20 w_21 H locs hw hB => ?_)
        obtain ⟨hr9, hw9⟩ := hw
        have hr9 := hr9.symm
        subst hr9
        have hw9 := hw9.symm
        subst hw9
        refine z_bf (b := (isFg ((A 5) t))) (tgt := 103) hE dX9_lookAt_96 (by decide) (fun c_22 => ?_) (fun c_22 => ?_)
        · refine lv_iload_n hE.x hE.b dX9_lookAt_103 rfl (lv_at hl 0 rfl) ?_
          refine lv_bipush (v := (nI 59)) hE.x hE.b dX9_lookAt_104 rfl ?_
          refine lv_icmp_ne (tgt := 113) hE.x hE.b dX9_lookAt_106 (by decide) (fun c_23 => ?_) (fun c_23 => ?_)
          · refine lv_iconst (v := nI 4) hE.x hE.b dX9_lookAt_113 rfl ?_
            exact k114 4 _ _ _ (by unfold k0; rw [if_neg (by rw [c_19]; decide), if_neg (by rw [c_22]; decide), if_neg c_23]) hB hl
          · refine lv_iconst (v := nI 3) hE.x hE.b dX9_lookAt_109 rfl ?_
            refine lv_goto (tgt := 114) hE.x hE.b dX9_lookAt_110 (by decide) ?_
            exact k114 3 _ _ _ (by unfold k0; rw [if_neg (by rw [c_19]; decide), if_neg (by rw [c_22]; decide), if_pos c_23]) hB hl
        · refine lv_iconst (v := nI 2) hE.x hE.b dX9_lookAt_99 rfl ?_
          refine lv_goto (tgt := 114) hE.x hE.b dX9_lookAt_100 (by decide) ?_
          exact k114 2 _ _ _ (by unfold k0; rw [if_neg (by rw [c_19]; decide), if_pos c_22]) hB hl
      · refine lv_iconst (v := nI 1) hE.x hE.b dX9_lookAt_88 rfl ?_
        refine lv_goto (tgt := 114) hE.x hE.b dX9_lookAt_89 (by decide) ?_
        exact k114 1 _ _ _ (by unfold k0; rw [if_pos c_19]) hB hl
    · exact z_vret (ws := mW g o a (upd (upd (upd (upd F 17 (nI t)) 18 (nI 0)) 19 (nI 0)) 20 (nI 0)) L A ++ X) hE hB hr (⟨(upd (upd (upd (upd F 17 (nI t)) 18 (nI 0)) 19 (nI 0)) 20 (nI 0)), rfl, by rw [hsk]; have e1 : ln ≤ t := (by omega); exact ⟨rfl, by unfold le; rw [if_pos e1]; rfl, by unfold kd; rw [if_pos e1]; rfl, by unfold vl; rw [if_pos e1]; rfl, hln⟩⟩) dX9_lookAt_69
  have k5 : ∀ (fu : Nat) (t : Nat) (H : Heap) (locs : List Loc) (ls : Array Slot), ln - t < fu → (t ≤ ln) → (sk (A 5) ln pz = sk (A 5) ln t) → zB g s (mW g o a (upd F 17 (nI t)) L A ++ X) H locs → lv_has ls 5 [(0, .ref o), (1, .int (nI pz))] → W p l e { frames := 2, cells := 0, slots := 0, locals := 45 } s m args below meth c H locs 0 0 (MQ below (zQv g (fun ws => ∃ (F1 : Nat → Int32), ws = mW g o a F1 L A ++ X ∧ tkS F1 (A 5) ln (sk (A 5) ln pz))) args s 0 0 (zA (gz g))) (F0 m 5 ls []) := by
    intro fu
    induction fu with
    | zero => intro t H locs ls hfu htl hsk hB hl; exact absurd hfu (Nat.not_lt_zero _)
    | succ fu ih5 =>
      intro t H locs ls hfu htl hsk hB hl
      refine lv_aload_n hE.x hE.b dX9_lookAt_5 rfl (lv_at hl 0 rfl) ?_
      refine z_get (v := .int (nI t)) hE hB inX9 0 rfl rfl 17 (by decide) q4_18 (fun _ h9 => h9) rfl dX9_lookAt_6 ?_
      refine lv_aload_n hE.x hE.b dX9_lookAt_9 rfl (lv_at hl 0 rfl) ?_
      refine z_get (v := .int (F 16)) hE hB inX9 0 rfl rfl 16 (by decide) q4_17 (fun _ h9 => h9) rfl dX9_lookAt_10 ?_
      refine z_top (y := (nI ln)) hln ?_
      refine z_ge (tgt := 43) (X := ((t : Nat) : Int)) (Y := ((ln : Nat) : Int)) hE dX9_lookAt_13 (by decide) (nI_toInt (n := t) (by omega)) (nI_toInt (n := ln) (by omega)) (fun c_24 => ?_) (fun c_24 => ?_)
      · exact k43 t _ _ _ (by omega) (hsk.trans (sk_no (fun z => by omega))) hB hl
      · refine lv_aload_n hE.x hE.b dX9_lookAt_16 rfl (lv_at hl 0 rfl) ?_
        refine z_get (v := .ref (a 5)) hE hB inX9 0 rfl rfl 15 (by decide) q4_16 (fun _ h9 => h9) rfl dX9_lookAt_17 ?_
        refine lv_aload_n hE.x hE.b dX9_lookAt_20 rfl (lv_at hl 0 rfl) ?_
        refine z_get (v := .int (nI t)) hE hB inX9 0 rfl rfl 17 (by decide) q4_18 (fun _ h9 => h9) rfl dX9_lookAt_21 ?_
        refine z_iald (k := t) (f := (A 5)) hE hB 6 rfl (by omega) (by decide) dX9_lookAt_24 ?_
        refine lv_bipush (v := (nI 32)) hE.x hE.b dX9_lookAt_25 rfl ?_
        refine lv_icmp_ne (tgt := 43) hE.x hE.b dX9_lookAt_27 (by decide) (fun c_25 => ?_) (fun c_25 => ?_)
        · exact k43 t _ _ _ (by omega) (hsk.trans (sk_no (fun z => c_25 z.2))) hB hl
        · refine lv_aload_n hE.x hE.b dX9_lookAt_30 rfl (lv_at hl 0 rfl) ?_
          refine lv_dup hE.x hE.b dX9_lookAt_31 rfl ?_
          refine z_get (v := .int (nI t)) hE hB inX9 0 rfl rfl 17 (by decide) q4_18 (fun _ h9 => h9) rfl dX9_lookAt_32 ?_
          refine lv_iconst (v := nI 1) hE.x hE.b dX9_lookAt_35 rfl ?_
          refine z_iaddN hE dX9_lookAt_36 ?_
          refine z_put (v := .int (nI (t + 1))) (ty := .int) (ws' := mW g o a (upd F 17 (nI (t + 1))) L A ++ X) hE hB inX9 tyX9 tyX9_ok nmX9 0 rfl rfl 17 (by decide) q4_18 (fun _ h9 => h9) rfl (by decide +kernel) rfl rfl (Nat.le_of_ble_eq_true rfl) rfl dX9_lookAt_37 (fun H locs hB => ?_)
          refine lv_goto (tgt := 5) hE.x hE.b dX9_lookAt_40 (by decide) ?_
          exact ih5 (t + 1) _ _ _ (by omega) (by omega) (hsk.trans (sk_yes (by omega) c_25)) hB hl
  exact k5 (ln - pz + 1) pz _ _ _ (Nat.lt_succ_self _) (by omega) rfl hB hl

set_option maxHeartbeats 4000000 in
set_option maxRecDepth 100000 in
theorem c_X9_goOn (l : Launch) (g : zG) (o : Nat) (a : Nat → Nat) (F : Nat → Int32) (L : Nat → Int64) (A : Nat → Nat → Int32) (X : va_W) (ln : Nat) (q : Nat) (htk : tkS F (A 5) ln q) (hql : q ≤ ln) (hl150 : ln ≤ 150) (hby : byOK (A 5) ln) : Met l yX9_goOn (Cond.code yX9_goOn cX9_goOn 1 none :: TBL) { frames := 3, cells := 0, slots := 0, locals := 69 } (zPc [.ref o] g (mW g o a F L A ++ X)) (zQv g (fun ws => ∃ (F1 : Nat → Int32), ws = mW g o a F1 L A ++ X ∧ tkS F1 (A 5) ln (nx (A 5) ln q))) 0 0 (zA (gz g)) := by
  refine z_start (by decide +kernel) rfl (Nat.le_of_ble_eq_true rfl) ?_
  intro p e s m args below meth c ls hE hr hnm hB hl
  have hl : lv_has ls 1 [(0, .ref o)] := hl
  revert hB
  generalize s.heap = H
  generalize ([] : List Loc) = locs
  intro hB
  have hle := le_in (b := A 5) hql
  have hln := htk.2.2.2.2
  refine lv_aload_n hE.x hE.b dX9_goOn_0 rfl (lv_at hl 0 rfl) ?_
  refine lv_aload_n hE.x hE.b dX9_goOn_1 rfl (lv_at hl 0 rfl) ?_
  refine z_get (v := .int (F 17)) hE hB inX9 0 rfl rfl 17 (by decide) q4_18 (fun _ h9 => h9) rfl dX9_goOn_2 ?_
  refine z_top (y := (nI q)) htk.1 ?_
  refine lv_aload_n hE.x hE.b dX9_goOn_5 rfl (lv_at hl 0 rfl) ?_
  refine z_get (v := .int (F 18)) hE hB inX9 0 rfl rfl 18 (by decide) q4_19 (fun _ h9 => h9) rfl dX9_goOn_6 ?_
  refine z_top (y := (nI (le (A 5) ln q))) htk.2.1 ?_
  refine z_iaddN hE dX9_goOn_9 ?_
  refine z_qv hB (z_cV hE hB (c_X9_lookAt l g o a F L A X ln (q + (le (A 5) ln q)) hln (by omega) hby (by omega)) q5_69 kX9_lookAt ⟨rfl, rfl⟩ ⟨Nat.le_of_ble_eq_true rfl, Nat.le_of_ble_eq_true rfl⟩ 0 rfl rfl rfl hl.1 rfl (Nat.le_of_ble_eq_true rfl) dX9_goOn_10 ⟨Nat.le_of_ble_eq_true rfl, Nat.le_of_ble_eq_true rfl⟩) (fun w_2 H locs hw hB => ?_)
  obtain ⟨F1_3, hw9, hf_4⟩ := hw
  have hw9 := hw9.symm
  subst hw9
  exact z_vret (ws := mW g o a F1_3 L A ++ X) hE hB hr (⟨F1_3, rfl, hf_4⟩) dX9_goOn_13

set_option maxHeartbeats 4000000 in
set_option maxRecDepth 100000 in
theorem c_X9_isCalled (l : Launch) (g : zG) (o : Nat) (a : Nat → Nat) (F : Nat → Int32) (L : Nat → Int64) (A : Nat → Nat → Int32) (X : va_W) (ln : Nat) (q : Nat) (n9 : Nat) (u1 : Nat) (u2 : Nat) (u3 : Nat) (u4 : Nat) (u5 : Nat) (u6 : Nat) (htk : tkS F (A 5) ln q) (hql : q ≤ ln) (hl150 : ln ≤ 150) (hby : byOK (A 5) ln) (hn6 : n9 ≤ 6) (hu1 : u1 < 256) (hu2 : u2 < 256) (hu3 : u3 < 256) (hu4 : u4 < 256) (hu5 : u5 < 256) (hu6 : u6 < 256) : Met l yX9_isCalled (Cond.code yX9_isCalled cX9_isCalled 10 (some .boolean) :: TBL) { frames := 0, cells := 0, slots := 0, locals := 0 } (zPc [.ref o, .int (nI n9), .int (nI u1), .int (nI u2), .int (nI u3), .int (nI u4), .int (nI u5), .int (nI u6)] g (mW g o a F L A ++ X)) (zQi g (fun r ws => r = bI (wdQ (A 5) ln q n9 (w6 u1 u2 u3 u4 u5 u6)) ∧ ws = mW g o a F L A ++ X)) 0 0 (zA (gz g)) := by
  refine z_start (by decide +kernel) rfl (Nat.le_of_ble_eq_true rfl) ?_
  intro p e s m args below meth c ls hE hr hnm hB hl
  have hl : lv_has ls 10 [(0, .ref o), (1, .int (nI n9)), (2, .int (nI u1)), (3, .int (nI u2)), (4, .int (nI u3)), (5, .int (nI u4)), (6, .int (nI u5)), (7, .int (nI u6))] := hl
  revert hB
  generalize s.heap = H
  generalize ([] : List Loc) = locs
  intro hB
  have hkl := kd_le (b := A 5) (ln := ln) (q := q)
  have hll := le_in (b := A 5) hql
  have k26 : ∀ (fu : Nat) (k : Nat) (is : Bool) (H : Heap) (locs : List Loc) (ls : Array Slot), n9 - k < fu → (k ≤ n9) → (is = true ↔ (kd (A 5) ln q = 1 ∧ le (A 5) ln q = n9 ∧ ∀ i, i < k → A 5 (q + i) = nI ((w6 u1 u2 u3 u4 u5 u6) i))) → zB g s (mW g o a F L A ++ X) H locs → lv_has ls 10 [(0, .ref o), (1, .int (nI n9)), (2, .int (nI u1)), (3, .int (nI u2)), (4, .int (nI u3)), (5, .int (nI u4)), (6, .int (nI u5)), (7, .int (nI u6)), (8, .int (bI is)), (9, .int (nI k))] → W p l e { frames := 0, cells := 0, slots := 0, locals := 0 } s m args below meth c H locs 0 0 (MQ below (zQi g (fun r ws => r = bI (wdQ (A 5) ln q n9 (w6 u1 u2 u3 u4 u5 u6)) ∧ ws = mW g o a F L A ++ X)) args s 0 0 (zA (gz g))) (F0 m 26 ls []) := by
    intro fu
    induction fu with
    | zero => intro k is H locs ls hfu hk his hB hl; exact absurd hfu (Nat.not_lt_zero _)
    | succ fu ih26 =>
      intro k is H locs ls hfu hk his hB hl
      refine lv_iload hE.x hE.b dX9_isCalled_26 (lv_at hl 9 rfl) ?_
      refine lv_iload_n hE.x hE.b dX9_isCalled_28 rfl (lv_at hl 1 rfl) ?_
      refine z_ge (tgt := 119) (X := ((k : Nat) : Int)) (Y := ((n9 : Nat) : Int)) hE dX9_isCalled_29 (by decide) (nI_toInt (n := k) (by omega)) (nI_toInt (n := n9) (by omega)) (fun c_1 => ?_) (fun c_1 => ?_)
      · refine lv_iload hE.x hE.b dX9_isCalled_119 (lv_at hl 8 rfl) ?_
        exact z_bret (b := is) (ws := mW g o a F L A ++ X) hE hB hr (⟨congrArg bI (wd_is his hk (Or.inl (by omega))), rfl⟩) dX9_isCalled_121
      · refine lv_iload hE.x hE.b dX9_isCalled_32 (lv_at hl 8 rfl) ?_
        refine z_bf (b := is) (tgt := 119) hE dX9_isCalled_34 (by decide) (fun c_2 => ?_) (fun c_2 => ?_)
        · refine lv_iload hE.x hE.b dX9_isCalled_119 (lv_at hl 8 rfl) ?_
          exact z_bret (b := is) (ws := mW g o a F L A ++ X) hE hB hr (⟨congrArg bI (wd_is his hk (Or.inr c_2)), rfl⟩) dX9_isCalled_121
        · have hst := his.mp c_2
          refine lv_aload_n hE.x hE.b dX9_isCalled_37 rfl (lv_at hl 0 rfl) ?_
          refine z_get (v := .ref (a 5)) hE hB inX9 0 rfl rfl 15 (by decide) q4_16 (fun _ h9 => h9) rfl dX9_isCalled_38 ?_
          refine lv_aload_n hE.x hE.b dX9_isCalled_41 rfl (lv_at hl 0 rfl) ?_
          refine z_get (v := .int (F 17)) hE hB inX9 0 rfl rfl 17 (by decide) q4_18 (fun _ h9 => h9) rfl dX9_isCalled_42 ?_
          refine z_top (y := (nI q)) htk.1 ?_
          refine lv_iload hE.x hE.b dX9_isCalled_45 (lv_at hl 9 rfl) ?_
          refine z_iaddN hE dX9_isCalled_47 ?_
          refine z_iald (k := (q + k)) (f := (A 5)) hE hB 6 rfl (by omega) (by decide) dX9_isCalled_48 ?_
          refine lv_iload hE.x hE.b dX9_isCalled_49 (lv_at hl 9 rfl) ?_
          refine z_ne0 (tgt := 58) (X := ((k : Nat) : Int)) hE dX9_isCalled_51 (by decide) (nI_toInt (n := k) (by omega)) (fun c_3 => ?_) (fun c_3 => ?_)
          · refine lv_iload hE.x hE.b dX9_isCalled_58 (lv_at hl 9 rfl) ?_
            refine lv_iconst (v := nI 1) hE.x hE.b dX9_isCalled_60 rfl ?_
            refine z_ne (tgt := 68) (X := ((k : Nat) : Int)) (Y := (1 : Int)) hE dX9_isCalled_61 (by decide) (nI_toInt (n := k) (by omega)) rfl (fun c_4 => ?_) (fun c_4 => ?_)
            · refine lv_iload hE.x hE.b dX9_isCalled_68 (lv_at hl 9 rfl) ?_
              refine lv_iconst (v := nI 2) hE.x hE.b dX9_isCalled_70 rfl ?_
              refine z_ne (tgt := 79) (X := ((k : Nat) : Int)) (Y := (2 : Int)) hE dX9_isCalled_71 (by decide) (nI_toInt (n := k) (by omega)) rfl (fun c_5 => ?_) (fun c_5 => ?_)
              · refine lv_iload hE.x hE.b dX9_isCalled_79 (lv_at hl 9 rfl) ?_
                refine lv_iconst (v := nI 3) hE.x hE.b dX9_isCalled_81 rfl ?_
                refine z_ne (tgt := 90) (X := ((k : Nat) : Int)) (Y := (3 : Int)) hE dX9_isCalled_82 (by decide) (nI_toInt (n := k) (by omega)) rfl (fun c_6 => ?_) (fun c_6 => ?_)
                · refine lv_iload hE.x hE.b dX9_isCalled_90 (lv_at hl 9 rfl) ?_
                  refine lv_iconst (v := nI 4) hE.x hE.b dX9_isCalled_92 rfl ?_
                  refine z_ne (tgt := 101) (X := ((k : Nat) : Int)) (Y := (4 : Int)) hE dX9_isCalled_93 (by decide) (nI_toInt (n := k) (by omega)) rfl (fun c_7 => ?_) (fun c_7 => ?_)
                  · refine lv_iload hE.x hE.b dX9_isCalled_101 (lv_at hl 7 rfl) ?_
                    refine lv_icmp_ne (tgt := 110) hE.x hE.b dX9_isCalled_103 (by decide) (fun c_8 => ?_) (fun c_8 => ?_)
                    · refine lv_iconst (v := nI 0) hE.x hE.b dX9_isCalled_110 rfl ?_
                      refine lv_istore (lv' := [(8, .int (nI 0)), (0, .ref o), (1, .int (nI n9)), (2, .int (nI u1)), (3, .int (nI u2)), (4, .int (nI u3)), (5, .int (nI u4)), (6, .int (nI u5)), (7, .int (nI u6)), (9, .int (nI k))]) hE.x hE.b dX9_isCalled_111 hl (by decide) rfl (fun ls hl => ?_)
                      refine lv_iinc (v := (nI (k + 1))) (lv' := [(9, .int (nI (k + 1))), (8, .int (nI 0)), (0, .ref o), (1, .int (nI n9)), (2, .int (nI u1)), (3, .int (nI u2)), (4, .int (nI u3)), (5, .int (nI u4)), (6, .int (nI u5)), (7, .int (nI u6))]) hE.x hE.b dX9_isCalled_113 hl (k := 9) rfl (nI_add _ _) (by decide) rfl (fun ls hl => ?_)
                      refine lv_goto (tgt := 26) hE.x hE.b dX9_isCalled_116 (by decide) ?_
                      exact ih26 (k + 1) false _ _ _ (by omega) (by omega) (ic_no his c_2 (v := u6) (by unfold w6; rw [if_neg (by omega), if_neg (by omega), if_neg (by omega), if_neg (by omega), if_neg (by omega)]) c_8) hB (lv_sub hl [2, 3, 4, 5, 6, 7, 8, 9, 1, 0] rfl)
                    · refine lv_iconst (v := nI 1) hE.x hE.b dX9_isCalled_106 rfl ?_
                      refine lv_goto (tgt := 111) hE.x hE.b dX9_isCalled_107 (by decide) ?_
                      refine lv_istore (lv' := [(8, .int (nI 1)), (0, .ref o), (1, .int (nI n9)), (2, .int (nI u1)), (3, .int (nI u2)), (4, .int (nI u3)), (5, .int (nI u4)), (6, .int (nI u5)), (7, .int (nI u6)), (9, .int (nI k))]) hE.x hE.b dX9_isCalled_111 hl (by decide) rfl (fun ls hl => ?_)
                      refine lv_iinc (v := (nI (k + 1))) (lv' := [(9, .int (nI (k + 1))), (8, .int (nI 1)), (0, .ref o), (1, .int (nI n9)), (2, .int (nI u1)), (3, .int (nI u2)), (4, .int (nI u3)), (5, .int (nI u4)), (6, .int (nI u5)), (7, .int (nI u6))]) hE.x hE.b dX9_isCalled_113 hl (k := 9) rfl (nI_add _ _) (by decide) rfl (fun ls hl => ?_)
                      refine lv_goto (tgt := 26) hE.x hE.b dX9_isCalled_116 (by decide) ?_
                      exact ih26 (k + 1) true _ _ _ (by omega) (by omega) (ic_yes his c_2 (v := u6) (by unfold w6; rw [if_neg (by omega), if_neg (by omega), if_neg (by omega), if_neg (by omega), if_neg (by omega)]) c_8) hB (lv_sub hl [2, 3, 4, 5, 6, 7, 8, 9, 1, 0] rfl)
                  · refine lv_iload hE.x hE.b dX9_isCalled_96 (lv_at hl 6 rfl) ?_
                    refine lv_goto (tgt := 103) hE.x hE.b dX9_isCalled_98 (by decide) ?_
                    refine lv_icmp_ne (tgt := 110) hE.x hE.b dX9_isCalled_103 (by decide) (fun c_9 => ?_) (fun c_9 => ?_)
                    · refine lv_iconst (v := nI 0) hE.x hE.b dX9_isCalled_110 rfl ?_
                      refine lv_istore (lv' := [(8, .int (nI 0)), (0, .ref o), (1, .int (nI n9)), (2, .int (nI u1)), (3, .int (nI u2)), (4, .int (nI u3)), (5, .int (nI u4)), (6, .int (nI u5)), (7, .int (nI u6)), (9, .int (nI k))]) hE.x hE.b dX9_isCalled_111 hl (by decide) rfl (fun ls hl => ?_)
                      refine lv_iinc (v := (nI (k + 1))) (lv' := [(9, .int (nI (k + 1))), (8, .int (nI 0)), (0, .ref o), (1, .int (nI n9)), (2, .int (nI u1)), (3, .int (nI u2)), (4, .int (nI u3)), (5, .int (nI u4)), (6, .int (nI u5)), (7, .int (nI u6))]) hE.x hE.b dX9_isCalled_113 hl (k := 9) rfl (nI_add _ _) (by decide) rfl (fun ls hl => ?_)
                      refine lv_goto (tgt := 26) hE.x hE.b dX9_isCalled_116 (by decide) ?_
                      exact ih26 (k + 1) false _ _ _ (by omega) (by omega) (ic_no his c_2 (v := u5) (by unfold w6; rw [if_neg (by omega), if_neg (by omega), if_neg (by omega), if_neg (by omega), if_pos (by omega)]) c_9) hB (lv_sub hl [2, 3, 4, 5, 6, 7, 8, 9, 1, 0] rfl)
                    · refine lv_iconst (v := nI 1) hE.x hE.b dX9_isCalled_106 rfl ?_
                      refine lv_goto (tgt := 111) hE.x hE.b dX9_isCalled_107 (by decide) ?_
                      refine lv_istore (lv' := [(8, .int (nI 1)), (0, .ref o), (1, .int (nI n9)), (2, .int (nI u1)), (3, .int (nI u2)), (4, .int (nI u3)), (5, .int (nI u4)), (6, .int (nI u5)), (7, .int (nI u6)), (9, .int (nI k))]) hE.x hE.b dX9_isCalled_111 hl (by decide) rfl (fun ls hl => ?_)
                      refine lv_iinc (v := (nI (k + 1))) (lv' := [(9, .int (nI (k + 1))), (8, .int (nI 1)), (0, .ref o), (1, .int (nI n9)), (2, .int (nI u1)), (3, .int (nI u2)), (4, .int (nI u3)), (5, .int (nI u4)), (6, .int (nI u5)), (7, .int (nI u6))]) hE.x hE.b dX9_isCalled_113 hl (k := 9) rfl (nI_add _ _) (by decide) rfl (fun ls hl => ?_)
                      refine lv_goto (tgt := 26) hE.x hE.b dX9_isCalled_116 (by decide) ?_
                      exact ih26 (k + 1) true _ _ _ (by omega) (by omega) (ic_yes his c_2 (v := u5) (by unfold w6; rw [if_neg (by omega), if_neg (by omega), if_neg (by omega), if_neg (by omega), if_pos (by omega)]) c_9) hB (lv_sub hl [2, 3, 4, 5, 6, 7, 8, 9, 1, 0] rfl)
                · refine lv_iload hE.x hE.b dX9_isCalled_85 (lv_at hl 5 rfl) ?_
                  refine lv_goto (tgt := 103) hE.x hE.b dX9_isCalled_87 (by decide) ?_
                  refine lv_icmp_ne (tgt := 110) hE.x hE.b dX9_isCalled_103 (by decide) (fun c_10 => ?_) (fun c_10 => ?_)
                  · refine lv_iconst (v := nI 0) hE.x hE.b dX9_isCalled_110 rfl ?_
                    refine lv_istore (lv' := [(8, .int (nI 0)), (0, .ref o), (1, .int (nI n9)), (2, .int (nI u1)), (3, .int (nI u2)), (4, .int (nI u3)), (5, .int (nI u4)), (6, .int (nI u5)), (7, .int (nI u6)), (9, .int (nI k))]) hE.x hE.b dX9_isCalled_111 hl (by decide) rfl (fun ls hl => ?_)
                    refine lv_iinc (v := (nI (k + 1))) (lv' := [(9, .int (nI (k + 1))), (8, .int (nI 0)), (0, .ref o), (1, .int (nI n9)), (2, .int (nI u1)), (3, .int (nI u2)), (4, .int (nI u3)), (5, .int (nI u4)), (6, .int (nI u5)), (7, .int (nI u6))]) hE.x hE.b dX9_isCalled_113 hl (k := 9) rfl (nI_add _ _) (by decide) rfl (fun ls hl => ?_)
                    refine lv_goto (tgt := 26) hE.x hE.b dX9_isCalled_116 (by decide) ?_
                    exact ih26 (k + 1) false _ _ _ (by omega) (by omega) (ic_no his c_2 (v := u4) (by unfold w6; rw [if_neg (by omega), if_neg (by omega), if_neg (by omega), if_pos (by omega)]) c_10) hB (lv_sub hl [2, 3, 4, 5, 6, 7, 8, 9, 1, 0] rfl)
                  · refine lv_iconst (v := nI 1) hE.x hE.b dX9_isCalled_106 rfl ?_
                    refine lv_goto (tgt := 111) hE.x hE.b dX9_isCalled_107 (by decide) ?_
                    refine lv_istore (lv' := [(8, .int (nI 1)), (0, .ref o), (1, .int (nI n9)), (2, .int (nI u1)), (3, .int (nI u2)), (4, .int (nI u3)), (5, .int (nI u4)), (6, .int (nI u5)), (7, .int (nI u6)), (9, .int (nI k))]) hE.x hE.b dX9_isCalled_111 hl (by decide) rfl (fun ls hl => ?_)
                    refine lv_iinc (v := (nI (k + 1))) (lv' := [(9, .int (nI (k + 1))), (8, .int (nI 1)), (0, .ref o), (1, .int (nI n9)), (2, .int (nI u1)), (3, .int (nI u2)), (4, .int (nI u3)), (5, .int (nI u4)), (6, .int (nI u5)), (7, .int (nI u6))]) hE.x hE.b dX9_isCalled_113 hl (k := 9) rfl (nI_add _ _) (by decide) rfl (fun ls hl => ?_)
                    refine lv_goto (tgt := 26) hE.x hE.b dX9_isCalled_116 (by decide) ?_
                    exact ih26 (k + 1) true _ _ _ (by omega) (by omega) (ic_yes his c_2 (v := u4) (by unfold w6; rw [if_neg (by omega), if_neg (by omega), if_neg (by omega), if_pos (by omega)]) c_10) hB (lv_sub hl [2, 3, 4, 5, 6, 7, 8, 9, 1, 0] rfl)
              · refine lv_iload hE.x hE.b dX9_isCalled_74 (lv_at hl 4 rfl) ?_
                refine lv_goto (tgt := 103) hE.x hE.b dX9_isCalled_76 (by decide) ?_
                refine lv_icmp_ne (tgt := 110) hE.x hE.b dX9_isCalled_103 (by decide) (fun c_11 => ?_) (fun c_11 => ?_)
                · refine lv_iconst (v := nI 0) hE.x hE.b dX9_isCalled_110 rfl ?_
                  refine lv_istore (lv' := [(8, .int (nI 0)), (0, .ref o), (1, .int (nI n9)), (2, .int (nI u1)), (3, .int (nI u2)), (4, .int (nI u3)), (5, .int (nI u4)), (6, .int (nI u5)), (7, .int (nI u6)), (9, .int (nI k))]) hE.x hE.b dX9_isCalled_111 hl (by decide) rfl (fun ls hl => ?_)
                  refine lv_iinc (v := (nI (k + 1))) (lv' := [(9, .int (nI (k + 1))), (8, .int (nI 0)), (0, .ref o), (1, .int (nI n9)), (2, .int (nI u1)), (3, .int (nI u2)), (4, .int (nI u3)), (5, .int (nI u4)), (6, .int (nI u5)), (7, .int (nI u6))]) hE.x hE.b dX9_isCalled_113 hl (k := 9) rfl (nI_add _ _) (by decide) rfl (fun ls hl => ?_)
                  refine lv_goto (tgt := 26) hE.x hE.b dX9_isCalled_116 (by decide) ?_
                  exact ih26 (k + 1) false _ _ _ (by omega) (by omega) (ic_no his c_2 (v := u3) (by unfold w6; rw [if_neg (by omega), if_neg (by omega), if_pos (by omega)]) c_11) hB (lv_sub hl [2, 3, 4, 5, 6, 7, 8, 9, 1, 0] rfl)
                · refine lv_iconst (v := nI 1) hE.x hE.b dX9_isCalled_106 rfl ?_
                  refine lv_goto (tgt := 111) hE.x hE.b dX9_isCalled_107 (by decide) ?_
                  refine lv_istore (lv' := [(8, .int (nI 1)), (0, .ref o), (1, .int (nI n9)), (2, .int (nI u1)), (3, .int (nI u2)), (4, .int (nI u3)), (5, .int (nI u4)), (6, .int (nI u5)), (7, .int (nI u6)), (9, .int (nI k))]) hE.x hE.b dX9_isCalled_111 hl (by decide) rfl (fun ls hl => ?_)
                  refine lv_iinc (v := (nI (k + 1))) (lv' := [(9, .int (nI (k + 1))), (8, .int (nI 1)), (0, .ref o), (1, .int (nI n9)), (2, .int (nI u1)), (3, .int (nI u2)), (4, .int (nI u3)), (5, .int (nI u4)), (6, .int (nI u5)), (7, .int (nI u6))]) hE.x hE.b dX9_isCalled_113 hl (k := 9) rfl (nI_add _ _) (by decide) rfl (fun ls hl => ?_)
                  refine lv_goto (tgt := 26) hE.x hE.b dX9_isCalled_116 (by decide) ?_
                  exact ih26 (k + 1) true _ _ _ (by omega) (by omega) (ic_yes his c_2 (v := u3) (by unfold w6; rw [if_neg (by omega), if_neg (by omega), if_pos (by omega)]) c_11) hB (lv_sub hl [2, 3, 4, 5, 6, 7, 8, 9, 1, 0] rfl)
            · refine lv_iload_n hE.x hE.b dX9_isCalled_64 rfl (lv_at hl 3 rfl) ?_
              refine lv_goto (tgt := 103) hE.x hE.b dX9_isCalled_65 (by decide) ?_
              refine lv_icmp_ne (tgt := 110) hE.x hE.b dX9_isCalled_103 (by decide) (fun c_12 => ?_) (fun c_12 => ?_)
              · refine lv_iconst (v := nI 0) hE.x hE.b dX9_isCalled_110 rfl ?_
                refine lv_istore (lv' := [(8, .int (nI 0)), (0, .ref o), (1, .int (nI n9)), (2, .int (nI u1)), (3, .int (nI u2)), (4, .int (nI u3)), (5, .int (nI u4)), (6, .int (nI u5)), (7, .int (nI u6)), (9, .int (nI k))]) hE.x hE.b dX9_isCalled_111 hl (by decide) rfl (fun ls hl => ?_)
                refine lv_iinc (v := (nI (k + 1))) (lv' := [(9, .int (nI (k + 1))), (8, .int (nI 0)), (0, .ref o), (1, .int (nI n9)), (2, .int (nI u1)), (3, .int (nI u2)), (4, .int (nI u3)), (5, .int (nI u4)), (6, .int (nI u5)), (7, .int (nI u6))]) hE.x hE.b dX9_isCalled_113 hl (k := 9) rfl (nI_add _ _) (by decide) rfl (fun ls hl => ?_)
                refine lv_goto (tgt := 26) hE.x hE.b dX9_isCalled_116 (by decide) ?_
                exact ih26 (k + 1) false _ _ _ (by omega) (by omega) (ic_no his c_2 (v := u2) (by unfold w6; rw [if_neg (by omega), if_pos (by omega)]) c_12) hB (lv_sub hl [2, 3, 4, 5, 6, 7, 8, 9, 1, 0] rfl)
              · refine lv_iconst (v := nI 1) hE.x hE.b dX9_isCalled_106 rfl ?_
                refine lv_goto (tgt := 111) hE.x hE.b dX9_isCalled_107 (by decide) ?_
                refine lv_istore (lv' := [(8, .int (nI 1)), (0, .ref o), (1, .int (nI n9)), (2, .int (nI u1)), (3, .int (nI u2)), (4, .int (nI u3)), (5, .int (nI u4)), (6, .int (nI u5)), (7, .int (nI u6)), (9, .int (nI k))]) hE.x hE.b dX9_isCalled_111 hl (by decide) rfl (fun ls hl => ?_)
                refine lv_iinc (v := (nI (k + 1))) (lv' := [(9, .int (nI (k + 1))), (8, .int (nI 1)), (0, .ref o), (1, .int (nI n9)), (2, .int (nI u1)), (3, .int (nI u2)), (4, .int (nI u3)), (5, .int (nI u4)), (6, .int (nI u5)), (7, .int (nI u6))]) hE.x hE.b dX9_isCalled_113 hl (k := 9) rfl (nI_add _ _) (by decide) rfl (fun ls hl => ?_)
                refine lv_goto (tgt := 26) hE.x hE.b dX9_isCalled_116 (by decide) ?_
                exact ih26 (k + 1) true _ _ _ (by omega) (by omega) (ic_yes his c_2 (v := u2) (by unfold w6; rw [if_neg (by omega), if_pos (by omega)]) c_12) hB (lv_sub hl [2, 3, 4, 5, 6, 7, 8, 9, 1, 0] rfl)
          · refine lv_iload_n hE.x hE.b dX9_isCalled_54 rfl (lv_at hl 2 rfl) ?_
            refine lv_goto (tgt := 103) hE.x hE.b dX9_isCalled_55 (by decide) ?_
            refine lv_icmp_ne (tgt := 110) hE.x hE.b dX9_isCalled_103 (by decide) (fun c_13 => ?_) (fun c_13 => ?_)
            · refine lv_iconst (v := nI 0) hE.x hE.b dX9_isCalled_110 rfl ?_
              refine lv_istore (lv' := [(8, .int (nI 0)), (0, .ref o), (1, .int (nI n9)), (2, .int (nI u1)), (3, .int (nI u2)), (4, .int (nI u3)), (5, .int (nI u4)), (6, .int (nI u5)), (7, .int (nI u6)), (9, .int (nI k))]) hE.x hE.b dX9_isCalled_111 hl (by decide) rfl (fun ls hl => ?_)
              refine lv_iinc (v := (nI (k + 1))) (lv' := [(9, .int (nI (k + 1))), (8, .int (nI 0)), (0, .ref o), (1, .int (nI n9)), (2, .int (nI u1)), (3, .int (nI u2)), (4, .int (nI u3)), (5, .int (nI u4)), (6, .int (nI u5)), (7, .int (nI u6))]) hE.x hE.b dX9_isCalled_113 hl (k := 9) rfl (nI_add _ _) (by decide) rfl (fun ls hl => ?_)
              refine lv_goto (tgt := 26) hE.x hE.b dX9_isCalled_116 (by decide) ?_
              exact ih26 (k + 1) false _ _ _ (by omega) (by omega) (ic_no his c_2 (v := u1) (by unfold w6; rw [if_pos (by omega)]) c_13) hB (lv_sub hl [2, 3, 4, 5, 6, 7, 8, 9, 1, 0] rfl)
            · refine lv_iconst (v := nI 1) hE.x hE.b dX9_isCalled_106 rfl ?_
              refine lv_goto (tgt := 111) hE.x hE.b dX9_isCalled_107 (by decide) ?_
              refine lv_istore (lv' := [(8, .int (nI 1)), (0, .ref o), (1, .int (nI n9)), (2, .int (nI u1)), (3, .int (nI u2)), (4, .int (nI u3)), (5, .int (nI u4)), (6, .int (nI u5)), (7, .int (nI u6)), (9, .int (nI k))]) hE.x hE.b dX9_isCalled_111 hl (by decide) rfl (fun ls hl => ?_)
              refine lv_iinc (v := (nI (k + 1))) (lv' := [(9, .int (nI (k + 1))), (8, .int (nI 1)), (0, .ref o), (1, .int (nI n9)), (2, .int (nI u1)), (3, .int (nI u2)), (4, .int (nI u3)), (5, .int (nI u4)), (6, .int (nI u5)), (7, .int (nI u6))]) hE.x hE.b dX9_isCalled_113 hl (k := 9) rfl (nI_add _ _) (by decide) rfl (fun ls hl => ?_)
              refine lv_goto (tgt := 26) hE.x hE.b dX9_isCalled_116 (by decide) ?_
              exact ih26 (k + 1) true _ _ _ (by omega) (by omega) (ic_yes his c_2 (v := u1) (by unfold w6; rw [if_pos (by omega)]) c_13) hB (lv_sub hl [2, 3, 4, 5, 6, 7, 8, 9, 1, 0] rfl)
  refine lv_aload_n hE.x hE.b dX9_isCalled_0 rfl (lv_at hl 0 rfl) ?_
  refine z_get (v := .int (F 19)) hE hB inX9 0 rfl rfl 19 (by decide) q4_20 (fun _ h9 => h9) rfl dX9_isCalled_1 ?_
  refine z_top (y := (nI (kd (A 5) ln q))) htk.2.2.1 ?_
  refine lv_iconst (v := nI 1) hE.x hE.b dX9_isCalled_4 rfl ?_
  refine z_ne (tgt := 20) (X := (((kd (A 5) ln q) : Nat) : Int)) (Y := (1 : Int)) hE dX9_isCalled_5 (by decide) (nI_toInt (n := (kd (A 5) ln q)) (by omega)) rfl (fun c_14 => ?_) (fun c_14 => ?_)
  · refine lv_iconst (v := nI 0) hE.x hE.b dX9_isCalled_20 rfl ?_
    refine lv_istore (lv' := [(8, .int (nI 0)), (0, .ref o), (1, .int (nI n9)), (2, .int (nI u1)), (3, .int (nI u2)), (4, .int (nI u3)), (5, .int (nI u4)), (6, .int (nI u5)), (7, .int (nI u6))]) hE.x hE.b dX9_isCalled_21 hl (by decide) rfl (fun ls hl => ?_)
    refine lv_iconst (v := nI 0) hE.x hE.b dX9_isCalled_23 rfl ?_
    refine lv_istore (lv' := [(9, .int (nI 0)), (8, .int (nI 0)), (0, .ref o), (1, .int (nI n9)), (2, .int (nI u1)), (3, .int (nI u2)), (4, .int (nI u3)), (5, .int (nI u4)), (6, .int (nI u5)), (7, .int (nI u6))]) hE.x hE.b dX9_isCalled_24 hl (by decide) rfl (fun ls hl => ?_)
    exact k26 (n9 - 0 + 1) 0 false _ _ _ (Nat.lt_succ_self _) (by omega) ⟨fun z => (by cases z), fun z => absurd z.1 (by omega)⟩ hB (lv_sub hl [2, 3, 4, 5, 6, 7, 8, 9, 1, 0] rfl)
  · refine lv_aload_n hE.x hE.b dX9_isCalled_8 rfl (lv_at hl 0 rfl) ?_
    refine z_get (v := .int (F 18)) hE hB inX9 0 rfl rfl 18 (by decide) q4_19 (fun _ h9 => h9) rfl dX9_isCalled_9 ?_
    refine z_top (y := (nI (le (A 5) ln q))) htk.2.1 ?_
    refine lv_iload_n hE.x hE.b dX9_isCalled_12 rfl (lv_at hl 1 rfl) ?_
    refine z_ne (tgt := 20) (X := (((le (A 5) ln q) : Nat) : Int)) (Y := ((n9 : Nat) : Int)) hE dX9_isCalled_13 (by decide) (nI_toInt (n := (le (A 5) ln q)) (by omega)) (nI_toInt (n := n9) (by omega)) (fun c_15 => ?_) (fun c_15 => ?_)
    · refine lv_iconst (v := nI 0) hE.x hE.b dX9_isCalled_20 rfl ?_
      refine lv_istore (lv' := [(8, .int (nI 0)), (0, .ref o), (1, .int (nI n9)), (2, .int (nI u1)), (3, .int (nI u2)), (4, .int (nI u3)), (5, .int (nI u4)), (6, .int (nI u5)), (7, .int (nI u6))]) hE.x hE.b dX9_isCalled_21 hl (by decide) rfl (fun ls hl => ?_)
      refine lv_iconst (v := nI 0) hE.x hE.b dX9_isCalled_23 rfl ?_
      refine lv_istore (lv' := [(9, .int (nI 0)), (8, .int (nI 0)), (0, .ref o), (1, .int (nI n9)), (2, .int (nI u1)), (3, .int (nI u2)), (4, .int (nI u3)), (5, .int (nI u4)), (6, .int (nI u5)), (7, .int (nI u6))]) hE.x hE.b dX9_isCalled_24 hl (by decide) rfl (fun ls hl => ?_)
      exact k26 (n9 - 0 + 1) 0 false _ _ _ (Nat.lt_succ_self _) (by omega) ⟨fun z => (by cases z), fun z => absurd z.2.1 (by omega)⟩ hB (lv_sub hl [2, 3, 4, 5, 6, 7, 8, 9, 1, 0] rfl)
    · refine lv_iconst (v := nI 1) hE.x hE.b dX9_isCalled_16 rfl ?_
      refine lv_goto (tgt := 21) hE.x hE.b dX9_isCalled_17 (by decide) ?_
      refine lv_istore (lv' := [(8, .int (nI 1)), (0, .ref o), (1, .int (nI n9)), (2, .int (nI u1)), (3, .int (nI u2)), (4, .int (nI u3)), (5, .int (nI u4)), (6, .int (nI u5)), (7, .int (nI u6))]) hE.x hE.b dX9_isCalled_21 hl (by decide) rfl (fun ls hl => ?_)
      refine lv_iconst (v := nI 0) hE.x hE.b dX9_isCalled_23 rfl ?_
      refine lv_istore (lv' := [(9, .int (nI 0)), (8, .int (nI 1)), (0, .ref o), (1, .int (nI n9)), (2, .int (nI u1)), (3, .int (nI u2)), (4, .int (nI u3)), (5, .int (nI u4)), (6, .int (nI u5)), (7, .int (nI u6))]) hE.x hE.b dX9_isCalled_24 hl (by decide) rfl (fun ls hl => ?_)
      exact k26 (n9 - 0 + 1) 0 true _ _ _ (Nat.lt_succ_self _) (by omega) ⟨fun _ => ⟨by omega, by omega, fun i hi => absurd hi (Nat.not_lt_zero i)⟩, fun _ => rfl⟩ hB (lv_sub hl [2, 3, 4, 5, 6, 7, 8, 9, 1, 0] rfl)

set_option maxHeartbeats 4000000 in
set_option maxRecDepth 100000 in
theorem c_X9_takes (l : Launch) (g : zG) (o : Nat) (a : Nat → Nat) (F : Nat → Int32) (L : Nat → Int64) (A : Nat → Nat → Int32) (X : va_W) (ln : Nat) (q : Nat) (z9 : Nat) (lo : Int32) (hi : Int32) (LO : Int) (HI : Int) (htk : tkS F (A 5) ln q) (hql : q ≤ ln) (hl150 : ln ≤ 150) (hby : byOK (A 5) ln) (hz9 : z9 < 5) (hlo : lo.toInt = LO) (hhi : hi.toInt = HI) : Met l yX9_takes (Cond.code yX9_takes cX9_takes 4 (some .boolean) :: TBL) { frames := 4, cells := 0, slots := 0, locals := 89 } (zPc [.ref o, .int (nI z9), .int lo, .int hi] g (mW g o a F L A ++ X)) (zQi g (fun r ws => ∃ (F1 : Nat → Int32) (f7 : Nat → Int32), r = bI (tkB (A 5) ln q LO HI) ∧ ws = mW g o a F1 L (updA A 7 f7) ++ X ∧ tkS F1 (A 5) ln (if tkB (A 5) ln q LO HI = true then nx (A 5) ln q else q) ∧ f7 = (if tkB (A 5) ln q LO HI = true then upd (A 7) z9 (nI (vl (A 5) ln q)) else A 7))) 0 0 (zA (gz g)) := by
  refine z_start (by decide +kernel) rfl (Nat.le_of_ble_eq_true rfl) ?_
  intro p e s m args below meth c ls hE hr hnm hB hl
  have hl : lv_has ls 4 [(0, .ref o), (1, .int (nI z9)), (2, .int lo), (3, .int hi)] := hl
  revert hB
  generalize s.heap = H
  generalize ([] : List Loc) = locs
  intro hB
  have hkl := kd_le (b := A 5) (ln := ln) (q := q)
  have hv9 := vl_99 (b := A 5) (ln := ln) (q := q)
  refine lv_aload_n hE.x hE.b dX9_takes_0 rfl (lv_at hl 0 rfl) ?_
  refine z_get (v := .int (F 19)) hE hB inX9 0 rfl rfl 19 (by decide) q4_20 (fun _ h9 => h9) rfl dX9_takes_1 ?_
  refine z_top (y := (nI (kd (A 5) ln q))) htk.2.2.1 ?_
  refine lv_iconst (v := nI 2) hE.x hE.b dX9_takes_4 rfl ?_
  refine z_ne (tgt := 23) (X := (((kd (A 5) ln q) : Nat) : Int)) (Y := (2 : Int)) hE dX9_takes_5 (by decide) (nI_toInt (n := (kd (A 5) ln q)) (by omega)) rfl (fun c_1 => ?_) (fun c_1 => ?_)
  · refine lv_iconst (v := nI 0) hE.x hE.b dX9_takes_23 rfl ?_
    exact z_bret (b := false) (ws := mW g o a F L A ++ X) hE hB hr (⟨F, A 7, by rw [show tkB (A 5) ln q LO HI = false from by unfold tkB; rw [decide_eq_false (by omega)]; rfl], rfl, by rw [show tkB (A 5) ln q LO HI = false from by unfold tkB; rw [decide_eq_false (by omega)]; rfl]; exact htk, by rw [show tkB (A 5) ln q LO HI = false from by unfold tkB; rw [decide_eq_false (by omega)]; rfl]; rfl⟩) dX9_takes_24
  · refine lv_aload_n hE.x hE.b dX9_takes_8 rfl (lv_at hl 0 rfl) ?_
    refine z_get (v := .int (F 20)) hE hB inX9 0 rfl rfl 20 (by decide) q4_21 (fun _ h9 => h9) rfl dX9_takes_9 ?_
    refine z_top (y := (nI (vl (A 5) ln q))) htk.2.2.2.1 ?_
    refine lv_i2l (v := lN (vl (A 5) ln q)) hE.x hE.b dX9_takes_12 (nI_l (by omega)) ?_
    refine lv_iload_n hE.x hE.b dX9_takes_13 rfl (lv_at hl 2 rfl) ?_
    refine lv_i2l hE.x hE.b dX9_takes_14 rfl ?_
    refine lv_iload_n hE.x hE.b dX9_takes_15 rfl (lv_at hl 3 rfl) ?_
    refine lv_i2l hE.x hE.b dX9_takes_16 rfl ?_
    refine z_qi hB (z_cS hE hB (c_X9_in l g (lN (vl (A 5) ln q)) (Int32.toInt64 lo) (Int32.toInt64 hi) ((vl (A 5) ln q : Nat) : Int) LO HI (mW g o a F L A ++ X) (lN_toInt (by omega)) ((Int32.toInt_toInt64 _).trans hlo) ((Int32.toInt_toInt64 _).trans hhi)) q4_88 kX9_in ⟨rfl, rfl⟩ ⟨Nat.le_of_ble_eq_true rfl, Nat.le_of_ble_eq_true rfl⟩ rfl hl.1 rfl (Nat.le_of_ble_eq_true rfl) dX9_takes_17 ⟨Nat.le_of_ble_eq_true rfl, Nat.le_of_ble_eq_true rfl⟩) (fun r_2 w_3 H locs hw hB => ?_)
    obtain ⟨hr9, hw9⟩ := hw
    have hr9 := hr9.symm
    subst hr9
    have hw9 := hw9.symm
    subst hw9
    refine z_bt (b := (inZ LO HI ((vl (A 5) ln q : Nat) : Int))) (tgt := 25) hE dX9_takes_20 (by decide) (fun c_4 => ?_) (fun c_4 => ?_)
    · refine lv_aload_n hE.x hE.b dX9_takes_25 rfl (lv_at hl 0 rfl) ?_
      refine z_get (v := .ref (a 7)) hE hB inX9 0 rfl rfl 22 (by decide) q4_23 (fun _ h9 => h9) rfl dX9_takes_26 ?_
      refine lv_iload_n hE.x hE.b dX9_takes_29 rfl (lv_at hl 1 rfl) ?_
      refine lv_aload_n hE.x hE.b dX9_takes_30 rfl (lv_at hl 0 rfl) ?_
      refine z_get (v := .int (F 20)) hE hB inX9 0 rfl rfl 20 (by decide) q4_21 (fun _ h9 => h9) rfl dX9_takes_31 ?_
      refine z_top (y := (nI (vl (A 5) ln q))) htk.2.2.2.1 ?_
      refine z_iast (k := z9) (f := (A 7)) (x := (nI (vl (A 5) ln q))) (ws' := mW g o a F L (updA A 7 (upd (A 7) z9 (nI (vl (A 5) ln q)))) ++ X) hE hB 8 rfl (by omega) (by decide) rfl dX9_takes_34 (fun H locs hB => ?_)
      refine lv_aload_n hE.x hE.b dX9_takes_35 rfl (lv_at hl 0 rfl) ?_
      refine z_qv hB (z_cV hE hB (c_X9_goOn l g o a F L (updA A 7 (upd (A 7) z9 (nI (vl (A 5) ln q)))) X ln q htk (by omega) (by omega) hby) q5_87 kX9_goOn ⟨rfl, rfl⟩ ⟨Nat.le_of_ble_eq_true rfl, Nat.le_of_ble_eq_true rfl⟩ 0 rfl rfl rfl hl.1 rfl (Nat.le_of_ble_eq_true rfl) dX9_takes_36 ⟨Nat.le_of_ble_eq_true rfl, Nat.le_of_ble_eq_true rfl⟩) (fun w_6 H locs hw hB => ?_)
      obtain ⟨F1_7, hw9, hf_8⟩ := hw
      have hw9 := hw9.symm
      subst hw9
      have hf_8 : tkS F1_7 (A 5) ln (nx (A 5) ln q) := hf_8
      refine lv_iconst (v := nI 1) hE.x hE.b dX9_takes_39 rfl ?_
      exact z_bret (b := true) (ws := mW g o a F1_7 L (updA A 7 (upd (A 7) z9 (nI (vl (A 5) ln q)))) ++ X) hE hB hr (⟨F1_7, upd (A 7) z9 (nI (vl (A 5) ln q)), by rw [show tkB (A 5) ln q LO HI = true from by unfold tkB; rw [decide_eq_true (by omega), c_4]; rfl], rfl, by rw [show tkB (A 5) ln q LO HI = true from by unfold tkB; rw [decide_eq_true (by omega), c_4]; rfl]; exact hf_8, by rw [show tkB (A 5) ln q LO HI = true from by unfold tkB; rw [decide_eq_true (by omega), c_4]; rfl]; rfl⟩) dX9_takes_40
    · refine lv_iconst (v := nI 0) hE.x hE.b dX9_takes_23 rfl ?_
      exact z_bret (b := false) (ws := mW g o a F L A ++ X) hE hB hr (⟨F, A 7, by rw [show tkB (A 5) ln q LO HI = false from by unfold tkB; rw [c_4]; exact Bool.and_false _], rfl, by rw [show tkB (A 5) ln q LO HI = false from by unfold tkB; rw [c_4]; exact Bool.and_false _]; exact htk, by rw [show tkB (A 5) ln q LO HI = false from by unfold tkB; rw [c_4]; exact Bool.and_false _]; rfl⟩) dX9_takes_24
