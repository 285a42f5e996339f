theorem dX10_amountOf_0 : decode cX10_amountOf 0 = .ok (.aload_n 0, 1) := by decide +kernel
theorem dX10_amountOf_1 : decode cX10_amountOf 1 = .ok (.getfield 7, 3) := by decide +kernel
theorem dX10_amountOf_4 : decode cX10_amountOf 4 = .ok (.iload_n 1, 1) := by decide +kernel
theorem dX10_amountOf_5 : decode cX10_amountOf 5 = .ok (.iaload, 1) := by decide +kernel
theorem dX10_amountOf_6 : decode cX10_amountOf 6 = .ok (.iconst 2, 1) := by decide +kernel
theorem dX10_amountOf_7 : decode cX10_amountOf 7 = .ok (.if_icmp .ne 15, 3) := by decide +kernel
theorem dX10_amountOf_10 : decode cX10_amountOf 10 = .ok (.ldc2_w 170, 3) := by decide +kernel
theorem dX10_amountOf_13 : decode cX10_amountOf 13 = .ok (.aload_n 0, 1) := by decide +kernel
theorem dX10_amountOf_14 : decode cX10_amountOf 14 = .ok (.getfield 41, 3) := by decide +kernel
theorem dX10_amountOf_17 : decode cX10_amountOf 17 = .ok (.iload_n 1, 1) := by decide +kernel
theorem dX10_amountOf_18 : decode cX10_amountOf 18 = .ok (.iaload, 1) := by decide +kernel
theorem dX10_amountOf_19 : decode cX10_amountOf 19 = .ok (.i2l, 1) := by decide +kernel
theorem dX10_amountOf_20 : decode cX10_amountOf 20 = .ok (.lmul, 1) := by decide +kernel
theorem dX10_amountOf_21 : decode cX10_amountOf 21 = .ok (.lreturn, 1) := by decide +kernel
theorem dX10_amountOf_22 : decode cX10_amountOf 22 = .ok (.bipush 30, 2) := by decide +kernel
theorem dX10_amountOf_24 : decode cX10_amountOf 24 = .ok (.iload_n 1, 1) := by decide +kernel
theorem dX10_amountOf_25 : decode cX10_amountOf 25 = .ok (.imul, 1) := by decide +kernel
theorem dX10_amountOf_26 : decode cX10_amountOf 26 = .ok (.istore_n 2, 1) := by decide +kernel
theorem dX10_amountOf_27 : decode cX10_amountOf 27 = .ok (.iload_n 2, 1) := by decide +kernel
theorem dX10_amountOf_28 : decode cX10_amountOf 28 = .ok (.aload_n 0, 1) := by decide +kernel
theorem dX10_amountOf_29 : decode cX10_amountOf 29 = .ok (.getfield 38, 3) := by decide +kernel
theorem dX10_amountOf_32 : decode cX10_amountOf 32 = .ok (.iload_n 1, 1) := by decide +kernel
theorem dX10_amountOf_33 : decode cX10_amountOf 33 = .ok (.iaload, 1) := by decide +kernel
theorem dX10_amountOf_34 : decode cX10_amountOf 34 = .ok (.iadd, 1) := by decide +kernel
theorem dX10_amountOf_35 : decode cX10_amountOf 35 = .ok (.istore_n 3, 1) := by decide +kernel
theorem dX10_amountOf_36 : decode cX10_amountOf 36 = .ok (.iload_n 2, 1) := by decide +kernel
theorem dX10_amountOf_37 : decode cX10_amountOf 37 = .ok (.iload_n 3, 1) := by decide +kernel
theorem dX10_amountOf_38 : decode cX10_amountOf 38 = .ok (.if_icmp .ne 5, 3) := by decide +kernel
theorem dX10_amountOf_41 : decode cX10_amountOf 41 = .ok (.lconst 0, 1) := by decide +kernel
theorem dX10_amountOf_42 : decode cX10_amountOf 42 = .ok (.lreturn, 1) := by decide +kernel
theorem dX10_amountOf_43 : decode cX10_amountOf 43 = .ok (.aload_n 0, 1) := by decide +kernel
theorem dX10_amountOf_44 : decode cX10_amountOf 44 = .ok (.getfield 35, 3) := by decide +kernel
theorem dX10_amountOf_47 : decode cX10_amountOf 47 = .ok (.iload_n 2, 1) := by decide +kernel
theorem dX10_amountOf_48 : decode cX10_amountOf 48 = .ok (.iaload, 1) := by decide +kernel
theorem dX10_amountOf_49 : decode cX10_amountOf 49 = .ok (.bipush 45, 2) := by decide +kernel
theorem dX10_amountOf_51 : decode cX10_amountOf 51 = .ok (.if_icmp .ne 9, 3) := by decide +kernel
theorem dX10_amountOf_54 : decode cX10_amountOf 54 = .ok (.iload_n 2, 1) := by decide +kernel
theorem dX10_amountOf_55 : decode cX10_amountOf 55 = .ok (.iconst 1, 1) := by decide +kernel
theorem dX10_amountOf_56 : decode cX10_amountOf 56 = .ok (.iadd, 1) := by decide +kernel
theorem dX10_amountOf_57 : decode cX10_amountOf 57 = .ok (.goto 4, 3) := by decide +kernel
theorem dX10_amountOf_60 : decode cX10_amountOf 60 = .ok (.iload_n 2, 1) := by decide +kernel
theorem dX10_amountOf_61 : decode cX10_amountOf 61 = .ok (.istore 4, 2) := by decide +kernel
theorem dX10_amountOf_63 : decode cX10_amountOf 63 = .ok (.lconst 0, 1) := by decide +kernel
theorem dX10_amountOf_64 : decode cX10_amountOf 64 = .ok (.lstore 5, 2) := by decide +kernel
theorem dX10_amountOf_66 : decode cX10_amountOf 66 = .ok (.iconst 0, 1) := by decide +kernel
theorem dX10_amountOf_67 : decode cX10_amountOf 67 = .ok (.istore 7, 2) := by decide +kernel
theorem dX10_amountOf_69 : decode cX10_amountOf 69 = .ok (.iload 4, 2) := by decide +kernel
theorem dX10_amountOf_71 : decode cX10_amountOf 71 = .ok (.iload_n 3, 1) := by decide +kernel
theorem dX10_amountOf_72 : decode cX10_amountOf 72 = .ok (.if_icmp .ge 53, 3) := by decide +kernel
theorem dX10_amountOf_75 : decode cX10_amountOf 75 = .ok (.aload_n 0, 1) := by decide +kernel
theorem dX10_amountOf_76 : decode cX10_amountOf 76 = .ok (.getfield 35, 3) := by decide +kernel
theorem dX10_amountOf_79 : decode cX10_amountOf 79 = .ok (.iload 4, 2) := by decide +kernel
theorem dX10_amountOf_81 : decode cX10_amountOf 81 = .ok (.iaload, 1) := by decide +kernel
theorem dX10_amountOf_82 : decode cX10_amountOf 82 = .ok (.i2l, 1) := by decide +kernel
theorem dX10_amountOf_83 : decode cX10_amountOf 83 = .ok (.ldc2_w 172, 3) := by decide +kernel
theorem dX10_amountOf_86 : decode cX10_amountOf 86 = .ok (.ldc2_w 174, 3) := by decide +kernel
theorem dX10_amountOf_89 : decode cX10_amountOf 89 = .ok (.invokestatic 115, 3) := by decide +kernel
theorem dX10_amountOf_92 : decode cX10_amountOf 92 = .ok (.ifCond .eq 33, 3) := by decide +kernel
theorem dX10_amountOf_95 : decode cX10_amountOf 95 = .ok (.ldc2_w 176, 3) := by decide +kernel
theorem dX10_amountOf_98 : decode cX10_amountOf 98 = .ok (.lload 5, 2) := by decide +kernel
theorem dX10_amountOf_100 : decode cX10_amountOf 100 = .ok (.lmul, 1) := by decide +kernel
theorem dX10_amountOf_101 : decode cX10_amountOf 101 = .ok (.aload_n 0, 1) := by decide +kernel
theorem dX10_amountOf_102 : decode cX10_amountOf 102 = .ok (.getfield 35, 3) := by decide +kernel
theorem dX10_amountOf_105 : decode cX10_amountOf 105 = .ok (.iload 4, 2) := by decide +kernel
theorem dX10_amountOf_107 : decode cX10_amountOf 107 = .ok (.iaload, 1) := by decide +kernel
theorem dX10_amountOf_108 : decode cX10_amountOf 108 = .ok (.i2l, 1) := by decide +kernel
theorem dX10_amountOf_109 : decode cX10_amountOf 109 = .ok (.ladd, 1) := by decide +kernel
theorem dX10_amountOf_110 : decode cX10_amountOf 110 = .ok (.ldc2_w 172, 3) := by decide +kernel
theorem dX10_amountOf_113 : decode cX10_amountOf 113 = .ok (.lsub, 1) := by decide +kernel
theorem dX10_amountOf_114 : decode cX10_amountOf 114 = .ok (.lstore 5, 2) := by decide +kernel
theorem dX10_amountOf_116 : decode cX10_amountOf 116 = .ok (.iinc 7 1, 3) := by decide +kernel
theorem dX10_amountOf_119 : decode cX10_amountOf 119 = .ok (.iinc 4 1, 3) := by decide +kernel
theorem dX10_amountOf_122 : decode cX10_amountOf 122 = .ok (.goto (-53), 3) := by decide +kernel
theorem dX10_amountOf_125 : decode cX10_amountOf 125 = .ok (.iload 7, 2) := by decide +kernel
theorem dX10_amountOf_127 : decode cX10_amountOf 127 = .ok (.ifCond .le 14, 3) := by decide +kernel
theorem dX10_amountOf_130 : decode cX10_amountOf 130 = .ok (.iload 7, 2) := by decide +kernel
theorem dX10_amountOf_132 : decode cX10_amountOf 132 = .ok (.bipush 10, 2) := by decide +kernel
theorem dX10_amountOf_134 : decode cX10_amountOf 134 = .ok (.if_icmp .ge 7, 3) := by decide +kernel
theorem dX10_amountOf_137 : decode cX10_amountOf 137 = .ok (.iconst 1, 1) := by decide +kernel
theorem dX10_amountOf_138 : decode cX10_amountOf 138 = .ok (.goto 4, 3) := by decide +kernel
theorem dX10_amountOf_141 : decode cX10_amountOf 141 = .ok (.iconst 0, 1) := by decide +kernel
theorem dX10_amountOf_142 : decode cX10_amountOf 142 = .ok (.istore 8, 2) := by decide +kernel
theorem dX10_amountOf_144 : decode cX10_amountOf 144 = .ok (.iconst 0, 1) := by decide +kernel
theorem dX10_amountOf_145 : decode cX10_amountOf 145 = .ok (.istore 9, 2) := by decide +kernel
theorem dX10_amountOf_147 : decode cX10_amountOf 147 = .ok (.iload 4, 2) := by decide +kernel
theorem dX10_amountOf_149 : decode cX10_amountOf 149 = .ok (.iload_n 3, 1) := by decide +kernel
theorem dX10_amountOf_150 : decode cX10_amountOf 150 = .ok (.if_icmp .ge 97, 3) := by decide +kernel
theorem dX10_amountOf_153 : decode cX10_amountOf 153 = .ok (.aload_n 0, 1) := by decide +kernel
theorem dX10_amountOf_154 : decode cX10_amountOf 154 = .ok (.getfield 35, 3) := by decide +kernel
theorem dX10_amountOf_157 : decode cX10_amountOf 157 = .ok (.iload 4, 2) := by decide +kernel
theorem dX10_amountOf_159 : decode cX10_amountOf 159 = .ok (.iaload, 1) := by decide +kernel
theorem dX10_amountOf_160 : decode cX10_amountOf 160 = .ok (.bipush 46, 2) := by decide +kernel
theorem dX10_amountOf_162 : decode cX10_amountOf 162 = .ok (.if_icmp .ne 85, 3) := by decide +kernel
theorem dX10_amountOf_165 : decode cX10_amountOf 165 = .ok (.iinc 4 1, 3) := by decide +kernel
theorem dX10_amountOf_168 : decode cX10_amountOf 168 = .ok (.iload 4, 2) := by decide +kernel
theorem dX10_amountOf_170 : decode cX10_amountOf 170 = .ok (.iload_n 3, 1) := by decide +kernel
theorem dX10_amountOf_171 : decode cX10_amountOf 171 = .ok (.if_icmp .ge 53, 3) := by decide +kernel
theorem dX10_amountOf_174 : decode cX10_amountOf 174 = .ok (.aload_n 0, 1) := by decide +kernel
theorem dX10_amountOf_175 : decode cX10_amountOf 175 = .ok (.getfield 35, 3) := by decide +kernel
theorem dX10_amountOf_178 : decode cX10_amountOf 178 = .ok (.iload 4, 2) := by decide +kernel
theorem dX10_amountOf_180 : decode cX10_amountOf 180 = .ok (.iaload, 1) := by decide +kernel
theorem dX10_amountOf_181 : decode cX10_amountOf 181 = .ok (.i2l, 1) := by decide +kernel
theorem dX10_amountOf_182 : decode cX10_amountOf 182 = .ok (.ldc2_w 172, 3) := by decide +kernel
theorem dX10_amountOf_185 : decode cX10_amountOf 185 = .ok (.ldc2_w 174, 3) := by decide +kernel
theorem dX10_amountOf_188 : decode cX10_amountOf 188 = .ok (.invokestatic 115, 3) := by decide +kernel
theorem dX10_amountOf_191 : decode cX10_amountOf 191 = .ok (.ifCond .eq 33, 3) := by decide +kernel
theorem dX10_amountOf_194 : decode cX10_amountOf 194 = .ok (.ldc2_w 176, 3) := by decide +kernel
theorem dX10_amountOf_197 : decode cX10_amountOf 197 = .ok (.lload 5, 2) := by decide +kernel
theorem dX10_amountOf_199 : decode cX10_amountOf 199 = .ok (.lmul, 1) := by decide +kernel
theorem dX10_amountOf_200 : decode cX10_amountOf 200 = .ok (.aload_n 0, 1) := by decide +kernel
theorem dX10_amountOf_201 : decode cX10_amountOf 201 = .ok (.getfield 35, 3) := by decide +kernel
theorem dX10_amountOf_204 : decode cX10_amountOf 204 = .ok (.iload 4, 2) := by decide +kernel
theorem dX10_amountOf_206 : decode cX10_amountOf 206 = .ok (.iaload, 1) := by decide +kernel
theorem dX10_amountOf_207 : decode cX10_amountOf 207 = .ok (.i2l, 1) := by decide +kernel
theorem dX10_amountOf_208 : decode cX10_amountOf 208 = .ok (.ladd, 1) := by decide +kernel
theorem dX10_amountOf_209 : decode cX10_amountOf 209 = .ok (.ldc2_w 172, 3) := by decide +kernel
theorem dX10_amountOf_212 : decode cX10_amountOf 212 = .ok (.lsub, 1) := by decide +kernel
theorem dX10_amountOf_213 : decode cX10_amountOf 213 = .ok (.lstore 5, 2) := by decide +kernel
theorem dX10_amountOf_215 : decode cX10_amountOf 215 = .ok (.iinc 9 1, 3) := by decide +kernel
theorem dX10_amountOf_218 : decode cX10_amountOf 218 = .ok (.iinc 4 1, 3) := by decide +kernel
theorem dX10_amountOf_221 : decode cX10_amountOf 221 = .ok (.goto (-53), 3) := by decide +kernel
theorem dX10_amountOf_224 : decode cX10_amountOf 224 = .ok (.iload 8, 2) := by decide +kernel
theorem dX10_amountOf_226 : decode cX10_amountOf 226 = .ok (.ifCond .eq 18, 3) := by decide +kernel
theorem dX10_amountOf_229 : decode cX10_amountOf 229 = .ok (.iload 9, 2) := by decide +kernel
theorem dX10_amountOf_231 : decode cX10_amountOf 231 = .ok (.ifCond .le 13, 3) := by decide +kernel
theorem dX10_amountOf_234 : decode cX10_amountOf 234 = .ok (.iload 9, 2) := by decide +kernel
theorem dX10_amountOf_236 : decode cX10_amountOf 236 = .ok (.iconst 4, 1) := by decide +kernel
theorem dX10_amountOf_237 : decode cX10_amountOf 237 = .ok (.if_icmp .ge 7, 3) := by decide +kernel
theorem dX10_amountOf_240 : decode cX10_amountOf 240 = .ok (.iconst 1, 1) := by decide +kernel
theorem dX10_amountOf_241 : decode cX10_amountOf 241 = .ok (.goto 4, 3) := by decide +kernel
theorem dX10_amountOf_244 : decode cX10_amountOf 244 = .ok (.iconst 0, 1) := by decide +kernel
theorem dX10_amountOf_245 : decode cX10_amountOf 245 = .ok (.istore 8, 2) := by decide +kernel
theorem dX10_amountOf_247 : decode cX10_amountOf 247 = .ok (.iload 9, 2) := by decide +kernel
theorem dX10_amountOf_249 : decode cX10_amountOf 249 = .ok (.istore 10, 2) := by decide +kernel
theorem dX10_amountOf_251 : decode cX10_amountOf 251 = .ok (.iload 10, 2) := by decide +kernel
theorem dX10_amountOf_253 : decode cX10_amountOf 253 = .ok (.iconst 3, 1) := by decide +kernel
theorem dX10_amountOf_254 : decode cX10_amountOf 254 = .ok (.if_icmp .ge 17, 3) := by decide +kernel
theorem dX10_amountOf_257 : decode cX10_amountOf 257 = .ok (.ldc2_w 176, 3) := by decide +kernel
theorem dX10_amountOf_260 : decode cX10_amountOf 260 = .ok (.lload 5, 2) := by decide +kernel
theorem dX10_amountOf_262 : decode cX10_amountOf 262 = .ok (.lmul, 1) := by decide +kernel
theorem dX10_amountOf_263 : decode cX10_amountOf 263 = .ok (.lstore 5, 2) := by decide +kernel
theorem dX10_amountOf_265 : decode cX10_amountOf 265 = .ok (.iinc 10 1, 3) := by decide +kernel
theorem dX10_amountOf_268 : decode cX10_amountOf 268 = .ok (.goto (-17), 3) := by decide +kernel
theorem dX10_amountOf_271 : decode cX10_amountOf 271 = .ok (.iload 8, 2) := by decide +kernel
theorem dX10_amountOf_273 : decode cX10_amountOf 273 = .ok (.ifCond .eq 9, 3) := by decide +kernel
theorem dX10_amountOf_276 : decode cX10_amountOf 276 = .ok (.iload 4, 2) := by decide +kernel
theorem dX10_amountOf_278 : decode cX10_amountOf 278 = .ok (.iload_n 3, 1) := by decide +kernel
theorem dX10_amountOf_279 : decode cX10_amountOf 279 = .ok (.if_icmp .ge 9, 3) := by decide +kernel
theorem dX10_amountOf_282 : decode cX10_amountOf 282 = .ok (.ldc2_w 178, 3) := by decide +kernel
theorem dX10_amountOf_285 : decode cX10_amountOf 285 = .ok (.goto 22, 3) := by decide +kernel
theorem dX10_amountOf_288 : decode cX10_amountOf 288 = .ok (.aload_n 0, 1) := by decide +kernel
theorem dX10_amountOf_289 : decode cX10_amountOf 289 = .ok (.getfield 35, 3) := by decide +kernel
theorem dX10_amountOf_292 : decode cX10_amountOf 292 = .ok (.iload_n 2, 1) := by decide +kernel
theorem dX10_amountOf_293 : decode cX10_amountOf 293 = .ok (.iaload, 1) := by decide +kernel
theorem dX10_amountOf_294 : decode cX10_amountOf 294 = .ok (.bipush 45, 2) := by decide +kernel
theorem dX10_amountOf_296 : decode cX10_amountOf 296 = .ok (.if_icmp .ne 9, 3) := by decide +kernel
theorem dX10_amountOf_299 : decode cX10_amountOf 299 = .ok (.lload 5, 2) := by decide +kernel
theorem dX10_amountOf_301 : decode cX10_amountOf 301 = .ok (.lneg, 1) := by decide +kernel
theorem dX10_amountOf_302 : decode cX10_amountOf 302 = .ok (.goto 5, 3) := by decide +kernel
theorem dX10_amountOf_305 : decode cX10_amountOf 305 = .ok (.lload 5, 2) := by decide +kernel
theorem dX10_amountOf_307 : decode cX10_amountOf 307 = .ok (.lreturn, 1) := by decide +kernel
theorem dX10_put_0 : decode cX10_put 0 = .ok (.aload_n 0, 1) := by decide +kernel
theorem dX10_put_1 : decode cX10_put 1 = .ok (.getfield 84, 3) := by decide +kernel
theorem dX10_put_4 : decode cX10_put 4 = .ok (.aload_n 0, 1) := by decide +kernel
theorem dX10_put_5 : decode cX10_put 5 = .ok (.getfield 180, 3) := by decide +kernel
theorem dX10_put_8 : decode cX10_put 8 = .ok (.iload_n 1, 1) := by decide +kernel
theorem dX10_put_9 : decode cX10_put 9 = .ok (.iastore, 1) := by decide +kernel
theorem dX10_put_10 : decode cX10_put 10 = .ok (.aload_n 0, 1) := by decide +kernel
theorem dX10_put_11 : decode cX10_put 11 = .ok (.dup, 1) := by decide +kernel
theorem dX10_put_12 : decode cX10_put 12 = .ok (.getfield 180, 3) := by decide +kernel
theorem dX10_put_15 : decode cX10_put 15 = .ok (.iconst 1, 1) := by decide +kernel
theorem dX10_put_16 : decode cX10_put 16 = .ok (.iadd, 1) := by decide +kernel
theorem dX10_put_17 : decode cX10_put 17 = .ok (.putfield 180, 3) := by decide +kernel
theorem dX10_put_20 : decode cX10_put 20 = .ok (.return_, 1) := by decide +kernel
theorem dX10_putNumber_0 : decode cX10_putNumber 0 = .ok (.lconst 1, 1) := by decide +kernel
theorem dX10_putNumber_1 : decode cX10_putNumber 1 = .ok (.lstore 4, 2) := by decide +kernel
theorem dX10_putNumber_3 : decode cX10_putNumber 3 = .ok (.iconst 1, 1) := by decide +kernel
theorem dX10_putNumber_4 : decode cX10_putNumber 4 = .ok (.istore 6, 2) := by decide +kernel
theorem dX10_putNumber_6 : decode cX10_putNumber 6 = .ok (.lload_n 1, 1) := by decide +kernel
theorem dX10_putNumber_7 : decode cX10_putNumber 7 = .ok (.lload 4, 2) := by decide +kernel
theorem dX10_putNumber_9 : decode cX10_putNumber 9 = .ok (.ldiv, 1) := by decide +kernel
theorem dX10_putNumber_10 : decode cX10_putNumber 10 = .ok (.ldc2_w 176, 3) := by decide +kernel
theorem dX10_putNumber_13 : decode cX10_putNumber 13 = .ok (.lcmp, 1) := by decide +kernel
theorem dX10_putNumber_14 : decode cX10_putNumber 14 = .ok (.ifCond .lt 17, 3) := by decide +kernel
theorem dX10_putNumber_17 : decode cX10_putNumber 17 = .ok (.ldc2_w 176, 3) := by decide +kernel
theorem dX10_putNumber_20 : decode cX10_putNumber 20 = .ok (.lload 4, 2) := by decide +kernel
theorem dX10_putNumber_22 : decode cX10_putNumber 22 = .ok (.lmul, 1) := by decide +kernel
theorem dX10_putNumber_23 : decode cX10_putNumber 23 = .ok (.lstore 4, 2) := by decide +kernel
theorem dX10_putNumber_25 : decode cX10_putNumber 25 = .ok (.iinc 6 1, 3) := by decide +kernel
theorem dX10_putNumber_28 : decode cX10_putNumber 28 = .ok (.goto (-22), 3) := by decide +kernel
theorem dX10_putNumber_31 : decode cX10_putNumber 31 = .ok (.iload 6, 2) := by decide +kernel
theorem dX10_putNumber_33 : decode cX10_putNumber 33 = .ok (.istore 7, 2) := by decide +kernel
theorem dX10_putNumber_35 : decode cX10_putNumber 35 = .ok (.iload 7, 2) := by decide +kernel
theorem dX10_putNumber_37 : decode cX10_putNumber 37 = .ok (.ifCond .le 58, 3) := by decide +kernel
theorem dX10_putNumber_40 : decode cX10_putNumber 40 = .ok (.aload_n 0, 1) := by decide +kernel
theorem dX10_putNumber_41 : decode cX10_putNumber 41 = .ok (.ldc2_w 172, 3) := by decide +kernel
theorem dX10_putNumber_44 : decode cX10_putNumber 44 = .ok (.lload_n 1, 1) := by decide +kernel
theorem dX10_putNumber_45 : decode cX10_putNumber 45 = .ok (.lload 4, 2) := by decide +kernel
theorem dX10_putNumber_47 : decode cX10_putNumber 47 = .ok (.ldiv, 1) := by decide +kernel
theorem dX10_putNumber_48 : decode cX10_putNumber 48 = .ok (.ldc2_w 176, 3) := by decide +kernel
theorem dX10_putNumber_51 : decode cX10_putNumber 51 = .ok (.lrem, 1) := by decide +kernel
theorem dX10_putNumber_52 : decode cX10_putNumber 52 = .ok (.ladd, 1) := by decide +kernel
theorem dX10_putNumber_53 : decode cX10_putNumber 53 = .ok (.l2i, 1) := by decide +kernel
theorem dX10_putNumber_54 : decode cX10_putNumber 54 = .ok (.invokevirtual 183, 3) := by decide +kernel
theorem dX10_putNumber_57 : decode cX10_putNumber 57 = .ok (.lload 4, 2) := by decide +kernel
theorem dX10_putNumber_59 : decode cX10_putNumber 59 = .ok (.ldc2_w 176, 3) := by decide +kernel
theorem dX10_putNumber_62 : decode cX10_putNumber 62 = .ok (.ldiv, 1) := by decide +kernel
theorem dX10_putNumber_63 : decode cX10_putNumber 63 = .ok (.lstore 4, 2) := by decide +kernel
theorem dX10_putNumber_65 : decode cX10_putNumber 65 = .ok (.iload_n 3, 1) := by decide +kernel
theorem dX10_putNumber_66 : decode cX10_putNumber 66 = .ok (.ifCond .eq 23, 3) := by decide +kernel
theorem dX10_putNumber_69 : decode cX10_putNumber 69 = .ok (.iload 7, 2) := by decide +kernel
theorem dX10_putNumber_71 : decode cX10_putNumber 71 = .ok (.iconst 1, 1) := by decide +kernel
theorem dX10_putNumber_72 : decode cX10_putNumber 72 = .ok (.if_icmp .le 17, 3) := by decide +kernel
theorem dX10_putNumber_75 : decode cX10_putNumber 75 = .ok (.iload 7, 2) := by decide +kernel
theorem dX10_putNumber_77 : decode cX10_putNumber 77 = .ok (.iconst 3, 1) := by decide +kernel
theorem dX10_putNumber_78 : decode cX10_putNumber 78 = .ok (.irem, 1) := by decide +kernel
theorem dX10_putNumber_79 : decode cX10_putNumber 79 = .ok (.iconst 1, 1) := by decide +kernel
theorem dX10_putNumber_80 : decode cX10_putNumber 80 = .ok (.if_icmp .ne 9, 3) := by decide +kernel
theorem dX10_putNumber_83 : decode cX10_putNumber 83 = .ok (.aload_n 0, 1) := by decide +kernel
theorem dX10_putNumber_84 : decode cX10_putNumber 84 = .ok (.bipush 44, 2) := by decide +kernel
theorem dX10_putNumber_86 : decode cX10_putNumber 86 = .ok (.invokevirtual 183, 3) := by decide +kernel
theorem dX10_putNumber_89 : decode cX10_putNumber 89 = .ok (.iinc 7 (-1), 3) := by decide +kernel
theorem dX10_putNumber_92 : decode cX10_putNumber 92 = .ok (.goto (-57), 3) := by decide +kernel
theorem dX10_putNumber_95 : decode cX10_putNumber 95 = .ok (.return_, 1) := by decide +kernel
theorem dX10_putAmount_0 : decode cX10_putAmount 0 = .ok (.lload_n 1, 1) := by decide +kernel
theorem dX10_putAmount_1 : decode cX10_putAmount 1 = .ok (.lconst 0, 1) := by decide +kernel
theorem dX10_putAmount_2 : decode cX10_putAmount 2 = .ok (.lcmp, 1) := by decide +kernel
theorem dX10_putAmount_3 : decode cX10_putAmount 3 = .ok (.ifCond .ge 8, 3) := by decide +kernel
theorem dX10_putAmount_6 : decode cX10_putAmount 6 = .ok (.lload_n 1, 1) := by decide +kernel
theorem dX10_putAmount_7 : decode cX10_putAmount 7 = .ok (.lneg, 1) := by decide +kernel
theorem dX10_putAmount_8 : decode cX10_putAmount 8 = .ok (.goto 4, 3) := by decide +kernel
theorem dX10_putAmount_11 : decode cX10_putAmount 11 = .ok (.lload_n 1, 1) := by decide +kernel
theorem dX10_putAmount_12 : decode cX10_putAmount 12 = .ok (.lstore_n 3, 1) := by decide +kernel
theorem dX10_putAmount_13 : decode cX10_putAmount 13 = .ok (.lload_n 1, 1) := by decide +kernel
theorem dX10_putAmount_14 : decode cX10_putAmount 14 = .ok (.lconst 0, 1) := by decide +kernel
theorem dX10_putAmount_15 : decode cX10_putAmount 15 = .ok (.lcmp, 1) := by decide +kernel
theorem dX10_putAmount_16 : decode cX10_putAmount 16 = .ok (.ifCond .ge 9, 3) := by decide +kernel
theorem dX10_putAmount_19 : decode cX10_putAmount 19 = .ok (.aload_n 0, 1) := by decide +kernel
theorem dX10_putAmount_20 : decode cX10_putAmount 20 = .ok (.bipush 45, 2) := by decide +kernel
theorem dX10_putAmount_22 : decode cX10_putAmount 22 = .ok (.invokevirtual 183, 3) := by decide +kernel
theorem dX10_putAmount_25 : decode cX10_putAmount 25 = .ok (.aload_n 0, 1) := by decide +kernel
theorem dX10_putAmount_26 : decode cX10_putAmount 26 = .ok (.lload_n 3, 1) := by decide +kernel
theorem dX10_putAmount_27 : decode cX10_putAmount 27 = .ok (.ldc2_w 170, 3) := by decide +kernel
theorem dX10_putAmount_30 : decode cX10_putAmount 30 = .ok (.ldiv, 1) := by decide +kernel
theorem dX10_putAmount_31 : decode cX10_putAmount 31 = .ok (.iconst 0, 1) := by decide +kernel
theorem dX10_putAmount_32 : decode cX10_putAmount 32 = .ok (.invokevirtual 187, 3) := by decide +kernel
theorem dX10_putAmount_35 : decode cX10_putAmount 35 = .ok (.lload_n 3, 1) := by decide +kernel
theorem dX10_putAmount_36 : decode cX10_putAmount 36 = .ok (.ldc2_w 170, 3) := by decide +kernel
theorem dX10_putAmount_39 : decode cX10_putAmount 39 = .ok (.lrem, 1) := by decide +kernel
theorem dX10_putAmount_40 : decode cX10_putAmount 40 = .ok (.lstore 5, 2) := by decide +kernel
theorem dX10_putAmount_42 : decode cX10_putAmount 42 = .ok (.lload 5, 2) := by decide +kernel
theorem dX10_putAmount_44 : decode cX10_putAmount 44 = .ok (.lconst 0, 1) := by decide +kernel
theorem dX10_putAmount_45 : decode cX10_putAmount 45 = .ok (.lcmp, 1) := by decide +kernel
theorem dX10_putAmount_46 : decode cX10_putAmount 46 = .ok (.ifCond .le 46, 3) := by decide +kernel
theorem dX10_putAmount_49 : decode cX10_putAmount 49 = .ok (.aload_n 0, 1) := by decide +kernel
theorem dX10_putAmount_50 : decode cX10_putAmount 50 = .ok (.bipush 46, 2) := by decide +kernel
theorem dX10_putAmount_52 : decode cX10_putAmount 52 = .ok (.invokevirtual 183, 3) := by decide +kernel
theorem dX10_putAmount_55 : decode cX10_putAmount 55 = .ok (.lload 5, 2) := by decide +kernel
theorem dX10_putAmount_57 : decode cX10_putAmount 57 = .ok (.lconst 0, 1) := by decide +kernel
theorem dX10_putAmount_58 : decode cX10_putAmount 58 = .ok (.lcmp, 1) := by decide +kernel
theorem dX10_putAmount_59 : decode cX10_putAmount 59 = .ok (.ifCond .le 33, 3) := by decide +kernel
theorem dX10_putAmount_62 : decode cX10_putAmount 62 = .ok (.aload_n 0, 1) := by decide +kernel
theorem dX10_putAmount_63 : decode cX10_putAmount 63 = .ok (.ldc2_w 172, 3) := by decide +kernel
theorem dX10_putAmount_66 : decode cX10_putAmount 66 = .ok (.lload 5, 2) := by decide +kernel
theorem dX10_putAmount_68 : decode cX10_putAmount 68 = .ok (.ldc2_w 191, 3) := by decide +kernel
theorem dX10_putAmount_71 : decode cX10_putAmount 71 = .ok (.ldiv, 1) := by decide +kernel
theorem dX10_putAmount_72 : decode cX10_putAmount 72 = .ok (.ladd, 1) := by decide +kernel
theorem dX10_putAmount_73 : decode cX10_putAmount 73 = .ok (.l2i, 1) := by decide +kernel
theorem dX10_putAmount_74 : decode cX10_putAmount 74 = .ok (.invokevirtual 183, 3) := by decide +kernel
theorem dX10_putAmount_77 : decode cX10_putAmount 77 = .ok (.lload 5, 2) := by decide +kernel
theorem dX10_putAmount_79 : decode cX10_putAmount 79 = .ok (.ldc2_w 191, 3) := by decide +kernel
theorem dX10_putAmount_82 : decode cX10_putAmount 82 = .ok (.lrem, 1) := by decide +kernel
theorem dX10_putAmount_83 : decode cX10_putAmount 83 = .ok (.ldc2_w 176, 3) := by decide +kernel
theorem dX10_putAmount_86 : decode cX10_putAmount 86 = .ok (.lmul, 1) := by decide +kernel
theorem dX10_putAmount_87 : decode cX10_putAmount 87 = .ok (.lstore 5, 2) := by decide +kernel
theorem dX10_putAmount_89 : decode cX10_putAmount 89 = .ok (.goto (-34), 3) := by decide +kernel
theorem dX10_putAmount_92 : decode cX10_putAmount 92 = .ok (.return_, 1) := by decide +kernel
theorem dX10_isAmount_0 : decode cX10_isAmount 0 = .ok (.aload_n 0, 1) := by decide +kernel
theorem dX10_isAmount_1 : decode cX10_isAmount 1 = .ok (.getfield 7, 3) := by decide +kernel
theorem dX10_isAmount_4 : decode cX10_isAmount 4 = .ok (.iload_n 1, 1) := by decide +kernel
theorem dX10_isAmount_5 : decode cX10_isAmount 5 = .ok (.iaload, 1) := by decide +kernel
theorem dX10_isAmount_6 : decode cX10_isAmount 6 = .ok (.iconst 5, 1) := by decide +kernel
theorem dX10_isAmount_7 : decode cX10_isAmount 7 = .ok (.if_icmp .eq 13, 3) := by decide +kernel
theorem dX10_isAmount_10 : decode cX10_isAmount 10 = .ok (.aload_n 0, 1) := by decide +kernel
theorem dX10_isAmount_11 : decode cX10_isAmount 11 = .ok (.getfield 7, 3) := by decide +kernel
theorem dX10_isAmount_14 : decode cX10_isAmount 14 = .ok (.iload_n 1, 1) := by decide +kernel
theorem dX10_isAmount_15 : decode cX10_isAmount 15 = .ok (.iaload, 1) := by decide +kernel
theorem dX10_isAmount_16 : decode cX10_isAmount 16 = .ok (.iconst 2, 1) := by decide +kernel
theorem dX10_isAmount_17 : decode cX10_isAmount 17 = .ok (.if_icmp .ne 7, 3) := by decide +kernel
theorem dX10_isAmount_20 : decode cX10_isAmount 20 = .ok (.iconst 1, 1) := by decide +kernel
theorem dX10_isAmount_21 : decode cX10_isAmount 21 = .ok (.goto 4, 3) := by decide +kernel
theorem dX10_isAmount_24 : decode cX10_isAmount 24 = .ok (.iconst 0, 1) := by decide +kernel
theorem dX10_isAmount_25 : decode cX10_isAmount 25 = .ok (.ireturn, 1) := by decide +kernel
theorem dX10_formula_0 : decode cX10_formula 0 = .ok (.iload_n 2, 1) := by decide +kernel
theorem dX10_formula_1 : decode cX10_formula 1 = .ok (.i2l, 1) := by decide +kernel
theorem dX10_formula_2 : decode cX10_formula 2 = .ok (.lconst 0, 1) := by decide +kernel
theorem dX10_formula_3 : decode cX10_formula 3 = .ok (.ldc2_w 113, 3) := by decide +kernel
theorem dX10_formula_6 : decode cX10_formula 6 = .ok (.invokestatic 115, 3) := by decide +kernel
theorem dX10_formula_9 : decode cX10_formula 9 = .ok (.istore 5, 2) := by decide +kernel
theorem dX10_formula_11 : decode cX10_formula 11 = .ok (.aload_n 0, 1) := by decide +kernel
theorem dX10_formula_12 : decode cX10_formula 12 = .ok (.aload_n 0, 1) := by decide +kernel
theorem dX10_formula_13 : decode cX10_formula 13 = .ok (.iload_n 1, 1) := by decide +kernel
theorem dX10_formula_14 : decode cX10_formula 14 = .ok (.invokevirtual 109, 3) := by decide +kernel
theorem dX10_formula_17 : decode cX10_formula 17 = .ok (.ifCond .ne 39, 3) := by decide +kernel
theorem dX10_formula_20 : decode cX10_formula 20 = .ok (.iload 5, 2) := by decide +kernel
theorem dX10_formula_22 : decode cX10_formula 22 = .ok (.ifCond .eq 20, 3) := by decide +kernel
theorem dX10_formula_25 : decode cX10_formula 25 = .ok (.aload_n 0, 1) := by decide +kernel
theorem dX10_formula_26 : decode cX10_formula 26 = .ok (.iload_n 3, 1) := by decide +kernel
theorem dX10_formula_27 : decode cX10_formula 27 = .ok (.invokevirtual 109, 3) := by decide +kernel
theorem dX10_formula_30 : decode cX10_formula 30 = .ok (.ifCond .ne 26, 3) := by decide +kernel
theorem dX10_formula_33 : decode cX10_formula 33 = .ok (.aload_n 0, 1) := by decide +kernel
theorem dX10_formula_34 : decode cX10_formula 34 = .ok (.iload 4, 2) := by decide +kernel
theorem dX10_formula_36 : decode cX10_formula 36 = .ok (.invokevirtual 109, 3) := by decide +kernel
theorem dX10_formula_39 : decode cX10_formula 39 = .ok (.ifCond .ne 17, 3) := by decide +kernel
theorem dX10_formula_42 : decode cX10_formula 42 = .ok (.iload_n 2, 1) := by decide +kernel
theorem dX10_formula_43 : decode cX10_formula 43 = .ok (.bipush 6, 2) := by decide +kernel
theorem dX10_formula_45 : decode cX10_formula 45 = .ok (.if_icmp .ne 15, 3) := by decide +kernel
theorem dX10_formula_48 : decode cX10_formula 48 = .ok (.aload_n 0, 1) := by decide +kernel
theorem dX10_formula_49 : decode cX10_formula 49 = .ok (.iload_n 3, 1) := by decide +kernel
theorem dX10_formula_50 : decode cX10_formula 50 = .ok (.invokevirtual 109, 3) := by decide +kernel
theorem dX10_formula_53 : decode cX10_formula 53 = .ok (.ifCond .eq 7, 3) := by decide +kernel
theorem dX10_formula_56 : decode cX10_formula 56 = .ok (.iconst 1, 1) := by decide +kernel
theorem dX10_formula_57 : decode cX10_formula 57 = .ok (.goto 4, 3) := by decide +kernel
theorem dX10_formula_60 : decode cX10_formula 60 = .ok (.iconst 0, 1) := by decide +kernel
theorem dX10_formula_61 : decode cX10_formula 61 = .ok (.putfield 102, 3) := by decide +kernel
theorem dX10_formula_64 : decode cX10_formula 64 = .ok (.aload_n 0, 1) := by decide +kernel
theorem dX10_formula_65 : decode cX10_formula 65 = .ok (.getfield 102, 3) := by decide +kernel
theorem dX10_formula_68 : decode cX10_formula 68 = .ok (.ifCond .le 5, 3) := by decide +kernel
theorem dX10_formula_71 : decode cX10_formula 71 = .ok (.iconst 0, 1) := by decide +kernel
theorem dX10_formula_72 : decode cX10_formula 72 = .ok (.ireturn, 1) := by decide +kernel
theorem dX10_formula_73 : decode cX10_formula 73 = .ok (.aload_n 0, 1) := by decide +kernel
theorem dX10_formula_74 : decode cX10_formula 74 = .ok (.getfield 7, 3) := by decide +kernel
theorem dX10_formula_77 : decode cX10_formula 77 = .ok (.iload_n 1, 1) := by decide +kernel
theorem dX10_formula_78 : decode cX10_formula 78 = .ok (.iaload, 1) := by decide +kernel
theorem dX10_formula_79 : decode cX10_formula 79 = .ok (.iconst 5, 1) := by decide +kernel
theorem dX10_formula_80 : decode cX10_formula 80 = .ok (.if_icmp .ne 58, 3) := by decide +kernel
theorem dX10_formula_83 : decode cX10_formula 83 = .ok (.iload_n 2, 1) := by decide +kernel
theorem dX10_formula_84 : decode cX10_formula 84 = .ok (.i2l, 1) := by decide +kernel
theorem dX10_formula_85 : decode cX10_formula 85 = .ok (.ldc2_w 193, 3) := by decide +kernel
theorem dX10_formula_88 : decode cX10_formula 88 = .ok (.ldc2_w 195, 3) := by decide +kernel
theorem dX10_formula_91 : decode cX10_formula 91 = .ok (.invokestatic 115, 3) := by decide +kernel
theorem dX10_formula_94 : decode cX10_formula 94 = .ok (.ifCond .eq 44, 3) := by decide +kernel
theorem dX10_formula_97 : decode cX10_formula 97 = .ok (.iload 5, 2) := by decide +kernel
theorem dX10_formula_99 : decode cX10_formula 99 = .ok (.ifCond .eq 20, 3) := by decide +kernel
theorem dX10_formula_102 : decode cX10_formula 102 = .ok (.aload_n 0, 1) := by decide +kernel
theorem dX10_formula_103 : decode cX10_formula 103 = .ok (.iload_n 3, 1) := by decide +kernel
theorem dX10_formula_104 : decode cX10_formula 104 = .ok (.invokevirtual 197, 3) := by decide +kernel
theorem dX10_formula_107 : decode cX10_formula 107 = .ok (.ifCond .eq 31, 3) := by decide +kernel
theorem dX10_formula_110 : decode cX10_formula 110 = .ok (.aload_n 0, 1) := by decide +kernel
theorem dX10_formula_111 : decode cX10_formula 111 = .ok (.iload 4, 2) := by decide +kernel
theorem dX10_formula_113 : decode cX10_formula 113 = .ok (.invokevirtual 197, 3) := by decide +kernel
theorem dX10_formula_116 : decode cX10_formula 116 = .ok (.ifCond .eq 22, 3) := by decide +kernel
theorem dX10_formula_119 : decode cX10_formula 119 = .ok (.iload_n 2, 1) := by decide +kernel
theorem dX10_formula_120 : decode cX10_formula 120 = .ok (.bipush 6, 2) := by decide +kernel
theorem dX10_formula_122 : decode cX10_formula 122 = .ok (.if_icmp .ne 12, 3) := by decide +kernel
theorem dX10_formula_125 : decode cX10_formula 125 = .ok (.aload_n 0, 1) := by decide +kernel
theorem dX10_formula_126 : decode cX10_formula 126 = .ok (.getfield 7, 3) := by decide +kernel
theorem dX10_formula_129 : decode cX10_formula 129 = .ok (.iload_n 3, 1) := by decide +kernel
theorem dX10_formula_130 : decode cX10_formula 130 = .ok (.iaload, 1) := by decide +kernel
theorem dX10_formula_131 : decode cX10_formula 131 = .ok (.ifCond .ne 7, 3) := by decide +kernel
theorem dX10_formula_134 : decode cX10_formula 134 = .ok (.iconst 1, 1) := by decide +kernel
theorem dX10_formula_135 : decode cX10_formula 135 = .ok (.goto 4, 3) := by decide +kernel
theorem dX10_formula_138 : decode cX10_formula 138 = .ok (.iconst 0, 1) := by decide +kernel
theorem dX10_formula_139 : decode cX10_formula 139 = .ok (.istore 6, 2) := by decide +kernel
theorem dX10_formula_141 : decode cX10_formula 141 = .ok (.aload_n 0, 1) := by decide +kernel
theorem dX10_formula_142 : decode cX10_formula 142 = .ok (.iload 6, 2) := by decide +kernel
theorem dX10_formula_144 : decode cX10_formula 144 = .ok (.ifCond .eq 7, 3) := by decide +kernel
theorem dX10_formula_147 : decode cX10_formula 147 = .ok (.iconst 0, 1) := by decide +kernel
theorem dX10_formula_148 : decode cX10_formula 148 = .ok (.goto 4, 3) := by decide +kernel
theorem dX10_formula_151 : decode cX10_formula 151 = .ok (.iconst 2, 1) := by decide +kernel
theorem dX10_formula_152 : decode cX10_formula 152 = .ok (.putfield 102, 3) := by decide +kernel
theorem dX10_formula_155 : decode cX10_formula 155 = .ok (.aload_n 0, 1) := by decide +kernel
theorem dX10_formula_156 : decode cX10_formula 156 = .ok (.getfield 102, 3) := by decide +kernel
theorem dX10_formula_159 : decode cX10_formula 159 = .ok (.ifCond .le 5, 3) := by decide +kernel
theorem dX10_formula_162 : decode cX10_formula 162 = .ok (.iconst 0, 1) := by decide +kernel
theorem dX10_formula_163 : decode cX10_formula 163 = .ok (.ireturn, 1) := by decide +kernel
theorem dX10_formula_164 : decode cX10_formula 164 = .ok (.aload_n 0, 1) := by decide +kernel
theorem dX10_formula_165 : decode cX10_formula 165 = .ok (.getfield 19, 3) := by decide +kernel
theorem dX10_formula_168 : decode cX10_formula 168 = .ok (.iload_n 1, 1) := by decide +kernel
theorem dX10_formula_169 : decode cX10_formula 169 = .ok (.iaload, 1) := by decide +kernel
theorem dX10_formula_170 : decode cX10_formula 170 = .ok (.istore 7, 2) := by decide +kernel
theorem dX10_formula_172 : decode cX10_formula 172 = .ok (.aload_n 0, 1) := by decide +kernel
theorem dX10_formula_173 : decode cX10_formula 173 = .ok (.getfield 60, 3) := by decide +kernel
theorem dX10_formula_176 : decode cX10_formula 176 = .ok (.iload 7, 2) := by decide +kernel
theorem dX10_formula_178 : decode cX10_formula 178 = .ok (.iaload, 1) := by decide +kernel
theorem dX10_formula_179 : decode cX10_formula 179 = .ok (.ifCond .lt 7, 3) := by decide +kernel
theorem dX10_formula_182 : decode cX10_formula 182 = .ok (.iconst 1, 1) := by decide +kernel
theorem dX10_formula_183 : decode cX10_formula 183 = .ok (.goto 4, 3) := by decide +kernel
theorem dX10_formula_186 : decode cX10_formula 186 = .ok (.iconst 0, 1) := by decide +kernel
theorem dX10_formula_187 : decode cX10_formula 187 = .ok (.istore 8, 2) := by decide +kernel
theorem dX10_formula_189 : decode cX10_formula 189 = .ok (.aload_n 0, 1) := by decide +kernel
theorem dX10_formula_190 : decode cX10_formula 190 = .ok (.getfield 60, 3) := by decide +kernel
theorem dX10_formula_193 : decode cX10_formula 193 = .ok (.iload 7, 2) := by decide +kernel
theorem dX10_formula_195 : decode cX10_formula 195 = .ok (.iload_n 2, 1) := by decide +kernel
theorem dX10_formula_196 : decode cX10_formula 196 = .ok (.iastore, 1) := by decide +kernel
theorem dX10_formula_197 : decode cX10_formula 197 = .ok (.aload_n 0, 1) := by decide +kernel
theorem dX10_formula_198 : decode cX10_formula 198 = .ok (.getfield 63, 3) := by decide +kernel
theorem dX10_formula_201 : decode cX10_formula 201 = .ok (.iload 7, 2) := by decide +kernel
theorem dX10_formula_203 : decode cX10_formula 203 = .ok (.iload 5, 2) := by decide +kernel
theorem dX10_formula_205 : decode cX10_formula 205 = .ok (.ifCond .eq 12, 3) := by decide +kernel
theorem dX10_formula_208 : decode cX10_formula 208 = .ok (.aload_n 0, 1) := by decide +kernel
theorem dX10_formula_209 : decode cX10_formula 209 = .ok (.getfield 19, 3) := by decide +kernel
theorem dX10_formula_212 : decode cX10_formula 212 = .ok (.iload_n 3, 1) := by decide +kernel
theorem dX10_formula_213 : decode cX10_formula 213 = .ok (.iaload, 1) := by decide +kernel
theorem dX10_formula_214 : decode cX10_formula 214 = .ok (.goto 4, 3) := by decide +kernel
theorem dX10_formula_217 : decode cX10_formula 217 = .ok (.iload_n 3, 1) := by decide +kernel
theorem dX10_formula_218 : decode cX10_formula 218 = .ok (.iastore, 1) := by decide +kernel
theorem dX10_formula_219 : decode cX10_formula 219 = .ok (.aload_n 0, 1) := by decide +kernel
theorem dX10_formula_220 : decode cX10_formula 220 = .ok (.getfield 66, 3) := by decide +kernel
theorem dX10_formula_223 : decode cX10_formula 223 = .ok (.iload 7, 2) := by decide +kernel
theorem dX10_formula_225 : decode cX10_formula 225 = .ok (.iload 5, 2) := by decide +kernel
theorem dX10_formula_227 : decode cX10_formula 227 = .ok (.ifCond .eq 13, 3) := by decide +kernel
theorem dX10_formula_230 : decode cX10_formula 230 = .ok (.aload_n 0, 1) := by decide +kernel
theorem dX10_formula_231 : decode cX10_formula 231 = .ok (.getfield 19, 3) := by decide +kernel
theorem dX10_formula_234 : decode cX10_formula 234 = .ok (.iload 4, 2) := by decide +kernel
theorem dX10_formula_236 : decode cX10_formula 236 = .ok (.iaload, 1) := by decide +kernel
theorem dX10_formula_237 : decode cX10_formula 237 = .ok (.goto 5, 3) := by decide +kernel
theorem dX10_formula_240 : decode cX10_formula 240 = .ok (.iload 4, 2) := by decide +kernel
theorem dX10_formula_242 : decode cX10_formula 242 = .ok (.iastore, 1) := by decide +kernel
theorem dX10_formula_243 : decode cX10_formula 243 = .ok (.iload 8, 2) := by decide +kernel
theorem dX10_formula_245 : decode cX10_formula 245 = .ok (.ireturn, 1) := by decide +kernel
theorem dX10_isUnder_0 : decode cX10_isUnder 0 = .ok (.aload_n 0, 1) := by decide +kernel
theorem dX10_isUnder_1 : decode cX10_isUnder 1 = .ok (.getfield 13, 3) := by decide +kernel
theorem dX10_isUnder_4 : decode cX10_isUnder 4 = .ok (.iload_n 1, 1) := by decide +kernel
theorem dX10_isUnder_5 : decode cX10_isUnder 5 = .ok (.iaload, 1) := by decide +kernel
theorem dX10_isUnder_6 : decode cX10_isUnder 6 = .ok (.istore_n 3, 1) := by decide +kernel
theorem dX10_isUnder_7 : decode cX10_isUnder 7 = .ok (.iload_n 3, 1) := by decide +kernel
theorem dX10_isUnder_8 : decode cX10_isUnder 8 = .ok (.ifCond .lt 18, 3) := by decide +kernel
theorem dX10_isUnder_11 : decode cX10_isUnder 11 = .ok (.iload_n 3, 1) := by decide +kernel
theorem dX10_isUnder_12 : decode cX10_isUnder 12 = .ok (.iload_n 2, 1) := by decide +kernel
theorem dX10_isUnder_13 : decode cX10_isUnder 13 = .ok (.if_icmp .eq 13, 3) := by decide +kernel
theorem dX10_isUnder_16 : decode cX10_isUnder 16 = .ok (.aload_n 0, 1) := by decide +kernel
theorem dX10_isUnder_17 : decode cX10_isUnder 17 = .ok (.getfield 13, 3) := by decide +kernel
theorem dX10_isUnder_20 : decode cX10_isUnder 20 = .ok (.iload_n 3, 1) := by decide +kernel
theorem dX10_isUnder_21 : decode cX10_isUnder 21 = .ok (.iaload, 1) := by decide +kernel
theorem dX10_isUnder_22 : decode cX10_isUnder 22 = .ok (.istore_n 3, 1) := by decide +kernel
theorem dX10_isUnder_23 : decode cX10_isUnder 23 = .ok (.goto (-16), 3) := by decide +kernel
theorem dX10_isUnder_26 : decode cX10_isUnder 26 = .ok (.iload_n 3, 1) := by decide +kernel
theorem dX10_isUnder_27 : decode cX10_isUnder 27 = .ok (.iload_n 2, 1) := by decide +kernel
theorem dX10_isUnder_28 : decode cX10_isUnder 28 = .ok (.if_icmp .ne 7, 3) := by decide +kernel
theorem dX10_isUnder_31 : decode cX10_isUnder 31 = .ok (.iconst 1, 1) := by decide +kernel
theorem dX10_isUnder_32 : decode cX10_isUnder 32 = .ok (.goto 4, 3) := by decide +kernel
theorem dX10_isUnder_35 : decode cX10_isUnder 35 = .ok (.iconst 0, 1) := by decide +kernel
theorem dX10_isUnder_36 : decode cX10_isUnder 36 = .ok (.ireturn, 1) := by decide +kernel
theorem dX10_has_0 : decode cX10_has 0 = .ok (.iconst 0, 1) := by decide +kernel
theorem dX10_has_1 : decode cX10_has 1 = .ok (.istore_n 3, 1) := by decide +kernel
theorem dX10_has_2 : decode cX10_has 2 = .ok (.iload_n 3, 1) := by decide +kernel
theorem dX10_has_3 : decode cX10_has 3 = .ok (.aload_n 0, 1) := by decide +kernel
theorem dX10_has_4 : decode cX10_has 4 = .ok (.getfield 106, 3) := by decide +kernel
theorem dX10_has_7 : decode cX10_has 7 = .ok (.if_icmp .ge 40, 3) := by decide +kernel
theorem dX10_has_10 : decode cX10_has 10 = .ok (.aload_n 0, 1) := by decide +kernel
theorem dX10_has_11 : decode cX10_has 11 = .ok (.getfield 19, 3) := by decide +kernel
theorem dX10_has_14 : decode cX10_has 14 = .ok (.iload_n 3, 1) := by decide +kernel
theorem dX10_has_15 : decode cX10_has 15 = .ok (.iaload, 1) := by decide +kernel
theorem dX10_has_16 : decode cX10_has 16 = .ok (.iload_n 2, 1) := by decide +kernel
theorem dX10_has_17 : decode cX10_has 17 = .ok (.if_icmp .ne 24, 3) := by decide +kernel
theorem dX10_has_20 : decode cX10_has 20 = .ok (.aload_n 0, 1) := by decide +kernel
theorem dX10_has_21 : decode cX10_has 21 = .ok (.getfield 7, 3) := by decide +kernel
theorem dX10_has_24 : decode cX10_has 24 = .ok (.iload_n 3, 1) := by decide +kernel
theorem dX10_has_25 : decode cX10_has 25 = .ok (.iaload, 1) := by decide +kernel
theorem dX10_has_26 : decode cX10_has 26 = .ok (.iconst 5, 1) := by decide +kernel
theorem dX10_has_27 : decode cX10_has 27 = .ok (.if_icmp .ne 14, 3) := by decide +kernel
theorem dX10_has_30 : decode cX10_has 30 = .ok (.aload_n 0, 1) := by decide +kernel
theorem dX10_has_31 : decode cX10_has 31 = .ok (.iload_n 3, 1) := by decide +kernel
theorem dX10_has_32 : decode cX10_has 32 = .ok (.iload_n 1, 1) := by decide +kernel
theorem dX10_has_33 : decode cX10_has 33 = .ok (.invokevirtual 200, 3) := by decide +kernel
theorem dX10_has_36 : decode cX10_has 36 = .ok (.ifCond .eq 5, 3) := by decide +kernel
theorem dX10_has_39 : decode cX10_has 39 = .ok (.iconst 1, 1) := by decide +kernel
theorem dX10_has_40 : decode cX10_has 40 = .ok (.ireturn, 1) := by decide +kernel
theorem dX10_has_41 : decode cX10_has 41 = .ok (.iinc 3 1, 3) := by decide +kernel
theorem dX10_has_44 : decode cX10_has 44 = .ok (.goto (-42), 3) := by decide +kernel
theorem dX10_has_47 : decode cX10_has 47 = .ok (.iconst 0, 1) := by decide +kernel
theorem dX10_has_48 : decode cX10_has 48 = .ok (.ireturn, 1) := by decide +kernel
theorem dX10_isFormula_0 : decode cX10_isFormula 0 = .ok (.iload_n 1, 1) := by decide +kernel
theorem dX10_isFormula_1 : decode cX10_isFormula 1 = .ok (.aload_n 0, 1) := by decide +kernel
theorem dX10_isFormula_2 : decode cX10_isFormula 2 = .ok (.getfield 106, 3) := by decide +kernel
theorem dX10_isFormula_5 : decode cX10_isFormula 5 = .ok (.if_icmp .ge 36, 3) := by decide +kernel
theorem dX10_isFormula_8 : decode cX10_isFormula 8 = .ok (.aload_n 0, 1) := by decide +kernel
theorem dX10_isFormula_9 : decode cX10_isFormula 9 = .ok (.getfield 19, 3) := by decide +kernel
theorem dX10_isFormula_12 : decode cX10_isFormula 12 = .ok (.iload_n 1, 1) := by decide +kernel
theorem dX10_isFormula_13 : decode cX10_isFormula 13 = .ok (.iaload, 1) := by decide +kernel
theorem dX10_isFormula_14 : decode cX10_isFormula 14 = .ok (.iload_n 1, 1) := by decide +kernel
theorem dX10_isFormula_15 : decode cX10_isFormula 15 = .ok (.if_icmp .ne 26, 3) := by decide +kernel
theorem dX10_isFormula_18 : decode cX10_isFormula 18 = .ok (.aload_n 0, 1) := by decide +kernel
theorem dX10_isFormula_19 : decode cX10_isFormula 19 = .ok (.getfield 7, 3) := by decide +kernel
theorem dX10_isFormula_22 : decode cX10_isFormula 22 = .ok (.iload_n 1, 1) := by decide +kernel
theorem dX10_isFormula_23 : decode cX10_isFormula 23 = .ok (.iaload, 1) := by decide +kernel
theorem dX10_isFormula_24 : decode cX10_isFormula 24 = .ok (.iconst 5, 1) := by decide +kernel
theorem dX10_isFormula_25 : decode cX10_isFormula 25 = .ok (.if_icmp .ne 16, 3) := by decide +kernel
theorem dX10_isFormula_28 : decode cX10_isFormula 28 = .ok (.aload_n 0, 1) := by decide +kernel
theorem dX10_isFormula_29 : decode cX10_isFormula 29 = .ok (.getfield 60, 3) := by decide +kernel
theorem dX10_isFormula_32 : decode cX10_isFormula 32 = .ok (.iload_n 1, 1) := by decide +kernel
theorem dX10_isFormula_33 : decode cX10_isFormula 33 = .ok (.iaload, 1) := by decide +kernel
theorem dX10_isFormula_34 : decode cX10_isFormula 34 = .ok (.ifCond .lt 7, 3) := by decide +kernel
theorem dX10_isFormula_37 : decode cX10_isFormula 37 = .ok (.iconst 1, 1) := by decide +kernel
theorem dX10_isFormula_38 : decode cX10_isFormula 38 = .ok (.goto 4, 3) := by decide +kernel
theorem dX10_isFormula_41 : decode cX10_isFormula 41 = .ok (.iconst 0, 1) := by decide +kernel
theorem dX10_isFormula_42 : decode cX10_isFormula 42 = .ok (.ireturn, 1) := by decide +kernel
theorem dX10_learn_0 : decode cX10_learn 0 = .ok (.iconst 0, 1) := by decide +kernel
theorem dX10_learn_1 : decode cX10_learn 1 = .ok (.istore_n 1, 1) := by decide +kernel
theorem dX10_learn_2 : decode cX10_learn 2 = .ok (.iload_n 1, 1) := by decide +kernel
theorem dX10_learn_3 : decode cX10_learn 3 = .ok (.aload_n 0, 1) := by decide +kernel
theorem dX10_learn_4 : decode cX10_learn 4 = .ok (.getfield 106, 3) := by decide +kernel
theorem dX10_learn_7 : decode cX10_learn 7 = .ok (.if_icmp .ge 132, 3) := by decide +kernel
theorem dX10_learn_10 : decode cX10_learn 10 = .ok (.iconst 0, 1) := by decide +kernel
theorem dX10_learn_11 : decode cX10_learn 11 = .ok (.istore_n 2, 1) := by decide +kernel
theorem dX10_learn_12 : decode cX10_learn 12 = .ok (.iload_n 2, 1) := by decide +kernel
theorem dX10_learn_13 : decode cX10_learn 13 = .ok (.aload_n 0, 1) := by decide +kernel
theorem dX10_learn_14 : decode cX10_learn 14 = .ok (.getfield 106, 3) := by decide +kernel
theorem dX10_learn_17 : decode cX10_learn 17 = .ok (.if_icmp .ge 116, 3) := by decide +kernel
theorem dX10_learn_20 : decode cX10_learn 20 = .ok (.aload_n 0, 1) := by decide +kernel
theorem dX10_learn_21 : decode cX10_learn 21 = .ok (.iload_n 1, 1) := by decide +kernel
theorem dX10_learn_22 : decode cX10_learn 22 = .ok (.invokevirtual 203, 3) := by decide +kernel
theorem dX10_learn_25 : decode cX10_learn 25 = .ok (.ifCond .eq 15, 3) := by decide +kernel
theorem dX10_learn_28 : decode cX10_learn 28 = .ok (.aload_n 0, 1) := by decide +kernel
theorem dX10_learn_29 : decode cX10_learn 29 = .ok (.iload_n 2, 1) := by decide +kernel
theorem dX10_learn_30 : decode cX10_learn 30 = .ok (.invokevirtual 203, 3) := by decide +kernel
theorem dX10_learn_33 : decode cX10_learn 33 = .ok (.ifCond .eq 7, 3) := by decide +kernel
theorem dX10_learn_36 : decode cX10_learn 36 = .ok (.iconst 1, 1) := by decide +kernel
theorem dX10_learn_37 : decode cX10_learn 37 = .ok (.goto 4, 3) := by decide +kernel
theorem dX10_learn_40 : decode cX10_learn 40 = .ok (.iconst 0, 1) := by decide +kernel
theorem dX10_learn_41 : decode cX10_learn 41 = .ok (.istore_n 3, 1) := by decide +kernel
theorem dX10_learn_42 : decode cX10_learn 42 = .ok (.aload_n 0, 1) := by decide +kernel
theorem dX10_learn_43 : decode cX10_learn 43 = .ok (.getfield 75, 3) := by decide +kernel
theorem dX10_learn_46 : decode cX10_learn 46 = .ok (.bipush 40, 2) := by decide +kernel
theorem dX10_learn_48 : decode cX10_learn 48 = .ok (.iload_n 1, 1) := by decide +kernel
theorem dX10_learn_49 : decode cX10_learn 49 = .ok (.imul, 1) := by decide +kernel
theorem dX10_learn_50 : decode cX10_learn 50 = .ok (.iload_n 2, 1) := by decide +kernel
theorem dX10_learn_51 : decode cX10_learn 51 = .ok (.iadd, 1) := by decide +kernel
theorem dX10_learn_52 : decode cX10_learn 52 = .ok (.iload_n 3, 1) := by decide +kernel
theorem dX10_learn_53 : decode cX10_learn 53 = .ok (.ifCond .eq 72, 3) := by decide +kernel
theorem dX10_learn_56 : decode cX10_learn 56 = .ok (.aload_n 0, 1) := by decide +kernel
theorem dX10_learn_57 : decode cX10_learn 57 = .ok (.getfield 60, 3) := by decide +kernel
theorem dX10_learn_60 : decode cX10_learn 60 = .ok (.iload_n 1, 1) := by decide +kernel
theorem dX10_learn_61 : decode cX10_learn 61 = .ok (.iaload, 1) := by decide +kernel
theorem dX10_learn_62 : decode cX10_learn 62 = .ok (.i2l, 1) := by decide +kernel
theorem dX10_learn_63 : decode cX10_learn 63 = .ok (.lconst 0, 1) := by decide +kernel
theorem dX10_learn_64 : decode cX10_learn 64 = .ok (.ldc2_w 113, 3) := by decide +kernel
theorem dX10_learn_67 : decode cX10_learn 67 = .ok (.invokestatic 115, 3) := by decide +kernel
theorem dX10_learn_70 : decode cX10_learn 70 = .ok (.ifCond .eq 26, 3) := by decide +kernel
theorem dX10_learn_73 : decode cX10_learn 73 = .ok (.aload_n 0, 1) := by decide +kernel
theorem dX10_learn_74 : decode cX10_learn 74 = .ok (.getfield 63, 3) := by decide +kernel
theorem dX10_learn_77 : decode cX10_learn 77 = .ok (.iload_n 1, 1) := by decide +kernel
theorem dX10_learn_78 : decode cX10_learn 78 = .ok (.iaload, 1) := by decide +kernel
theorem dX10_learn_79 : decode cX10_learn 79 = .ok (.iload_n 2, 1) := by decide +kernel
theorem dX10_learn_80 : decode cX10_learn 80 = .ok (.if_icmp .eq 41, 3) := by decide +kernel
theorem dX10_learn_83 : decode cX10_learn 83 = .ok (.aload_n 0, 1) := by decide +kernel
theorem dX10_learn_84 : decode cX10_learn 84 = .ok (.getfield 66, 3) := by decide +kernel
theorem dX10_learn_87 : decode cX10_learn 87 = .ok (.iload_n 1, 1) := by decide +kernel
theorem dX10_learn_88 : decode cX10_learn 88 = .ok (.iaload, 1) := by decide +kernel
theorem dX10_learn_89 : decode cX10_learn 89 = .ok (.iload_n 2, 1) := by decide +kernel
theorem dX10_learn_90 : decode cX10_learn 90 = .ok (.if_icmp .ne 35, 3) := by decide +kernel
theorem dX10_learn_93 : decode cX10_learn 93 = .ok (.goto 28, 3) := by decide +kernel
theorem dX10_learn_96 : decode cX10_learn 96 = .ok (.aload_n 0, 1) := by decide +kernel
theorem dX10_learn_97 : decode cX10_learn 97 = .ok (.getfield 60, 3) := by decide +kernel
theorem dX10_learn_100 : decode cX10_learn 100 = .ok (.iload_n 1, 1) := by decide +kernel
theorem dX10_learn_101 : decode cX10_learn 101 = .ok (.iaload, 1) := by decide +kernel
theorem dX10_learn_102 : decode cX10_learn 102 = .ok (.bipush 6, 2) := by decide +kernel
theorem dX10_learn_104 : decode cX10_learn 104 = .ok (.if_icmp .ne 21, 3) := by decide +kernel
theorem dX10_learn_107 : decode cX10_learn 107 = .ok (.aload_n 0, 1) := by decide +kernel
theorem dX10_learn_108 : decode cX10_learn 108 = .ok (.aload_n 0, 1) := by decide +kernel
theorem dX10_learn_109 : decode cX10_learn 109 = .ok (.getfield 63, 3) := by decide +kernel
theorem dX10_learn_112 : decode cX10_learn 112 = .ok (.iload_n 1, 1) := by decide +kernel
theorem dX10_learn_113 : decode cX10_learn 113 = .ok (.iaload, 1) := by decide +kernel
theorem dX10_learn_114 : decode cX10_learn 114 = .ok (.iload_n 2, 1) := by decide +kernel
theorem dX10_learn_115 : decode cX10_learn 115 = .ok (.invokevirtual 206, 3) := by decide +kernel
theorem dX10_learn_118 : decode cX10_learn 118 = .ok (.ifCond .eq 7, 3) := by decide +kernel
theorem dX10_learn_121 : decode cX10_learn 121 = .ok (.iconst 1, 1) := by decide +kernel
theorem dX10_learn_122 : decode cX10_learn 122 = .ok (.goto 4, 3) := by decide +kernel
theorem dX10_learn_125 : decode cX10_learn 125 = .ok (.iconst 0, 1) := by decide +kernel
theorem dX10_learn_126 : decode cX10_learn 126 = .ok (.bastore, 1) := by decide +kernel
theorem dX10_learn_127 : decode cX10_learn 127 = .ok (.iinc 2 1, 3) := by decide +kernel
theorem dX10_learn_130 : decode cX10_learn 130 = .ok (.goto (-118), 3) := by decide +kernel
theorem dX10_learn_133 : decode cX10_learn 133 = .ok (.iinc 1 1, 3) := by decide +kernel
theorem dX10_learn_136 : decode cX10_learn 136 = .ok (.goto (-134), 3) := by decide +kernel
theorem dX10_learn_139 : decode cX10_learn 139 = .ok (.return_, 1) := by decide +kernel
theorem dX10_ring_0 : decode cX10_ring 0 = .ok (.iconst 0, 1) := by decide +kernel
theorem dX10_ring_1 : decode cX10_ring 1 = .ok (.istore_n 1, 1) := by decide +kernel
theorem dX10_ring_2 : decode cX10_ring 2 = .ok (.iload_n 1, 1) := by decide +kernel
theorem dX10_ring_3 : decode cX10_ring 3 = .ok (.aload_n 0, 1) := by decide +kernel
theorem dX10_ring_4 : decode cX10_ring 4 = .ok (.getfield 106, 3) := by decide +kernel
theorem dX10_ring_7 : decode cX10_ring 7 = .ok (.if_icmp .ge 99, 3) := by decide +kernel
theorem dX10_ring_10 : decode cX10_ring 10 = .ok (.iconst 0, 1) := by decide +kernel
theorem dX10_ring_11 : decode cX10_ring 11 = .ok (.istore_n 2, 1) := by decide +kernel
theorem dX10_ring_12 : decode cX10_ring 12 = .ok (.iload_n 2, 1) := by decide +kernel
theorem dX10_ring_13 : decode cX10_ring 13 = .ok (.aload_n 0, 1) := by decide +kernel
theorem dX10_ring_14 : decode cX10_ring 14 = .ok (.getfield 106, 3) := by decide +kernel
theorem dX10_ring_17 : decode cX10_ring 17 = .ok (.if_icmp .ge 83, 3) := by decide +kernel
theorem dX10_ring_20 : decode cX10_ring 20 = .ok (.iconst 0, 1) := by decide +kernel
theorem dX10_ring_21 : decode cX10_ring 21 = .ok (.istore_n 3, 1) := by decide +kernel
theorem dX10_ring_22 : decode cX10_ring 22 = .ok (.iload_n 3, 1) := by decide +kernel
theorem dX10_ring_23 : decode cX10_ring 23 = .ok (.aload_n 0, 1) := by decide +kernel
theorem dX10_ring_24 : decode cX10_ring 24 = .ok (.getfield 106, 3) := by decide +kernel
theorem dX10_ring_27 : decode cX10_ring 27 = .ok (.if_icmp .ge 67, 3) := by decide +kernel
theorem dX10_ring_30 : decode cX10_ring 30 = .ok (.aload_n 0, 1) := by decide +kernel
theorem dX10_ring_31 : decode cX10_ring 31 = .ok (.getfield 75, 3) := by decide +kernel
theorem dX10_ring_34 : decode cX10_ring 34 = .ok (.bipush 40, 2) := by decide +kernel
theorem dX10_ring_36 : decode cX10_ring 36 = .ok (.iload_n 2, 1) := by decide +kernel
theorem dX10_ring_37 : decode cX10_ring 37 = .ok (.imul, 1) := by decide +kernel
theorem dX10_ring_38 : decode cX10_ring 38 = .ok (.iload_n 1, 1) := by decide +kernel
theorem dX10_ring_39 : decode cX10_ring 39 = .ok (.iadd, 1) := by decide +kernel
theorem dX10_ring_40 : decode cX10_ring 40 = .ok (.baload, 1) := by decide +kernel
theorem dX10_ring_41 : decode cX10_ring 41 = .ok (.ifCond .eq 53, 3) := by decide +kernel
theorem dX10_ring_44 : decode cX10_ring 44 = .ok (.aload_n 0, 1) := by decide +kernel
theorem dX10_ring_45 : decode cX10_ring 45 = .ok (.getfield 75, 3) := by decide +kernel
theorem dX10_ring_48 : decode cX10_ring 48 = .ok (.bipush 40, 2) := by decide +kernel
theorem dX10_ring_50 : decode cX10_ring 50 = .ok (.iload_n 2, 1) := by decide +kernel
theorem dX10_ring_51 : decode cX10_ring 51 = .ok (.imul, 1) := by decide +kernel
theorem dX10_ring_52 : decode cX10_ring 52 = .ok (.iload_n 3, 1) := by decide +kernel
theorem dX10_ring_53 : decode cX10_ring 53 = .ok (.iadd, 1) := by decide +kernel
theorem dX10_ring_54 : decode cX10_ring 54 = .ok (.aload_n 0, 1) := by decide +kernel
theorem dX10_ring_55 : decode cX10_ring 55 = .ok (.getfield 75, 3) := by decide +kernel
theorem dX10_ring_58 : decode cX10_ring 58 = .ok (.bipush 40, 2) := by decide +kernel
theorem dX10_ring_60 : decode cX10_ring 60 = .ok (.iload_n 2, 1) := by decide +kernel
theorem dX10_ring_61 : decode cX10_ring 61 = .ok (.imul, 1) := by decide +kernel
theorem dX10_ring_62 : decode cX10_ring 62 = .ok (.iload_n 3, 1) := by decide +kernel
theorem dX10_ring_63 : decode cX10_ring 63 = .ok (.iadd, 1) := by decide +kernel
theorem dX10_ring_64 : decode cX10_ring 64 = .ok (.baload, 1) := by decide +kernel
theorem dX10_ring_65 : decode cX10_ring 65 = .ok (.ifCond .ne 17, 3) := by decide +kernel
theorem dX10_ring_68 : decode cX10_ring 68 = .ok (.aload_n 0, 1) := by decide +kernel
theorem dX10_ring_69 : decode cX10_ring 69 = .ok (.getfield 75, 3) := by decide +kernel
theorem dX10_ring_72 : decode cX10_ring 72 = .ok (.bipush 40, 2) := by decide +kernel
theorem dX10_ring_74 : decode cX10_ring 74 = .ok (.iload_n 1, 1) := by decide +kernel
theorem dX10_ring_75 : decode cX10_ring 75 = .ok (.imul, 1) := by decide +kernel
theorem dX10_ring_76 : decode cX10_ring 76 = .ok (.iload_n 3, 1) := by decide +kernel
theorem dX10_ring_77 : decode cX10_ring 77 = .ok (.iadd, 1) := by decide +kernel
theorem dX10_ring_78 : decode cX10_ring 78 = .ok (.baload, 1) := by decide +kernel
theorem dX10_ring_79 : decode cX10_ring 79 = .ok (.ifCond .eq 7, 3) := by decide +kernel
theorem dX10_ring_82 : decode cX10_ring 82 = .ok (.iconst 1, 1) := by decide +kernel
theorem dX10_ring_83 : decode cX10_ring 83 = .ok (.goto 4, 3) := by decide +kernel
theorem dX10_ring_86 : decode cX10_ring 86 = .ok (.iconst 0, 1) := by decide +kernel
theorem dX10_ring_87 : decode cX10_ring 87 = .ok (.bastore, 1) := by decide +kernel
theorem dX10_ring_88 : decode cX10_ring 88 = .ok (.iinc 3 1, 3) := by decide +kernel
theorem dX10_ring_91 : decode cX10_ring 91 = .ok (.goto (-69), 3) := by decide +kernel
theorem dX10_ring_94 : decode cX10_ring 94 = .ok (.iinc 2 1, 3) := by decide +kernel
theorem dX10_ring_97 : decode cX10_ring 97 = .ok (.goto (-85), 3) := by decide +kernel
theorem dX10_ring_100 : decode cX10_ring 100 = .ok (.iinc 1 1, 3) := by decide +kernel
theorem dX10_ring_103 : decode cX10_ring 103 = .ok (.goto (-101), 3) := by decide +kernel
theorem dX10_ring_106 : decode cX10_ring 106 = .ok (.iconst 0, 1) := by decide +kernel
theorem dX10_ring_107 : decode cX10_ring 107 = .ok (.istore_n 1, 1) := by decide +kernel
theorem dX10_ring_108 : decode cX10_ring 108 = .ok (.iload_n 1, 1) := by decide +kernel
theorem dX10_ring_109 : decode cX10_ring 109 = .ok (.aload_n 0, 1) := by decide +kernel
theorem dX10_ring_110 : decode cX10_ring 110 = .ok (.getfield 106, 3) := by decide +kernel
theorem dX10_ring_113 : decode cX10_ring 113 = .ok (.if_icmp .ge 23, 3) := by decide +kernel
theorem dX10_ring_116 : decode cX10_ring 116 = .ok (.aload_n 0, 1) := by decide +kernel
theorem dX10_ring_117 : decode cX10_ring 117 = .ok (.getfield 75, 3) := by decide +kernel
theorem dX10_ring_120 : decode cX10_ring 120 = .ok (.bipush 41, 2) := by decide +kernel
theorem dX10_ring_122 : decode cX10_ring 122 = .ok (.iload_n 1, 1) := by decide +kernel
theorem dX10_ring_123 : decode cX10_ring 123 = .ok (.imul, 1) := by decide +kernel
theorem dX10_ring_124 : decode cX10_ring 124 = .ok (.baload, 1) := by decide +kernel
theorem dX10_ring_125 : decode cX10_ring 125 = .ok (.ifCond .eq 5, 3) := by decide +kernel
theorem dX10_ring_128 : decode cX10_ring 128 = .ok (.iload_n 1, 1) := by decide +kernel
theorem dX10_ring_129 : decode cX10_ring 129 = .ok (.ireturn, 1) := by decide +kernel
theorem dX10_ring_130 : decode cX10_ring 130 = .ok (.iinc 1 1, 3) := by decide +kernel
theorem dX10_ring_133 : decode cX10_ring 133 = .ok (.goto (-25), 3) := by decide +kernel
theorem dX10_ring_136 : decode cX10_ring 136 = .ok (.iconst (-1), 1) := by decide +kernel
theorem dX10_ring_137 : decode cX10_ring 137 = .ok (.ireturn, 1) := by decide +kernel
theorem dX10_group_0 : decode cX10_group 0 = .ok (.lconst 0, 1) := by decide +kernel
theorem dX10_group_1 : decode cX10_group 1 = .ok (.lstore_n 2, 1) := by decide +kernel
theorem dX10_group_2 : decode cX10_group 2 = .ok (.iconst 0, 1) := by decide +kernel
theorem dX10_group_3 : decode cX10_group 3 = .ok (.istore 4, 2) := by decide +kernel
theorem dX10_group_5 : decode cX10_group 5 = .ok (.iload 4, 2) := by decide +kernel
theorem dX10_group_7 : decode cX10_group 7 = .ok (.aload_n 0, 1) := by decide +kernel
theorem dX10_group_8 : decode cX10_group 8 = .ok (.getfield 106, 3) := by decide +kernel
theorem dX10_group_11 : decode cX10_group 11 = .ok (.if_icmp .ge 78, 3) := by decide +kernel
theorem dX10_group_14 : decode cX10_group 14 = .ok (.aload_n 0, 1) := by decide +kernel
theorem dX10_group_15 : decode cX10_group 15 = .ok (.getfield 19, 3) := by decide +kernel
theorem dX10_group_18 : decode cX10_group 18 = .ok (.iload 4, 2) := by decide +kernel
theorem dX10_group_20 : decode cX10_group 20 = .ok (.iaload, 1) := by decide +kernel
theorem dX10_group_21 : decode cX10_group 21 = .ok (.iload 4, 2) := by decide +kernel
theorem dX10_group_23 : decode cX10_group 23 = .ok (.if_icmp .ne 60, 3) := by decide +kernel
theorem dX10_group_26 : decode cX10_group 26 = .ok (.aload_n 0, 1) := by decide +kernel
theorem dX10_group_27 : decode cX10_group 27 = .ok (.getfield 7, 3) := by decide +kernel
theorem dX10_group_30 : decode cX10_group 30 = .ok (.iload 4, 2) := by decide +kernel
theorem dX10_group_32 : decode cX10_group 32 = .ok (.iaload, 1) := by decide +kernel
theorem dX10_group_33 : decode cX10_group 33 = .ok (.iconst 5, 1) := by decide +kernel
theorem dX10_group_34 : decode cX10_group 34 = .ok (.if_icmp .ne 49, 3) := by decide +kernel
theorem dX10_group_37 : decode cX10_group 37 = .ok (.aload_n 0, 1) := by decide +kernel
theorem dX10_group_38 : decode cX10_group 38 = .ok (.iload_n 1, 1) := by decide +kernel
theorem dX10_group_39 : decode cX10_group 39 = .ok (.iload 4, 2) := by decide +kernel
theorem dX10_group_41 : decode cX10_group 41 = .ok (.invokevirtual 206, 3) := by decide +kernel
theorem dX10_group_44 : decode cX10_group 44 = .ok (.ifCond .eq 39, 3) := by decide +kernel
theorem dX10_group_47 : decode cX10_group 47 = .ok (.aload_n 0, 1) := by decide +kernel
theorem dX10_group_48 : decode cX10_group 48 = .ok (.iload 4, 2) := by decide +kernel
theorem dX10_group_50 : decode cX10_group 50 = .ok (.invokevirtual 209, 3) := by decide +kernel
theorem dX10_group_53 : decode cX10_group 53 = .ok (.lstore 5, 2) := by decide +kernel
theorem dX10_group_55 : decode cX10_group 55 = .ok (.lload 5, 2) := by decide +kernel
theorem dX10_group_57 : decode cX10_group 57 = .ok (.ldc2_w 178, 3) := by decide +kernel
theorem dX10_group_60 : decode cX10_group 60 = .ok (.lcmp, 1) := by decide +kernel
theorem dX10_group_61 : decode cX10_group 61 = .ok (.ifCond .eq 11, 3) := by decide +kernel
theorem dX10_group_64 : decode cX10_group 64 = .ok (.lload_n 2, 1) := by decide +kernel
theorem dX10_group_65 : decode cX10_group 65 = .ok (.ldc2_w 178, 3) := by decide +kernel
theorem dX10_group_68 : decode cX10_group 68 = .ok (.lcmp, 1) := by decide +kernel
theorem dX10_group_69 : decode cX10_group 69 = .ok (.ifCond .ne 9, 3) := by decide +kernel
theorem dX10_group_72 : decode cX10_group 72 = .ok (.ldc2_w 178, 3) := by decide +kernel
theorem dX10_group_75 : decode cX10_group 75 = .ok (.goto 7, 3) := by decide +kernel
theorem dX10_group_78 : decode cX10_group 78 = .ok (.lload_n 2, 1) := by decide +kernel
theorem dX10_group_79 : decode cX10_group 79 = .ok (.lload 5, 2) := by decide +kernel
theorem dX10_group_81 : decode cX10_group 81 = .ok (.ladd, 1) := by decide +kernel
theorem dX10_group_82 : decode cX10_group 82 = .ok (.lstore_n 2, 1) := by decide +kernel
theorem dX10_group_83 : decode cX10_group 83 = .ok (.iinc 4 1, 3) := by decide +kernel
theorem dX10_group_86 : decode cX10_group 86 = .ok (.goto (-81), 3) := by decide +kernel
theorem dX10_group_89 : decode cX10_group 89 = .ok (.lload_n 2, 1) := by decide +kernel
theorem dX10_group_90 : decode cX10_group 90 = .ok (.lreturn, 1) := by decide +kernel
theorem dX10_abs_0 : decode cX10_abs 0 = .ok (.lload_n 0, 1) := by decide +kernel
theorem dX10_abs_1 : decode cX10_abs 1 = .ok (.lconst 0, 1) := by decide +kernel
theorem dX10_abs_2 : decode cX10_abs 2 = .ok (.lcmp, 1) := by decide +kernel
theorem dX10_abs_3 : decode cX10_abs 3 = .ok (.ifCond .ge 8, 3) := by decide +kernel
theorem dX10_abs_6 : decode cX10_abs 6 = .ok (.lload_n 0, 1) := by decide +kernel
theorem dX10_abs_7 : decode cX10_abs 7 = .ok (.lneg, 1) := by decide +kernel
theorem dX10_abs_8 : decode cX10_abs 8 = .ok (.goto 4, 3) := by decide +kernel
theorem dX10_abs_11 : decode cX10_abs 11 = .ok (.lload_n 0, 1) := by decide +kernel
theorem dX10_abs_12 : decode cX10_abs 12 = .ok (.lreturn, 1) := by decide +kernel
theorem dX10_product_0 : decode cX10_product 0 = .ok (.lload_n 1, 1) := by decide +kernel
theorem dX10_product_1 : decode cX10_product 1 = .ok (.lconst 0, 1) := by decide +kernel
theorem dX10_product_2 : decode cX10_product 2 = .ok (.lcmp, 1) := by decide +kernel
theorem dX10_product_3 : decode cX10_product 3 = .ok (.ifCond .eq 23, 3) := by decide +kernel
theorem dX10_product_6 : decode cX10_product 6 = .ok (.lload_n 3, 1) := by decide +kernel
theorem dX10_product_7 : decode cX10_product 7 = .ok (.invokestatic 213, 3) := by decide +kernel
theorem dX10_product_10 : decode cX10_product 10 = .ok (.ldc2_w 217, 3) := by decide +kernel
theorem dX10_product_13 : decode cX10_product 13 = .ok (.lload_n 1, 1) := by decide +kernel
theorem dX10_product_14 : decode cX10_product 14 = .ok (.invokestatic 213, 3) := by decide +kernel
theorem dX10_product_17 : decode cX10_product 17 = .ok (.ldiv, 1) := by decide +kernel
theorem dX10_product_18 : decode cX10_product 18 = .ok (.lcmp, 1) := by decide +kernel
theorem dX10_product_19 : decode cX10_product 19 = .ok (.ifCond .le 7, 3) := by decide +kernel
theorem dX10_product_22 : decode cX10_product 22 = .ok (.ldc2_w 178, 3) := by decide +kernel
theorem dX10_product_25 : decode cX10_product 25 = .ok (.lreturn, 1) := by decide +kernel
theorem dX10_product_26 : decode cX10_product 26 = .ok (.lload_n 1, 1) := by decide +kernel
theorem dX10_product_27 : decode cX10_product 27 = .ok (.lload_n 3, 1) := by decide +kernel
theorem dX10_product_28 : decode cX10_product 28 = .ok (.lmul, 1) := by decide +kernel
theorem dX10_product_29 : decode cX10_product 29 = .ok (.ldc2_w 170, 3) := by decide +kernel
theorem dX10_product_32 : decode cX10_product 32 = .ok (.ldiv, 1) := by decide +kernel
theorem dX10_product_33 : decode cX10_product 33 = .ok (.lreturn, 1) := by decide +kernel
theorem dX10_result_0 : decode cX10_result 0 = .ok (.aload_n 0, 1) := by decide +kernel
theorem dX10_result_1 : decode cX10_result 1 = .ok (.getfield 60, 3) := by decide +kernel
theorem dX10_result_4 : decode cX10_result 4 = .ok (.iload_n 1, 1) := by decide +kernel
theorem dX10_result_5 : decode cX10_result 5 = .ok (.iaload, 1) := by decide +kernel
theorem dX10_result_6 : decode cX10_result 6 = .ok (.istore_n 2, 1) := by decide +kernel
theorem dX10_result_7 : decode cX10_result 7 = .ok (.aload_n 0, 1) := by decide +kernel
theorem dX10_result_8 : decode cX10_result 8 = .ok (.getfield 69, 3) := by decide +kernel
theorem dX10_result_11 : decode cX10_result 11 = .ok (.iload_n 1, 1) := by decide +kernel
theorem dX10_result_12 : decode cX10_result 12 = .ok (.baload, 1) := by decide +kernel
theorem dX10_result_13 : decode cX10_result 13 = .ok (.ifCond .eq 7, 3) := by decide +kernel
theorem dX10_result_16 : decode cX10_result 16 = .ok (.ldc2_w 178, 3) := by decide +kernel
theorem dX10_result_19 : decode cX10_result 19 = .ok (.lreturn, 1) := by decide +kernel
theorem dX10_result_20 : decode cX10_result 20 = .ok (.iload_n 2, 1) := by decide +kernel
theorem dX10_result_21 : decode cX10_result 21 = .ok (.bipush 7, 2) := by decide +kernel
theorem dX10_result_23 : decode cX10_result 23 = .ok (.if_icmp .ne 11, 3) := by decide +kernel
theorem dX10_result_26 : decode cX10_result 26 = .ok (.aload_n 0, 1) := by decide +kernel
theorem dX10_result_27 : decode cX10_result 27 = .ok (.getfield 63, 3) := by decide +kernel
theorem dX10_result_30 : decode cX10_result 30 = .ok (.iload_n 1, 1) := by decide +kernel
theorem dX10_result_31 : decode cX10_result 31 = .ok (.iaload, 1) := by decide +kernel
theorem dX10_result_32 : decode cX10_result 32 = .ok (.i2l, 1) := by decide +kernel
theorem dX10_result_33 : decode cX10_result 33 = .ok (.lreturn, 1) := by decide +kernel
theorem dX10_result_34 : decode cX10_result 34 = .ok (.iload_n 2, 1) := by decide +kernel
theorem dX10_result_35 : decode cX10_result 35 = .ok (.bipush 6, 2) := by decide +kernel
theorem dX10_result_37 : decode cX10_result 37 = .ok (.if_icmp .ne 14, 3) := by decide +kernel
theorem dX10_result_40 : decode cX10_result 40 = .ok (.aload_n 0, 1) := by decide +kernel
theorem dX10_result_41 : decode cX10_result 41 = .ok (.aload_n 0, 1) := by decide +kernel
theorem dX10_result_42 : decode cX10_result 42 = .ok (.getfield 63, 3) := by decide +kernel
theorem dX10_result_45 : decode cX10_result 45 = .ok (.iload_n 1, 1) := by decide +kernel
theorem dX10_result_46 : decode cX10_result 46 = .ok (.iaload, 1) := by decide +kernel
theorem dX10_result_47 : decode cX10_result 47 = .ok (.invokevirtual 219, 3) := by decide +kernel
theorem dX10_result_50 : decode cX10_result 50 = .ok (.lreturn, 1) := by decide +kernel
theorem dX10_result_51 : decode cX10_result 51 = .ok (.aload_n 0, 1) := by decide +kernel
theorem dX10_result_52 : decode cX10_result 52 = .ok (.aload_n 0, 1) := by decide +kernel
theorem dX10_result_53 : decode cX10_result 53 = .ok (.getfield 63, 3) := by decide +kernel
theorem dX10_result_56 : decode cX10_result 56 = .ok (.iload_n 1, 1) := by decide +kernel
theorem dX10_result_57 : decode cX10_result 57 = .ok (.iaload, 1) := by decide +kernel
theorem dX10_result_58 : decode cX10_result 58 = .ok (.invokevirtual 209, 3) := by decide +kernel
theorem dX10_result_61 : decode cX10_result 61 = .ok (.lstore_n 3, 1) := by decide +kernel
theorem dX10_result_62 : decode cX10_result 62 = .ok (.aload_n 0, 1) := by decide +kernel
theorem dX10_result_63 : decode cX10_result 63 = .ok (.aload_n 0, 1) := by decide +kernel
theorem dX10_result_64 : decode cX10_result 64 = .ok (.getfield 66, 3) := by decide +kernel
theorem dX10_result_67 : decode cX10_result 67 = .ok (.iload_n 1, 1) := by decide +kernel
theorem dX10_result_68 : decode cX10_result 68 = .ok (.iaload, 1) := by decide +kernel
theorem dX10_result_69 : decode cX10_result 69 = .ok (.invokevirtual 209, 3) := by decide +kernel
theorem dX10_result_72 : decode cX10_result 72 = .ok (.lstore 5, 2) := by decide +kernel
theorem dX10_result_74 : decode cX10_result 74 = .ok (.lload_n 3, 1) := by decide +kernel
theorem dX10_result_75 : decode cX10_result 75 = .ok (.ldc2_w 178, 3) := by decide +kernel
theorem dX10_result_78 : decode cX10_result 78 = .ok (.lcmp, 1) := by decide +kernel
theorem dX10_result_79 : decode cX10_result 79 = .ok (.ifCond .eq 24, 3) := by decide +kernel
theorem dX10_result_82 : decode cX10_result 82 = .ok (.lload 5, 2) := by decide +kernel
theorem dX10_result_84 : decode cX10_result 84 = .ok (.ldc2_w 178, 3) := by decide +kernel
theorem dX10_result_87 : decode cX10_result 87 = .ok (.lcmp, 1) := by decide +kernel
theorem dX10_result_88 : decode cX10_result 88 = .ok (.ifCond .eq 15, 3) := by decide +kernel
theorem dX10_result_91 : decode cX10_result 91 = .ok (.iload_n 2, 1) := by decide +kernel
theorem dX10_result_92 : decode cX10_result 92 = .ok (.iconst 3, 1) := by decide +kernel
theorem dX10_result_93 : decode cX10_result 93 = .ok (.if_icmp .ne 14, 3) := by decide +kernel
theorem dX10_result_96 : decode cX10_result 96 = .ok (.lload 5, 2) := by decide +kernel
theorem dX10_result_98 : decode cX10_result 98 = .ok (.lconst 0, 1) := by decide +kernel
theorem dX10_result_99 : decode cX10_result 99 = .ok (.lcmp, 1) := by decide +kernel
theorem dX10_result_100 : decode cX10_result 100 = .ok (.ifCond .ne 7, 3) := by decide +kernel
theorem dX10_result_103 : decode cX10_result 103 = .ok (.ldc2_w 178, 3) := by decide +kernel
theorem dX10_result_106 : decode cX10_result 106 = .ok (.lreturn, 1) := by decide +kernel
theorem dX10_result_107 : decode cX10_result 107 = .ok (.iload_n 2, 1) := by decide +kernel
theorem dX10_result_108 : decode cX10_result 108 = .ok (.tableswitch 77 0 4 #[36, 41, 46, 54, 63], 36) := by decide +kernel
theorem dX10_result_144 : decode cX10_result 144 = .ok (.lload_n 3, 1) := by decide +kernel
theorem dX10_result_145 : decode cX10_result 145 = .ok (.lload 5, 2) := by decide +kernel
theorem dX10_result_147 : decode cX10_result 147 = .ok (.ladd, 1) := by decide +kernel
theorem dX10_result_148 : decode cX10_result 148 = .ok (.lreturn, 1) := by decide +kernel
theorem dX10_result_149 : decode cX10_result 149 = .ok (.lload_n 3, 1) := by decide +kernel
theorem dX10_result_150 : decode cX10_result 150 = .ok (.lload 5, 2) := by decide +kernel
theorem dX10_result_152 : decode cX10_result 152 = .ok (.lsub, 1) := by decide +kernel
theorem dX10_result_153 : decode cX10_result 153 = .ok (.lreturn, 1) := by decide +kernel
theorem dX10_result_154 : decode cX10_result 154 = .ok (.aload_n 0, 1) := by decide +kernel
theorem dX10_result_155 : decode cX10_result 155 = .ok (.lload_n 3, 1) := by decide +kernel
theorem dX10_result_156 : decode cX10_result 156 = .ok (.lload 5, 2) := by decide +kernel
theorem dX10_result_158 : decode cX10_result 158 = .ok (.invokevirtual 222, 3) := by decide +kernel
theorem dX10_result_161 : decode cX10_result 161 = .ok (.lreturn, 1) := by decide +kernel
theorem dX10_result_162 : decode cX10_result 162 = .ok (.lload_n 3, 1) := by decide +kernel
theorem dX10_result_163 : decode cX10_result 163 = .ok (.ldc2_w 170, 3) := by decide +kernel
theorem dX10_result_166 : decode cX10_result 166 = .ok (.lmul, 1) := by decide +kernel
theorem dX10_result_167 : decode cX10_result 167 = .ok (.lload 5, 2) := by decide +kernel
theorem dX10_result_169 : decode cX10_result 169 = .ok (.ldiv, 1) := by decide +kernel
theorem dX10_result_170 : decode cX10_result 170 = .ok (.lreturn, 1) := by decide +kernel
theorem dX10_result_171 : decode cX10_result 171 = .ok (.lload_n 3, 1) := by decide +kernel
theorem dX10_result_172 : decode cX10_result 172 = .ok (.lload 5, 2) := by decide +kernel
theorem dX10_result_174 : decode cX10_result 174 = .ok (.lcmp, 1) := by decide +kernel
theorem dX10_result_175 : decode cX10_result 175 = .ok (.ifCond .ge 7, 3) := by decide +kernel
theorem dX10_result_178 : decode cX10_result 178 = .ok (.lload_n 3, 1) := by decide +kernel
theorem dX10_result_179 : decode cX10_result 179 = .ok (.goto 5, 3) := by decide +kernel
theorem dX10_result_182 : decode cX10_result 182 = .ok (.lload 5, 2) := by decide +kernel
theorem dX10_result_184 : decode cX10_result 184 = .ok (.lreturn, 1) := by decide +kernel
theorem dX10_result_185 : decode cX10_result 185 = .ok (.lload_n 3, 1) := by decide +kernel
theorem dX10_result_186 : decode cX10_result 186 = .ok (.lload 5, 2) := by decide +kernel
theorem dX10_result_188 : decode cX10_result 188 = .ok (.lcmp, 1) := by decide +kernel
theorem dX10_result_189 : decode cX10_result 189 = .ok (.ifCond .le 7, 3) := by decide +kernel
theorem dX10_result_192 : decode cX10_result 192 = .ok (.lload_n 3, 1) := by decide +kernel
theorem dX10_result_193 : decode cX10_result 193 = .ok (.goto 5, 3) := by decide +kernel
theorem dX10_result_196 : decode cX10_result 196 = .ok (.lload 5, 2) := by decide +kernel
theorem dX10_result_198 : decode cX10_result 198 = .ok (.lreturn, 1) := by decide +kernel
theorem dX10_work_0 : decode cX10_work 0 = .ok (.aload_n 0, 1) := by decide +kernel
theorem dX10_work_1 : decode cX10_work 1 = .ok (.iload_n 1, 1) := by decide +kernel
theorem dX10_work_2 : decode cX10_work 2 = .ok (.invokevirtual 226, 3) := by decide +kernel
theorem dX10_work_5 : decode cX10_work 5 = .ok (.lstore_n 2, 1) := by decide +kernel
theorem dX10_work_6 : decode cX10_work 6 = .ok (.lload_n 2, 1) := by decide +kernel
theorem dX10_work_7 : decode cX10_work 7 = .ok (.ldc2_w 178, 3) := by decide +kernel
theorem dX10_work_10 : decode cX10_work 10 = .ok (.lcmp, 1) := by decide +kernel
theorem dX10_work_11 : decode cX10_work 11 = .ok (.ifCond .eq 14, 3) := by decide +kernel
theorem dX10_work_14 : decode cX10_work 14 = .ok (.lload_n 2, 1) := by decide +kernel
theorem dX10_work_15 : decode cX10_work 15 = .ok (.invokestatic 213, 3) := by decide +kernel
theorem dX10_work_18 : decode cX10_work 18 = .ok (.ldc2_w 127, 3) := by decide +kernel
theorem dX10_work_21 : decode cX10_work 21 = .ok (.lcmp, 1) := by decide +kernel
theorem dX10_work_22 : decode cX10_work 22 = .ok (.ifCond .le 25, 3) := by decide +kernel
theorem dX10_work_25 : decode cX10_work 25 = .ok (.aload_n 0, 1) := by decide +kernel
theorem dX10_work_26 : decode cX10_work 26 = .ok (.getfield 81, 3) := by decide +kernel
theorem dX10_work_29 : decode cX10_work 29 = .ok (.aload_n 0, 1) := by decide +kernel
theorem dX10_work_30 : decode cX10_work 30 = .ok (.getfield 229, 3) := by decide +kernel
theorem dX10_work_33 : decode cX10_work 33 = .ok (.iload_n 1, 1) := by decide +kernel
theorem dX10_work_34 : decode cX10_work 34 = .ok (.iastore, 1) := by decide +kernel
theorem dX10_work_35 : decode cX10_work 35 = .ok (.aload_n 0, 1) := by decide +kernel
theorem dX10_work_36 : decode cX10_work 36 = .ok (.dup, 1) := by decide +kernel
theorem dX10_work_37 : decode cX10_work 37 = .ok (.getfield 229, 3) := by decide +kernel
theorem dX10_work_40 : decode cX10_work 40 = .ok (.iconst 1, 1) := by decide +kernel
theorem dX10_work_41 : decode cX10_work 41 = .ok (.iadd, 1) := by decide +kernel
theorem dX10_work_42 : decode cX10_work 42 = .ok (.putfield 229, 3) := by decide +kernel
theorem dX10_work_45 : decode cX10_work 45 = .ok (.iconst 0, 1) := by decide +kernel
theorem dX10_work_46 : decode cX10_work 46 = .ok (.ireturn, 1) := by decide +kernel
theorem dX10_work_47 : decode cX10_work 47 = .ok (.aload_n 0, 1) := by decide +kernel
theorem dX10_work_48 : decode cX10_work 48 = .ok (.iconst 0, 1) := by decide +kernel
theorem dX10_work_49 : decode cX10_work 49 = .ok (.putfield 180, 3) := by decide +kernel
theorem dX10_work_52 : decode cX10_work 52 = .ok (.aload_n 0, 1) := by decide +kernel
theorem dX10_work_53 : decode cX10_work 53 = .ok (.lload_n 2, 1) := by decide +kernel
theorem dX10_work_54 : decode cX10_work 54 = .ok (.invokevirtual 232, 3) := by decide +kernel
theorem dX10_work_57 : decode cX10_work 57 = .ok (.aload_n 0, 1) := by decide +kernel
theorem dX10_work_58 : decode cX10_work 58 = .ok (.getfield 38, 3) := by decide +kernel
theorem dX10_work_61 : decode cX10_work 61 = .ok (.iload_n 1, 1) := by decide +kernel
theorem dX10_work_62 : decode cX10_work 62 = .ok (.iaload, 1) := by decide +kernel
theorem dX10_work_63 : decode cX10_work 63 = .ok (.aload_n 0, 1) := by decide +kernel
theorem dX10_work_64 : decode cX10_work 64 = .ok (.getfield 180, 3) := by decide +kernel
theorem dX10_work_67 : decode cX10_work 67 = .ok (.if_icmp .eq 7, 3) := by decide +kernel
theorem dX10_work_70 : decode cX10_work 70 = .ok (.iconst 1, 1) := by decide +kernel
theorem dX10_work_71 : decode cX10_work 71 = .ok (.goto 4, 3) := by decide +kernel
theorem dX10_work_74 : decode cX10_work 74 = .ok (.iconst 0, 1) := by decide +kernel
theorem dX10_work_75 : decode cX10_work 75 = .ok (.istore 4, 2) := by decide +kernel
theorem dX10_work_77 : decode cX10_work 77 = .ok (.iconst 0, 1) := by decide +kernel
theorem dX10_work_78 : decode cX10_work 78 = .ok (.istore 5, 2) := by decide +kernel
theorem dX10_work_80 : decode cX10_work 80 = .ok (.iload 5, 2) := by decide +kernel
theorem dX10_work_82 : decode cX10_work 82 = .ok (.aload_n 0, 1) := by decide +kernel
theorem dX10_work_83 : decode cX10_work 83 = .ok (.getfield 180, 3) := by decide +kernel
theorem dX10_work_86 : decode cX10_work 86 = .ok (.if_icmp .ge 62, 3) := by decide +kernel
theorem dX10_work_89 : decode cX10_work 89 = .ok (.iload 4, 2) := by decide +kernel
theorem dX10_work_91 : decode cX10_work 91 = .ok (.ifCond .ne 25, 3) := by decide +kernel
theorem dX10_work_94 : decode cX10_work 94 = .ok (.aload_n 0, 1) := by decide +kernel
theorem dX10_work_95 : decode cX10_work 95 = .ok (.getfield 35, 3) := by decide +kernel
theorem dX10_work_98 : decode cX10_work 98 = .ok (.bipush 30, 2) := by decide +kernel
theorem dX10_work_100 : decode cX10_work 100 = .ok (.iload_n 1, 1) := by decide +kernel
theorem dX10_work_101 : decode cX10_work 101 = .ok (.imul, 1) := by decide +kernel
theorem dX10_work_102 : decode cX10_work 102 = .ok (.iload 5, 2) := by decide +kernel
theorem dX10_work_104 : decode cX10_work 104 = .ok (.iadd, 1) := by decide +kernel
theorem dX10_work_105 : decode cX10_work 105 = .ok (.iaload, 1) := by decide +kernel
theorem dX10_work_106 : decode cX10_work 106 = .ok (.aload_n 0, 1) := by decide +kernel
theorem dX10_work_107 : decode cX10_work 107 = .ok (.getfield 84, 3) := by decide +kernel
theorem dX10_work_110 : decode cX10_work 110 = .ok (.iload 5, 2) := by decide +kernel
theorem dX10_work_112 : decode cX10_work 112 = .ok (.iaload, 1) := by decide +kernel
theorem dX10_work_113 : decode cX10_work 113 = .ok (.if_icmp .eq 7, 3) := by decide +kernel
theorem dX10_work_116 : decode cX10_work 116 = .ok (.iconst 1, 1) := by decide +kernel
theorem dX10_work_117 : decode cX10_work 117 = .ok (.goto 4, 3) := by decide +kernel
theorem dX10_work_120 : decode cX10_work 120 = .ok (.iconst 0, 1) := by decide +kernel
theorem dX10_work_121 : decode cX10_work 121 = .ok (.istore 4, 2) := by decide +kernel
theorem dX10_work_123 : decode cX10_work 123 = .ok (.aload_n 0, 1) := by decide +kernel
theorem dX10_work_124 : decode cX10_work 124 = .ok (.getfield 35, 3) := by decide +kernel
theorem dX10_work_127 : decode cX10_work 127 = .ok (.bipush 30, 2) := by decide +kernel
theorem dX10_work_129 : decode cX10_work 129 = .ok (.iload_n 1, 1) := by decide +kernel
theorem dX10_work_130 : decode cX10_work 130 = .ok (.imul, 1) := by decide +kernel
theorem dX10_work_131 : decode cX10_work 131 = .ok (.iload 5, 2) := by decide +kernel
theorem dX10_work_133 : decode cX10_work 133 = .ok (.iadd, 1) := by decide +kernel
theorem dX10_work_134 : decode cX10_work 134 = .ok (.aload_n 0, 1) := by decide +kernel
theorem dX10_work_135 : decode cX10_work 135 = .ok (.getfield 84, 3) := by decide +kernel
theorem dX10_work_138 : decode cX10_work 138 = .ok (.iload 5, 2) := by decide +kernel
theorem dX10_work_140 : decode cX10_work 140 = .ok (.iaload, 1) := by decide +kernel
theorem dX10_work_141 : decode cX10_work 141 = .ok (.iastore, 1) := by decide +kernel
theorem dX10_work_142 : decode cX10_work 142 = .ok (.iinc 5 1, 3) := by decide +kernel
theorem dX10_work_145 : decode cX10_work 145 = .ok (.goto (-65), 3) := by decide +kernel
theorem dX10_work_148 : decode cX10_work 148 = .ok (.aload_n 0, 1) := by decide +kernel
theorem dX10_work_149 : decode cX10_work 149 = .ok (.getfield 38, 3) := by decide +kernel
theorem dX10_work_152 : decode cX10_work 152 = .ok (.iload_n 1, 1) := by decide +kernel
theorem dX10_work_153 : decode cX10_work 153 = .ok (.aload_n 0, 1) := by decide +kernel
theorem dX10_work_154 : decode cX10_work 154 = .ok (.getfield 180, 3) := by decide +kernel
theorem dX10_work_157 : decode cX10_work 157 = .ok (.iastore, 1) := by decide +kernel
theorem dX10_work_158 : decode cX10_work 158 = .ok (.iload 4, 2) := by decide +kernel
theorem dX10_work_160 : decode cX10_work 160 = .ok (.ireturn, 1) := by decide +kernel
theorem dX10_isReady_0 : decode cX10_isReady 0 = .ok (.aload_n 0, 1) := by decide +kernel
theorem dX10_isReady_1 : decode cX10_isReady 1 = .ok (.iload_n 1, 1) := by decide +kernel
theorem dX10_isReady_2 : decode cX10_isReady 2 = .ok (.invokevirtual 203, 3) := by decide +kernel
theorem dX10_isReady_5 : decode cX10_isReady 5 = .ok (.ifCond .eq 16, 3) := by decide +kernel
theorem dX10_isReady_8 : decode cX10_isReady 8 = .ok (.aload_n 0, 1) := by decide +kernel
theorem dX10_isReady_9 : decode cX10_isReady 9 = .ok (.getfield 78, 3) := by decide +kernel
theorem dX10_isReady_12 : decode cX10_isReady 12 = .ok (.iload_n 1, 1) := by decide +kernel
theorem dX10_isReady_13 : decode cX10_isReady 13 = .ok (.baload, 1) := by decide +kernel
theorem dX10_isReady_14 : decode cX10_isReady 14 = .ok (.ifCond .ne 7, 3) := by decide +kernel
theorem dX10_isReady_17 : decode cX10_isReady 17 = .ok (.iconst 1, 1) := by decide +kernel
theorem dX10_isReady_18 : decode cX10_isReady 18 = .ok (.goto 4, 3) := by decide +kernel
theorem dX10_isReady_21 : decode cX10_isReady 21 = .ok (.iconst 0, 1) := by decide +kernel
theorem dX10_isReady_22 : decode cX10_isReady 22 = .ok (.istore_n 2, 1) := by decide +kernel
theorem dX10_isReady_23 : decode cX10_isReady 23 = .ok (.iconst 0, 1) := by decide +kernel
theorem dX10_isReady_24 : decode cX10_isReady 24 = .ok (.istore_n 3, 1) := by decide +kernel
theorem dX10_isReady_25 : decode cX10_isReady 25 = .ok (.iload_n 3, 1) := by decide +kernel
theorem dX10_isReady_26 : decode cX10_isReady 26 = .ok (.aload_n 0, 1) := by decide +kernel
theorem dX10_isReady_27 : decode cX10_isReady 27 = .ok (.getfield 106, 3) := by decide +kernel
theorem dX10_isReady_30 : decode cX10_isReady 30 = .ok (.if_icmp .ge 42, 3) := by decide +kernel
theorem dX10_isReady_33 : decode cX10_isReady 33 = .ok (.iload_n 2, 1) := by decide +kernel
theorem dX10_isReady_34 : decode cX10_isReady 34 = .ok (.ifCond .eq 30, 3) := by decide +kernel
theorem dX10_isReady_37 : decode cX10_isReady 37 = .ok (.aload_n 0, 1) := by decide +kernel
theorem dX10_isReady_38 : decode cX10_isReady 38 = .ok (.getfield 75, 3) := by decide +kernel
theorem dX10_isReady_41 : decode cX10_isReady 41 = .ok (.bipush 40, 2) := by decide +kernel
theorem dX10_isReady_43 : decode cX10_isReady 43 = .ok (.iload_n 1, 1) := by decide +kernel
theorem dX10_isReady_44 : decode cX10_isReady 44 = .ok (.imul, 1) := by decide +kernel
theorem dX10_isReady_45 : decode cX10_isReady 45 = .ok (.iload_n 3, 1) := by decide +kernel
theorem dX10_isReady_46 : decode cX10_isReady 46 = .ok (.iadd, 1) := by decide +kernel
theorem dX10_isReady_47 : decode cX10_isReady 47 = .ok (.baload, 1) := by decide +kernel
theorem dX10_isReady_48 : decode cX10_isReady 48 = .ok (.ifCond .eq 12, 3) := by decide +kernel
theorem dX10_isReady_51 : decode cX10_isReady 51 = .ok (.aload_n 0, 1) := by decide +kernel
theorem dX10_isReady_52 : decode cX10_isReady 52 = .ok (.getfield 78, 3) := by decide +kernel
theorem dX10_isReady_55 : decode cX10_isReady 55 = .ok (.iload_n 3, 1) := by decide +kernel
theorem dX10_isReady_56 : decode cX10_isReady 56 = .ok (.baload, 1) := by decide +kernel
theorem dX10_isReady_57 : decode cX10_isReady 57 = .ok (.ifCond .eq 7, 3) := by decide +kernel
theorem dX10_isReady_60 : decode cX10_isReady 60 = .ok (.iconst 1, 1) := by decide +kernel
theorem dX10_isReady_61 : decode cX10_isReady 61 = .ok (.goto 4, 3) := by decide +kernel
theorem dX10_isReady_64 : decode cX10_isReady 64 = .ok (.iconst 0, 1) := by decide +kernel
theorem dX10_isReady_65 : decode cX10_isReady 65 = .ok (.istore_n 2, 1) := by decide +kernel
theorem dX10_isReady_66 : decode cX10_isReady 66 = .ok (.iinc 3 1, 3) := by decide +kernel
theorem dX10_isReady_69 : decode cX10_isReady 69 = .ok (.goto (-44), 3) := by decide +kernel
theorem dX10_isReady_72 : decode cX10_isReady 72 = .ok (.iload_n 2, 1) := by decide +kernel
theorem dX10_isReady_73 : decode cX10_isReady 73 = .ok (.ireturn, 1) := by decide +kernel
theorem dX10_calculate_0 : decode cX10_calculate 0 = .ok (.aload_n 0, 1) := by decide +kernel
theorem dX10_calculate_1 : decode cX10_calculate 1 = .ok (.iconst 0, 1) := by decide +kernel
theorem dX10_calculate_2 : decode cX10_calculate 2 = .ok (.putfield 102, 3) := by decide +kernel
theorem dX10_calculate_5 : decode cX10_calculate 5 = .ok (.aload_n 0, 1) := by decide +kernel
theorem dX10_calculate_6 : decode cX10_calculate 6 = .ok (.invokevirtual 236, 3) := by decide +kernel
theorem dX10_calculate_9 : decode cX10_calculate 9 = .ok (.aload_n 0, 1) := by decide +kernel
theorem dX10_calculate_10 : decode cX10_calculate 10 = .ok (.invokevirtual 239, 3) := by decide +kernel
theorem dX10_calculate_13 : decode cX10_calculate 13 = .ok (.istore_n 1, 1) := by decide +kernel
theorem dX10_calculate_14 : decode cX10_calculate 14 = .ok (.iload_n 1, 1) := by decide +kernel
theorem dX10_calculate_15 : decode cX10_calculate 15 = .ok (.ifCond .lt 7, 3) := by decide +kernel
theorem dX10_calculate_18 : decode cX10_calculate 18 = .ok (.iconst (-1), 1) := by decide +kernel
theorem dX10_calculate_19 : decode cX10_calculate 19 = .ok (.iload_n 1, 1) := by decide +kernel
theorem dX10_calculate_20 : decode cX10_calculate 20 = .ok (.isub, 1) := by decide +kernel
theorem dX10_calculate_21 : decode cX10_calculate 21 = .ok (.ireturn, 1) := by decide +kernel
theorem dX10_calculate_22 : decode cX10_calculate 22 = .ok (.aload_n 0, 1) := by decide +kernel
theorem dX10_calculate_23 : decode cX10_calculate 23 = .ok (.invokevirtual 236, 3) := by decide +kernel
theorem dX10_calculate_26 : decode cX10_calculate 26 = .ok (.aload_n 0, 1) := by decide +kernel
theorem dX10_calculate_27 : decode cX10_calculate 27 = .ok (.iconst 0, 1) := by decide +kernel
theorem dX10_calculate_28 : decode cX10_calculate 28 = .ok (.putfield 229, 3) := by decide +kernel
theorem dX10_calculate_31 : decode cX10_calculate 31 = .ok (.iconst 0, 1) := by decide +kernel
theorem dX10_calculate_32 : decode cX10_calculate 32 = .ok (.istore_n 2, 1) := by decide +kernel
theorem dX10_calculate_33 : decode cX10_calculate 33 = .ok (.iload_n 2, 1) := by decide +kernel
theorem dX10_calculate_34 : decode cX10_calculate 34 = .ok (.aload_n 0, 1) := by decide +kernel
theorem dX10_calculate_35 : decode cX10_calculate 35 = .ok (.getfield 106, 3) := by decide +kernel
theorem dX10_calculate_38 : decode cX10_calculate 38 = .ok (.if_icmp .ge 16, 3) := by decide +kernel
theorem dX10_calculate_41 : decode cX10_calculate 41 = .ok (.aload_n 0, 1) := by decide +kernel
theorem dX10_calculate_42 : decode cX10_calculate 42 = .ok (.getfield 78, 3) := by decide +kernel
theorem dX10_calculate_45 : decode cX10_calculate 45 = .ok (.iload_n 2, 1) := by decide +kernel
theorem dX10_calculate_46 : decode cX10_calculate 46 = .ok (.iconst 0, 1) := by decide +kernel
theorem dX10_calculate_47 : decode cX10_calculate 47 = .ok (.bastore, 1) := by decide +kernel
theorem dX10_calculate_48 : decode cX10_calculate 48 = .ok (.iinc 2 1, 3) := by decide +kernel
theorem dX10_calculate_51 : decode cX10_calculate 51 = .ok (.goto (-18), 3) := by decide +kernel
theorem dX10_calculate_54 : decode cX10_calculate 54 = .ok (.iconst 0, 1) := by decide +kernel
theorem dX10_calculate_55 : decode cX10_calculate 55 = .ok (.istore_n 2, 1) := by decide +kernel
theorem dX10_calculate_56 : decode cX10_calculate 56 = .ok (.iconst 0, 1) := by decide +kernel
theorem dX10_calculate_57 : decode cX10_calculate 57 = .ok (.istore_n 3, 1) := by decide +kernel
theorem dX10_calculate_58 : decode cX10_calculate 58 = .ok (.iload_n 3, 1) := by decide +kernel
theorem dX10_calculate_59 : decode cX10_calculate 59 = .ok (.aload_n 0, 1) := by decide +kernel
theorem dX10_calculate_60 : decode cX10_calculate 60 = .ok (.getfield 106, 3) := by decide +kernel
theorem dX10_calculate_63 : decode cX10_calculate 63 = .ok (.if_icmp .ge 45, 3) := by decide +kernel
theorem dX10_calculate_66 : decode cX10_calculate 66 = .ok (.aload_n 0, 1) := by decide +kernel
theorem dX10_calculate_67 : decode cX10_calculate 67 = .ok (.iload_n 3, 1) := by decide +kernel
theorem dX10_calculate_68 : decode cX10_calculate 68 = .ok (.invokevirtual 243, 3) := by decide +kernel
theorem dX10_calculate_71 : decode cX10_calculate 71 = .ok (.ifCond .eq 31, 3) := by decide +kernel
theorem dX10_calculate_74 : decode cX10_calculate 74 = .ok (.aload_n 0, 1) := by decide +kernel
theorem dX10_calculate_75 : decode cX10_calculate 75 = .ok (.iload_n 3, 1) := by decide +kernel
theorem dX10_calculate_76 : decode cX10_calculate 76 = .ok (.invokevirtual 246, 3) := by decide +kernel
theorem dX10_calculate_79 : decode cX10_calculate 79 = .ok (.ifCond .eq 9, 3) := by decide +kernel
theorem dX10_calculate_82 : decode cX10_calculate 82 = .ok (.iload_n 2, 1) := by decide +kernel
theorem dX10_calculate_83 : decode cX10_calculate 83 = .ok (.iconst 1, 1) := by decide +kernel
theorem dX10_calculate_84 : decode cX10_calculate 84 = .ok (.iadd, 1) := by decide +kernel
theorem dX10_calculate_85 : decode cX10_calculate 85 = .ok (.goto 4, 3) := by decide +kernel
theorem dX10_calculate_88 : decode cX10_calculate 88 = .ok (.iload_n 2, 1) := by decide +kernel
theorem dX10_calculate_89 : decode cX10_calculate 89 = .ok (.istore_n 2, 1) := by decide +kernel
theorem dX10_calculate_90 : decode cX10_calculate 90 = .ok (.aload_n 0, 1) := by decide +kernel
theorem dX10_calculate_91 : decode cX10_calculate 91 = .ok (.getfield 78, 3) := by decide +kernel
theorem dX10_calculate_94 : decode cX10_calculate 94 = .ok (.iload_n 3, 1) := by decide +kernel
theorem dX10_calculate_95 : decode cX10_calculate 95 = .ok (.iconst 1, 1) := by decide +kernel
theorem dX10_calculate_96 : decode cX10_calculate 96 = .ok (.bastore, 1) := by decide +kernel
theorem dX10_calculate_97 : decode cX10_calculate 97 = .ok (.iconst 0, 1) := by decide +kernel
theorem dX10_calculate_98 : decode cX10_calculate 98 = .ok (.istore_n 3, 1) := by decide +kernel
theorem dX10_calculate_99 : decode cX10_calculate 99 = .ok (.goto (-41), 3) := by decide +kernel
theorem dX10_calculate_102 : decode cX10_calculate 102 = .ok (.iinc 3 1, 3) := by decide +kernel
theorem dX10_calculate_105 : decode cX10_calculate 105 = .ok (.goto (-47), 3) := by decide +kernel
theorem dX10_calculate_108 : decode cX10_calculate 108 = .ok (.iload_n 2, 1) := by decide +kernel
theorem dX10_calculate_109 : decode cX10_calculate 109 = .ok (.ireturn, 1) := by decide +kernel
theorem dX10_failed_0 : decode cX10_failed 0 = .ok (.aload_n 0, 1) := by decide +kernel
theorem dX10_failed_1 : decode cX10_failed 1 = .ok (.iload_n 1, 1) := by decide +kernel
theorem dX10_failed_2 : decode cX10_failed 2 = .ok (.i2l, 1) := by decide +kernel
theorem dX10_failed_3 : decode cX10_failed 3 = .ok (.ldc2_w 193, 3) := by decide +kernel
theorem dX10_failed_6 : decode cX10_failed 6 = .ok (.aload_n 0, 1) := by decide +kernel
theorem dX10_failed_7 : decode cX10_failed 7 = .ok (.getfield 229, 3) := by decide +kernel
theorem dX10_failed_10 : decode cX10_failed 10 = .ok (.i2l, 1) := by decide +kernel
theorem dX10_failed_11 : decode cX10_failed 11 = .ok (.lconst 1, 1) := by decide +kernel
theorem dX10_failed_12 : decode cX10_failed 12 = .ok (.lsub, 1) := by decide +kernel
theorem dX10_failed_13 : decode cX10_failed 13 = .ok (.invokestatic 115, 3) := by decide +kernel
theorem dX10_failed_16 : decode cX10_failed 16 = .ok (.ifCond .eq 7, 3) := by decide +kernel
theorem dX10_failed_19 : decode cX10_failed 19 = .ok (.iconst 0, 1) := by decide +kernel
theorem dX10_failed_20 : decode cX10_failed 20 = .ok (.goto 4, 3) := by decide +kernel
theorem dX10_failed_23 : decode cX10_failed 23 = .ok (.iconst 1, 1) := by decide +kernel
theorem dX10_failed_24 : decode cX10_failed 24 = .ok (.putfield 102, 3) := by decide +kernel
theorem dX10_failed_27 : decode cX10_failed 27 = .ok (.aload_n 0, 1) := by decide +kernel
theorem dX10_failed_28 : decode cX10_failed 28 = .ok (.getfield 102, 3) := by decide +kernel
theorem dX10_failed_31 : decode cX10_failed 31 = .ok (.ifCond .le 7, 3) := by decide +kernel
theorem dX10_failed_34 : decode cX10_failed 34 = .ok (.iconst 0, 1) := by decide +kernel
theorem dX10_failed_35 : decode cX10_failed 35 = .ok (.goto 21, 3) := by decide +kernel
theorem dX10_failed_38 : decode cX10_failed 38 = .ok (.iload_n 1, 1) := by decide +kernel
theorem dX10_failed_39 : decode cX10_failed 39 = .ok (.iconst (-1), 1) := by decide +kernel
theorem dX10_failed_40 : decode cX10_failed 40 = .ok (.if_icmp .ne 10, 3) := by decide +kernel
theorem dX10_failed_43 : decode cX10_failed 43 = .ok (.aload_n 0, 1) := by decide +kernel
theorem dX10_failed_44 : decode cX10_failed 44 = .ok (.getfield 229, 3) := by decide +kernel
theorem dX10_failed_47 : decode cX10_failed 47 = .ok (.goto 9, 3) := by decide +kernel
theorem dX10_failed_50 : decode cX10_failed 50 = .ok (.aload_n 0, 1) := by decide +kernel
theorem dX10_failed_51 : decode cX10_failed 51 = .ok (.getfield 81, 3) := by decide +kernel
theorem dX10_failed_54 : decode cX10_failed 54 = .ok (.iload_n 1, 1) := by decide +kernel
theorem dX10_failed_55 : decode cX10_failed 55 = .ok (.iaload, 1) := by decide +kernel
theorem dX10_failed_56 : decode cX10_failed 56 = .ok (.ireturn, 1) := by decide +kernel
theorem dX10_fails_0 : decode cX10_fails 0 = .ok (.aload_n 0, 1) := by decide +kernel
theorem dX10_fails_1 : decode cX10_fails 1 = .ok (.aload_n 0, 1) := by decide +kernel
theorem dX10_fails_2 : decode cX10_fails 2 = .ok (.iload_n 1, 1) := by decide +kernel
theorem dX10_fails_3 : decode cX10_fails 3 = .ok (.invokevirtual 109, 3) := by decide +kernel
theorem dX10_fails_6 : decode cX10_fails 6 = .ok (.ifCond .eq 7, 3) := by decide +kernel
theorem dX10_fails_9 : decode cX10_fails 9 = .ok (.iconst 1, 1) := by decide +kernel
theorem dX10_fails_10 : decode cX10_fails 10 = .ok (.goto 18, 3) := by decide +kernel
theorem dX10_fails_13 : decode cX10_fails 13 = .ok (.aload_n 0, 1) := by decide +kernel
theorem dX10_fails_14 : decode cX10_fails 14 = .ok (.getfield 7, 3) := by decide +kernel
theorem dX10_fails_17 : decode cX10_fails 17 = .ok (.iload_n 1, 1) := by decide +kernel
theorem dX10_fails_18 : decode cX10_fails 18 = .ok (.iaload, 1) := by decide +kernel
theorem dX10_fails_19 : decode cX10_fails 19 = .ok (.iconst 5, 1) := by decide +kernel
theorem dX10_fails_20 : decode cX10_fails 20 = .ok (.if_icmp .eq 7, 3) := by decide +kernel
theorem dX10_fails_23 : decode cX10_fails 23 = .ok (.iconst 2, 1) := by decide +kernel
theorem dX10_fails_24 : decode cX10_fails 24 = .ok (.goto 4, 3) := by decide +kernel
theorem dX10_fails_27 : decode cX10_fails 27 = .ok (.iconst 0, 1) := by decide +kernel
theorem dX10_fails_28 : decode cX10_fails 28 = .ok (.putfield 102, 3) := by decide +kernel
theorem dX10_fails_31 : decode cX10_fails 31 = .ok (.aload_n 0, 1) := by decide +kernel
theorem dX10_fails_32 : decode cX10_fails 32 = .ok (.getfield 102, 3) := by decide +kernel
theorem dX10_fails_35 : decode cX10_fails 35 = .ok (.ifCond .le 5, 3) := by decide +kernel
theorem dX10_fails_38 : decode cX10_fails 38 = .ok (.iconst 0, 1) := by decide +kernel
theorem dX10_fails_39 : decode cX10_fails 39 = .ok (.ireturn, 1) := by decide +kernel
theorem dX10_fails_40 : decode cX10_fails 40 = .ok (.aload_n 0, 1) := by decide +kernel
theorem dX10_fails_41 : decode cX10_fails 41 = .ok (.getfield 69, 3) := by decide +kernel
theorem dX10_fails_44 : decode cX10_fails 44 = .ok (.aload_n 0, 1) := by decide +kernel
theorem dX10_fails_45 : decode cX10_fails 45 = .ok (.getfield 19, 3) := by decide +kernel
theorem dX10_fails_48 : decode cX10_fails 48 = .ok (.iload_n 1, 1) := by decide +kernel
theorem dX10_fails_49 : decode cX10_fails 49 = .ok (.iaload, 1) := by decide +kernel
theorem dX10_fails_50 : decode cX10_fails 50 = .ok (.baload, 1) := by decide +kernel
theorem dX10_fails_51 : decode cX10_fails 51 = .ok (.ifCond .eq 7, 3) := by decide +kernel
theorem dX10_fails_54 : decode cX10_fails 54 = .ok (.iconst 1, 1) := by decide +kernel
theorem dX10_fails_55 : decode cX10_fails 55 = .ok (.goto 4, 3) := by decide +kernel
theorem dX10_fails_58 : decode cX10_fails 58 = .ok (.iconst 0, 1) := by decide +kernel
theorem dX10_fails_59 : decode cX10_fails 59 = .ok (.istore_n 3, 1) := by decide +kernel
theorem dX10_fails_60 : decode cX10_fails 60 = .ok (.aload_n 0, 1) := by decide +kernel
theorem dX10_fails_61 : decode cX10_fails 61 = .ok (.getfield 69, 3) := by decide +kernel
theorem dX10_fails_64 : decode cX10_fails 64 = .ok (.aload_n 0, 1) := by decide +kernel
theorem dX10_fails_65 : decode cX10_fails 65 = .ok (.getfield 19, 3) := by decide +kernel
theorem dX10_fails_68 : decode cX10_fails 68 = .ok (.iload_n 1, 1) := by decide +kernel
theorem dX10_fails_69 : decode cX10_fails 69 = .ok (.iaload, 1) := by decide +kernel
theorem dX10_fails_70 : decode cX10_fails 70 = .ok (.iload_n 2, 1) := by decide +kernel
theorem dX10_fails_71 : decode cX10_fails 71 = .ok (.bastore, 1) := by decide +kernel
theorem dX10_fails_72 : decode cX10_fails 72 = .ok (.iload_n 3, 1) := by decide +kernel
theorem dX10_fails_73 : decode cX10_fails 73 = .ok (.ireturn, 1) := by decide +kernel
theorem dX10_putRounded_0 : decode cX10_putRounded 0 = .ok (.aload_n 0, 1) := by decide +kernel
theorem dX10_putRounded_1 : decode cX10_putRounded 1 = .ok (.getfield 50, 3) := by decide +kernel
theorem dX10_putRounded_4 : decode cX10_putRounded 4 = .ok (.iconst 5, 1) := by decide +kernel
theorem dX10_putRounded_5 : decode cX10_putRounded 5 = .ok (.iload_n 1, 1) := by decide +kernel
theorem dX10_putRounded_6 : decode cX10_putRounded 6 = .ok (.imul, 1) := by decide +kernel
theorem dX10_putRounded_7 : decode cX10_putRounded 7 = .ok (.iconst 3, 1) := by decide +kernel
theorem dX10_putRounded_8 : decode cX10_putRounded 8 = .ok (.iadd, 1) := by decide +kernel
theorem dX10_putRounded_9 : decode cX10_putRounded 9 = .ok (.iaload, 1) := by decide +kernel
theorem dX10_putRounded_10 : decode cX10_putRounded 10 = .ok (.istore 4, 2) := by decide +kernel
theorem dX10_putRounded_12 : decode cX10_putRounded 12 = .ok (.iload 4, 2) := by decide +kernel
theorem dX10_putRounded_14 : decode cX10_putRounded 14 = .ok (.ifCond .ne 9, 3) := by decide +kernel
theorem dX10_putRounded_17 : decode cX10_putRounded 17 = .ok (.ldc2_w 170, 3) := by decide +kernel
theorem dX10_putRounded_20 : decode cX10_putRounded 20 = .ok (.goto 28, 3) := by decide +kernel
theorem dX10_putRounded_23 : decode cX10_putRounded 23 = .ok (.iload 4, 2) := by decide +kernel
theorem dX10_putRounded_25 : decode cX10_putRounded 25 = .ok (.iconst 1, 1) := by decide +kernel
theorem dX10_putRounded_26 : decode cX10_putRounded 26 = .ok (.if_icmp .ne 9, 3) := by decide +kernel
theorem dX10_putRounded_29 : decode cX10_putRounded 29 = .ok (.ldc2_w 191, 3) := by decide +kernel
theorem dX10_putRounded_32 : decode cX10_putRounded 32 = .ok (.goto 16, 3) := by decide +kernel
theorem dX10_putRounded_35 : decode cX10_putRounded 35 = .ok (.iload 4, 2) := by decide +kernel
theorem dX10_putRounded_37 : decode cX10_putRounded 37 = .ok (.iconst 2, 1) := by decide +kernel
theorem dX10_putRounded_38 : decode cX10_putRounded 38 = .ok (.if_icmp .ne 9, 3) := by decide +kernel
theorem dX10_putRounded_41 : decode cX10_putRounded 41 = .ok (.ldc2_w 176, 3) := by decide +kernel
theorem dX10_putRounded_44 : decode cX10_putRounded 44 = .ok (.goto 4, 3) := by decide +kernel
theorem dX10_putRounded_47 : decode cX10_putRounded 47 = .ok (.lconst 1, 1) := by decide +kernel
theorem dX10_putRounded_48 : decode cX10_putRounded 48 = .ok (.lstore 5, 2) := by decide +kernel
theorem dX10_putRounded_50 : decode cX10_putRounded 50 = .ok (.lload_n 2, 1) := by decide +kernel
theorem dX10_putRounded_51 : decode cX10_putRounded 51 = .ok (.invokestatic 213, 3) := by decide +kernel
theorem dX10_putRounded_54 : decode cX10_putRounded 54 = .ok (.lload 5, 2) := by decide +kernel
theorem dX10_putRounded_56 : decode cX10_putRounded 56 = .ok (.ldc2_w 164, 3) := by decide +kernel
theorem dX10_putRounded_59 : decode cX10_putRounded 59 = .ok (.ldiv, 1) := by decide +kernel
theorem dX10_putRounded_60 : decode cX10_putRounded 60 = .ok (.ladd, 1) := by decide +kernel
theorem dX10_putRounded_61 : decode cX10_putRounded 61 = .ok (.lload 5, 2) := by decide +kernel
theorem dX10_putRounded_63 : decode cX10_putRounded 63 = .ok (.ldiv, 1) := by decide +kernel
theorem dX10_putRounded_64 : decode cX10_putRounded 64 = .ok (.lstore 7, 2) := by decide +kernel
theorem dX10_putRounded_66 : decode cX10_putRounded 66 = .ok (.iload 4, 2) := by decide +kernel
theorem dX10_putRounded_68 : decode cX10_putRounded 68 = .ok (.ifCond .ne 8, 3) := by decide +kernel
theorem dX10_putRounded_71 : decode cX10_putRounded 71 = .ok (.lload 7, 2) := by decide +kernel
theorem dX10_putRounded_73 : decode cX10_putRounded 73 = .ok (.goto 12, 3) := by decide +kernel
theorem dX10_putRounded_76 : decode cX10_putRounded 76 = .ok (.lload 7, 2) := by decide +kernel
theorem dX10_putRounded_78 : decode cX10_putRounded 78 = .ok (.ldc2_w 170, 3) := by decide +kernel
theorem dX10_putRounded_81 : decode cX10_putRounded 81 = .ok (.lload 5, 2) := by decide +kernel
theorem dX10_putRounded_83 : decode cX10_putRounded 83 = .ok (.ldiv, 1) := by decide +kernel
theorem dX10_putRounded_84 : decode cX10_putRounded 84 = .ok (.ldiv, 1) := by decide +kernel
theorem dX10_putRounded_85 : decode cX10_putRounded 85 = .ok (.lstore 9, 2) := by decide +kernel
theorem dX10_putRounded_87 : decode cX10_putRounded 87 = .ok (.lload_n 2, 1) := by decide +kernel
theorem dX10_putRounded_88 : decode cX10_putRounded 88 = .ok (.lconst 0, 1) := by decide +kernel
theorem dX10_putRounded_89 : decode cX10_putRounded 89 = .ok (.lcmp, 1) := by decide +kernel
theorem dX10_putRounded_90 : decode cX10_putRounded 90 = .ok (.ifCond .ge 16, 3) := by decide +kernel
theorem dX10_putRounded_93 : decode cX10_putRounded 93 = .ok (.lload 7, 2) := by decide +kernel
theorem dX10_putRounded_95 : decode cX10_putRounded 95 = .ok (.lconst 0, 1) := by decide +kernel
theorem dX10_putRounded_96 : decode cX10_putRounded 96 = .ok (.lcmp, 1) := by decide +kernel
theorem dX10_putRounded_97 : decode cX10_putRounded 97 = .ok (.ifCond .le 9, 3) := by decide +kernel
theorem dX10_putRounded_100 : decode cX10_putRounded 100 = .ok (.aload_n 0, 1) := by decide +kernel
theorem dX10_putRounded_101 : decode cX10_putRounded 101 = .ok (.bipush 45, 2) := by decide +kernel
theorem dX10_putRounded_103 : decode cX10_putRounded 103 = .ok (.invokevirtual 183, 3) := by decide +kernel
theorem dX10_putRounded_106 : decode cX10_putRounded 106 = .ok (.aload_n 0, 1) := by decide +kernel
theorem dX10_putRounded_107 : decode cX10_putRounded 107 = .ok (.lload 9, 2) := by decide +kernel
theorem dX10_putRounded_109 : decode cX10_putRounded 109 = .ok (.aload_n 0, 1) := by decide +kernel
theorem dX10_putRounded_110 : decode cX10_putRounded 110 = .ok (.getfield 50, 3) := by decide +kernel
theorem dX10_putRounded_113 : decode cX10_putRounded 113 = .ok (.iconst 5, 1) := by decide +kernel
theorem dX10_putRounded_114 : decode cX10_putRounded 114 = .ok (.iload_n 1, 1) := by decide +kernel
theorem dX10_putRounded_115 : decode cX10_putRounded 115 = .ok (.imul, 1) := by decide +kernel
theorem dX10_putRounded_116 : decode cX10_putRounded 116 = .ok (.iconst 4, 1) := by decide +kernel
theorem dX10_putRounded_117 : decode cX10_putRounded 117 = .ok (.iadd, 1) := by decide +kernel
theorem dX10_putRounded_118 : decode cX10_putRounded 118 = .ok (.iaload, 1) := by decide +kernel
theorem dX10_putRounded_119 : decode cX10_putRounded 119 = .ok (.iconst 1, 1) := by decide +kernel
theorem dX10_putRounded_120 : decode cX10_putRounded 120 = .ok (.if_icmp .ne 7, 3) := by decide +kernel
theorem dX10_putRounded_123 : decode cX10_putRounded 123 = .ok (.iconst 1, 1) := by decide +kernel
theorem dX10_putRounded_124 : decode cX10_putRounded 124 = .ok (.goto 4, 3) := by decide +kernel
theorem dX10_putRounded_127 : decode cX10_putRounded 127 = .ok (.iconst 0, 1) := by decide +kernel
theorem dX10_putRounded_128 : decode cX10_putRounded 128 = .ok (.invokevirtual 187, 3) := by decide +kernel
theorem dX10_putRounded_131 : decode cX10_putRounded 131 = .ok (.iload 4, 2) := by decide +kernel
theorem dX10_putRounded_133 : decode cX10_putRounded 133 = .ok (.ifCond .le 64, 3) := by decide +kernel
theorem dX10_putRounded_136 : decode cX10_putRounded 136 = .ok (.aload_n 0, 1) := by decide +kernel
theorem dX10_putRounded_137 : decode cX10_putRounded 137 = .ok (.bipush 46, 2) := by decide +kernel
theorem dX10_putRounded_139 : decode cX10_putRounded 139 = .ok (.invokevirtual 183, 3) := by decide +kernel
theorem dX10_putRounded_142 : decode cX10_putRounded 142 = .ok (.lload 7, 2) := by decide +kernel
theorem dX10_putRounded_144 : decode cX10_putRounded 144 = .ok (.ldc2_w 170, 3) := by decide +kernel
theorem dX10_putRounded_147 : decode cX10_putRounded 147 = .ok (.lload 5, 2) := by decide +kernel
theorem dX10_putRounded_149 : decode cX10_putRounded 149 = .ok (.ldiv, 1) := by decide +kernel
theorem dX10_putRounded_150 : decode cX10_putRounded 150 = .ok (.lrem, 1) := by decide +kernel
theorem dX10_putRounded_151 : decode cX10_putRounded 151 = .ok (.lstore 11, 2) := by decide +kernel
theorem dX10_putRounded_153 : decode cX10_putRounded 153 = .ok (.ldc2_w 191, 3) := by decide +kernel
theorem dX10_putRounded_156 : decode cX10_putRounded 156 = .ok (.lload 5, 2) := by decide +kernel
theorem dX10_putRounded_158 : decode cX10_putRounded 158 = .ok (.ldiv, 1) := by decide +kernel
theorem dX10_putRounded_159 : decode cX10_putRounded 159 = .ok (.lstore 13, 2) := by decide +kernel
theorem dX10_putRounded_161 : decode cX10_putRounded 161 = .ok (.lload 13, 2) := by decide +kernel
theorem dX10_putRounded_163 : decode cX10_putRounded 163 = .ok (.lconst 0, 1) := by decide +kernel
theorem dX10_putRounded_164 : decode cX10_putRounded 164 = .ok (.lcmp, 1) := by decide +kernel
theorem dX10_putRounded_165 : decode cX10_putRounded 165 = .ok (.ifCond .le 32, 3) := by decide +kernel
theorem dX10_putRounded_168 : decode cX10_putRounded 168 = .ok (.aload_n 0, 1) := by decide +kernel
theorem dX10_putRounded_169 : decode cX10_putRounded 169 = .ok (.ldc2_w 172, 3) := by decide +kernel
theorem dX10_putRounded_172 : decode cX10_putRounded 172 = .ok (.lload 11, 2) := by decide +kernel
theorem dX10_putRounded_174 : decode cX10_putRounded 174 = .ok (.lload 13, 2) := by decide +kernel
theorem dX10_putRounded_176 : decode cX10_putRounded 176 = .ok (.ldiv, 1) := by decide +kernel
theorem dX10_putRounded_177 : decode cX10_putRounded 177 = .ok (.ldc2_w 176, 3) := by decide +kernel
theorem dX10_putRounded_180 : decode cX10_putRounded 180 = .ok (.lrem, 1) := by decide +kernel
theorem dX10_putRounded_181 : decode cX10_putRounded 181 = .ok (.ladd, 1) := by decide +kernel
theorem dX10_putRounded_182 : decode cX10_putRounded 182 = .ok (.l2i, 1) := by decide +kernel
theorem dX10_putRounded_183 : decode cX10_putRounded 183 = .ok (.invokevirtual 183, 3) := by decide +kernel
theorem dX10_putRounded_186 : decode cX10_putRounded 186 = .ok (.lload 13, 2) := by decide +kernel
theorem dX10_putRounded_188 : decode cX10_putRounded 188 = .ok (.ldc2_w 176, 3) := by decide +kernel
theorem dX10_putRounded_191 : decode cX10_putRounded 191 = .ok (.ldiv, 1) := by decide +kernel
theorem dX10_putRounded_192 : decode cX10_putRounded 192 = .ok (.lstore 13, 2) := by decide +kernel
theorem dX10_putRounded_194 : decode cX10_putRounded 194 = .ok (.goto (-33), 3) := by decide +kernel
theorem dX10_putRounded_197 : decode cX10_putRounded 197 = .ok (.return_, 1) := by decide +kernel
theorem dX10_putSigns_0 : decode cX10_putSigns 0 = .ok (.iconst 0, 1) := by decide +kernel
theorem dX10_putSigns_1 : decode cX10_putSigns 1 = .ok (.istore_n 2, 1) := by decide +kernel
theorem dX10_putSigns_2 : decode cX10_putSigns 2 = .ok (.iload_n 2, 1) := by decide +kernel
theorem dX10_putSigns_3 : decode cX10_putSigns 3 = .ok (.aload_n 0, 1) := by decide +kernel
theorem dX10_putSigns_4 : decode cX10_putSigns 4 = .ok (.getfield 38, 3) := by decide +kernel
theorem dX10_putSigns_7 : decode cX10_putSigns 7 = .ok (.iload_n 1, 1) := by decide +kernel
theorem dX10_putSigns_8 : decode cX10_putSigns 8 = .ok (.iaload, 1) := by decide +kernel
theorem dX10_putSigns_9 : decode cX10_putSigns 9 = .ok (.if_icmp .ge 24, 3) := by decide +kernel
theorem dX10_putSigns_12 : decode cX10_putSigns 12 = .ok (.aload_n 0, 1) := by decide +kernel
theorem dX10_putSigns_13 : decode cX10_putSigns 13 = .ok (.aload_n 0, 1) := by decide +kernel
theorem dX10_putSigns_14 : decode cX10_putSigns 14 = .ok (.getfield 35, 3) := by decide +kernel
theorem dX10_putSigns_17 : decode cX10_putSigns 17 = .ok (.bipush 30, 2) := by decide +kernel
theorem dX10_putSigns_19 : decode cX10_putSigns 19 = .ok (.iload_n 1, 1) := by decide +kernel
theorem dX10_putSigns_20 : decode cX10_putSigns 20 = .ok (.imul, 1) := by decide +kernel
theorem dX10_putSigns_21 : decode cX10_putSigns 21 = .ok (.iload_n 2, 1) := by decide +kernel
theorem dX10_putSigns_22 : decode cX10_putSigns 22 = .ok (.iadd, 1) := by decide +kernel
theorem dX10_putSigns_23 : decode cX10_putSigns 23 = .ok (.iaload, 1) := by decide +kernel
theorem dX10_putSigns_24 : decode cX10_putSigns 24 = .ok (.invokevirtual 183, 3) := by decide +kernel
theorem dX10_putSigns_27 : decode cX10_putSigns 27 = .ok (.iinc 2 1, 3) := by decide +kernel
theorem dX10_putSigns_30 : decode cX10_putSigns 30 = .ok (.goto (-28), 3) := by decide +kernel
theorem dX10_putSigns_33 : decode cX10_putSigns 33 = .ok (.return_, 1) := by decide +kernel
theorem dX10_show_0 : decode cX10_show 0 = .ok (.aload_n 0, 1) := by decide +kernel
theorem dX10_show_1 : decode cX10_show 1 = .ok (.iconst 0, 1) := by decide +kernel
theorem dX10_show_2 : decode cX10_show 2 = .ok (.putfield 180, 3) := by decide +kernel
theorem dX10_show_5 : decode cX10_show 5 = .ok (.aload_n 0, 1) := by decide +kernel
theorem dX10_show_6 : decode cX10_show 6 = .ok (.getfield 7, 3) := by decide +kernel
theorem dX10_show_9 : decode cX10_show 9 = .ok (.iload_n 1, 1) := by decide +kernel
theorem dX10_show_10 : decode cX10_show 10 = .ok (.iaload, 1) := by decide +kernel
theorem dX10_show_11 : decode cX10_show 11 = .ok (.iconst 5, 1) := by decide +kernel
theorem dX10_show_12 : decode cX10_show 12 = .ok (.if_icmp .ne 37, 3) := by decide +kernel
theorem dX10_show_15 : decode cX10_show 15 = .ok (.aload_n 0, 1) := by decide +kernel
theorem dX10_show_16 : decode cX10_show 16 = .ok (.getfield 38, 3) := by decide +kernel
theorem dX10_show_19 : decode cX10_show 19 = .ok (.iload_n 1, 1) := by decide +kernel
theorem dX10_show_20 : decode cX10_show 20 = .ok (.iaload, 1) := by decide +kernel
theorem dX10_show_21 : decode cX10_show 21 = .ok (.ifCond .le 28, 3) := by decide +kernel
theorem dX10_show_24 : decode cX10_show 24 = .ok (.aload_n 0, 1) := by decide +kernel
theorem dX10_show_25 : decode cX10_show 25 = .ok (.iload_n 1, 1) := by decide +kernel
theorem dX10_show_26 : decode cX10_show 26 = .ok (.invokevirtual 209, 3) := by decide +kernel
theorem dX10_show_29 : decode cX10_show 29 = .ok (.ldc2_w 178, 3) := by decide +kernel
theorem dX10_show_32 : decode cX10_show 32 = .ok (.lcmp, 1) := by decide +kernel
theorem dX10_show_33 : decode cX10_show 33 = .ok (.ifCond .eq 16, 3) := by decide +kernel
theorem dX10_show_36 : decode cX10_show 36 = .ok (.aload_n 0, 1) := by decide +kernel
theorem dX10_show_37 : decode cX10_show 37 = .ok (.iload_n 1, 1) := by decide +kernel
theorem dX10_show_38 : decode cX10_show 38 = .ok (.aload_n 0, 1) := by decide +kernel
theorem dX10_show_39 : decode cX10_show 39 = .ok (.iload_n 1, 1) := by decide +kernel
theorem dX10_show_40 : decode cX10_show 40 = .ok (.invokevirtual 209, 3) := by decide +kernel
theorem dX10_show_43 : decode cX10_show 43 = .ok (.invokevirtual 249, 3) := by decide +kernel
theorem dX10_show_46 : decode cX10_show 46 = .ok (.goto 87, 3) := by decide +kernel
theorem dX10_show_49 : decode cX10_show 49 = .ok (.aload_n 0, 1) := by decide +kernel
theorem dX10_show_50 : decode cX10_show 50 = .ok (.iload_n 1, 1) := by decide +kernel
theorem dX10_show_51 : decode cX10_show 51 = .ok (.invokevirtual 140, 3) := by decide +kernel
theorem dX10_show_54 : decode cX10_show 54 = .ok (.ifCond .eq 11, 3) := by decide +kernel
theorem dX10_show_57 : decode cX10_show 57 = .ok (.aload_n 0, 1) := by decide +kernel
theorem dX10_show_58 : decode cX10_show 58 = .ok (.iload_n 1, 1) := by decide +kernel
theorem dX10_show_59 : decode cX10_show 59 = .ok (.invokevirtual 253, 3) := by decide +kernel
theorem dX10_show_62 : decode cX10_show 62 = .ok (.goto 71, 3) := by decide +kernel
theorem dX10_show_65 : decode cX10_show 65 = .ok (.aload_n 0, 1) := by decide +kernel
theorem dX10_show_66 : decode cX10_show 66 = .ok (.getfield 7, 3) := by decide +kernel
theorem dX10_show_69 : decode cX10_show 69 = .ok (.iload_n 1, 1) := by decide +kernel
theorem dX10_show_70 : decode cX10_show 70 = .ok (.iaload, 1) := by decide +kernel
theorem dX10_show_71 : decode cX10_show 71 = .ok (.iconst 2, 1) := by decide +kernel
theorem dX10_show_72 : decode cX10_show 72 = .ok (.if_icmp .ne 22, 3) := by decide +kernel
theorem dX10_show_75 : decode cX10_show 75 = .ok (.aload_n 0, 1) := by decide +kernel
theorem dX10_show_76 : decode cX10_show 76 = .ok (.getfield 41, 3) := by decide +kernel
theorem dX10_show_79 : decode cX10_show 79 = .ok (.iload_n 1, 1) := by decide +kernel
theorem dX10_show_80 : decode cX10_show 80 = .ok (.iaload, 1) := by decide +kernel
theorem dX10_show_81 : decode cX10_show 81 = .ok (.iconst 1, 1) := by decide +kernel
theorem dX10_show_82 : decode cX10_show 82 = .ok (.if_icmp .ne 12, 3) := by decide +kernel
theorem dX10_show_85 : decode cX10_show 85 = .ok (.aload_n 0, 1) := by decide +kernel
theorem dX10_show_86 : decode cX10_show 86 = .ok (.bipush 88, 2) := by decide +kernel
theorem dX10_show_88 : decode cX10_show 88 = .ok (.invokevirtual 183, 3) := by decide +kernel
theorem dX10_show_91 : decode cX10_show 91 = .ok (.goto 42, 3) := by decide +kernel
theorem dX10_show_94 : decode cX10_show 94 = .ok (.aload_n 0, 1) := by decide +kernel
theorem dX10_show_95 : decode cX10_show 95 = .ok (.iload_n 1, 1) := by decide +kernel
theorem dX10_show_96 : decode cX10_show 96 = .ok (.invokevirtual 146, 3) := by decide +kernel
theorem dX10_show_99 : decode cX10_show 99 = .ok (.ifCond .eq 34, 3) := by decide +kernel
theorem dX10_show_102 : decode cX10_show 102 = .ok (.aload_n 0, 1) := by decide +kernel
theorem dX10_show_103 : decode cX10_show 103 = .ok (.getfield 41, 3) := by decide +kernel
theorem dX10_show_106 : decode cX10_show 106 = .ok (.iload_n 1, 1) := by decide +kernel
theorem dX10_show_107 : decode cX10_show 107 = .ok (.iaload, 1) := by decide +kernel
theorem dX10_show_108 : decode cX10_show 108 = .ok (.ifCond .lt 25, 3) := by decide +kernel
theorem dX10_show_111 : decode cX10_show 111 = .ok (.aload_n 0, 1) := by decide +kernel
theorem dX10_show_112 : decode cX10_show 112 = .ok (.aload_n 0, 1) := by decide +kernel
theorem dX10_show_113 : decode cX10_show 113 = .ok (.getfield 44, 3) := by decide +kernel
theorem dX10_show_116 : decode cX10_show 116 = .ok (.bipush 12, 2) := by decide +kernel
theorem dX10_show_118 : decode cX10_show 118 = .ok (.iload_n 1, 1) := by decide +kernel
theorem dX10_show_119 : decode cX10_show 119 = .ok (.imul, 1) := by decide +kernel
theorem dX10_show_120 : decode cX10_show 120 = .ok (.aload_n 0, 1) := by decide +kernel
theorem dX10_show_121 : decode cX10_show 121 = .ok (.getfield 41, 3) := by decide +kernel
theorem dX10_show_124 : decode cX10_show 124 = .ok (.iload_n 1, 1) := by decide +kernel
theorem dX10_show_125 : decode cX10_show 125 = .ok (.iaload, 1) := by decide +kernel
theorem dX10_show_126 : decode cX10_show 126 = .ok (.iadd, 1) := by decide +kernel
theorem dX10_show_127 : decode cX10_show 127 = .ok (.iaload, 1) := by decide +kernel
theorem dX10_show_128 : decode cX10_show 128 = .ok (.i2l, 1) := by decide +kernel
theorem dX10_show_129 : decode cX10_show 129 = .ok (.iconst 0, 1) := by decide +kernel
theorem dX10_show_130 : decode cX10_show 130 = .ok (.invokevirtual 187, 3) := by decide +kernel
theorem dX10_show_133 : decode cX10_show 133 = .ok (.return_, 1) := by decide +kernel
theorem dX10_shown_0 : decode cX10_shown 0 = .ok (.aload_n 0, 1) := by decide +kernel
theorem dX10_shown_1 : decode cX10_shown 1 = .ok (.aload_n 0, 1) := by decide +kernel
theorem dX10_shown_2 : decode cX10_shown 2 = .ok (.iload_n 1, 1) := by decide +kernel
theorem dX10_shown_3 : decode cX10_shown 3 = .ok (.invokevirtual 109, 3) := by decide +kernel
theorem dX10_shown_6 : decode cX10_shown 6 = .ok (.ifCond .eq 7, 3) := by decide +kernel
theorem dX10_shown_9 : decode cX10_shown 9 = .ok (.iconst 1, 1) := by decide +kernel
theorem dX10_shown_10 : decode cX10_shown 10 = .ok (.goto 4, 3) := by decide +kernel
theorem dX10_shown_13 : decode cX10_shown 13 = .ok (.iconst 0, 1) := by decide +kernel
theorem dX10_shown_14 : decode cX10_shown 14 = .ok (.putfield 102, 3) := by decide +kernel
theorem dX10_shown_17 : decode cX10_shown 17 = .ok (.aload_n 0, 1) := by decide +kernel
theorem dX10_shown_18 : decode cX10_shown 18 = .ok (.getfield 102, 3) := by decide +kernel
theorem dX10_shown_21 : decode cX10_shown 21 = .ok (.ifCond .le 5, 3) := by decide +kernel
theorem dX10_shown_24 : decode cX10_shown 24 = .ok (.iconst 0, 1) := by decide +kernel
theorem dX10_shown_25 : decode cX10_shown 25 = .ok (.ireturn, 1) := by decide +kernel
theorem dX10_shown_26 : decode cX10_shown 26 = .ok (.aload_n 0, 1) := by decide +kernel
theorem dX10_shown_27 : decode cX10_shown 27 = .ok (.aload_n 0, 1) := by decide +kernel
theorem dX10_shown_28 : decode cX10_shown 28 = .ok (.getfield 19, 3) := by decide +kernel
theorem dX10_shown_31 : decode cX10_shown 31 = .ok (.iload_n 1, 1) := by decide +kernel
theorem dX10_shown_32 : decode cX10_shown 32 = .ok (.iaload, 1) := by decide +kernel
theorem dX10_shown_33 : decode cX10_shown 33 = .ok (.invokevirtual 256, 3) := by decide +kernel
theorem dX10_shown_36 : decode cX10_shown 36 = .ok (.iload_n 2, 1) := by decide +kernel
theorem dX10_shown_37 : decode cX10_shown 37 = .ok (.ifCond .lt 20, 3) := by decide +kernel
theorem dX10_shown_40 : decode cX10_shown 40 = .ok (.iload_n 2, 1) := by decide +kernel
theorem dX10_shown_41 : decode cX10_shown 41 = .ok (.aload_n 0, 1) := by decide +kernel
theorem dX10_shown_42 : decode cX10_shown 42 = .ok (.getfield 180, 3) := by decide +kernel
theorem dX10_shown_45 : decode cX10_shown 45 = .ok (.if_icmp .ge 12, 3) := by decide +kernel
theorem dX10_shown_48 : decode cX10_shown 48 = .ok (.aload_n 0, 1) := by decide +kernel
theorem dX10_shown_49 : decode cX10_shown 49 = .ok (.getfield 84, 3) := by decide +kernel
theorem dX10_shown_52 : decode cX10_shown 52 = .ok (.iload_n 2, 1) := by decide +kernel
theorem dX10_shown_53 : decode cX10_shown 53 = .ok (.iaload, 1) := by decide +kernel
theorem dX10_shown_54 : decode cX10_shown 54 = .ok (.goto 4, 3) := by decide +kernel
theorem dX10_shown_57 : decode cX10_shown 57 = .ok (.iconst (-1), 1) := by decide +kernel
theorem dX10_shown_58 : decode cX10_shown 58 = .ok (.ireturn, 1) := by decide +kernel
theorem dX10_cells_0 : decode cX10_cells 0 = .ok (.aload_n 0, 1) := by decide +kernel
theorem dX10_cells_1 : decode cX10_cells 1 = .ok (.getfield 7, 3) := by decide +kernel
theorem dX10_cells_4 : decode cX10_cells 4 = .ok (.iload_n 1, 1) := by decide +kernel
theorem dX10_cells_5 : decode cX10_cells 5 = .ok (.iaload, 1) := by decide +kernel
theorem dX10_cells_6 : decode cX10_cells 6 = .ok (.iconst 1, 1) := by decide +kernel
theorem dX10_cells_7 : decode cX10_cells 7 = .ok (.if_icmp .ne 16, 3) := by decide +kernel
theorem dX10_cells_10 : decode cX10_cells 10 = .ok (.aload_n 0, 1) := by decide +kernel
theorem dX10_cells_11 : decode cX10_cells 11 = .ok (.getfield 50, 3) := by decide +kernel
theorem dX10_cells_14 : decode cX10_cells 14 = .ok (.iconst 5, 1) := by decide +kernel
theorem dX10_cells_15 : decode cX10_cells 15 = .ok (.iload_n 1, 1) := by decide +kernel
theorem dX10_cells_16 : decode cX10_cells 16 = .ok (.imul, 1) := by decide +kernel
theorem dX10_cells_17 : decode cX10_cells 17 = .ok (.iconst 1, 1) := by decide +kernel
theorem dX10_cells_18 : decode cX10_cells 18 = .ok (.iadd, 1) := by decide +kernel
theorem dX10_cells_19 : decode cX10_cells 19 = .ok (.iaload, 1) := by decide +kernel
theorem dX10_cells_20 : decode cX10_cells 20 = .ok (.goto 4, 3) := by decide +kernel
theorem dX10_cells_23 : decode cX10_cells 23 = .ok (.iconst 0, 1) := by decide +kernel
theorem dX10_cells_24 : decode cX10_cells 24 = .ok (.ireturn, 1) := by decide +kernel
