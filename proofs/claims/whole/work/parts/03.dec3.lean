theorem dX10_times_29 : decode cX10_times 29 = .ok (.getfield 38, 3) := by decide +kernel
theorem dX10_times_32 : decode cX10_times 32 = .ok (.iload_n 1, 1) := by decide +kernel
theorem dX10_times_33 : decode cX10_times 33 = .ok (.laload, 1) := by decide +kernel
theorem dX10_times_34 : decode cX10_times 34 = .ok (.lmul, 1) := by decide +kernel
theorem dX10_times_35 : decode cX10_times 35 = .ok (.invokestatic 173, 3) := by decide +kernel
theorem dX10_times_38 : decode cX10_times 38 = .ok (.lreturn, 1) := by decide +kernel
theorem dX10_way_0 : decode cX10_way 0 = .ok (.aload_n 0, 1) := by decide +kernel
theorem dX10_way_1 : decode cX10_way 1 = .ok (.getfield 125, 3) := by decide +kernel
theorem dX10_way_4 : decode cX10_way 4 = .ok (.iload_n 1, 1) := by decide +kernel
theorem dX10_way_5 : decode cX10_way 5 = .ok (.iadd, 1) := by decide +kernel
theorem dX10_way_6 : decode cX10_way 6 = .ok (.istore_n 3, 1) := by decide +kernel
theorem dX10_way_7 : decode cX10_way 7 = .ok (.aload_n 0, 1) := by decide +kernel
theorem dX10_way_8 : decode cX10_way 8 = .ok (.getfield 19, 3) := by decide +kernel
theorem dX10_way_11 : decode cX10_way 11 = .ok (.iload_n 3, 1) := by decide +kernel
theorem dX10_way_12 : decode cX10_way 12 = .ok (.iaload, 1) := by decide +kernel
theorem dX10_way_13 : decode cX10_way 13 = .ok (.tableswitch 262 10 18 #[51, 67, 262, 98, 204, 225, 225, 262, 250], 51) := by decide +kernel
theorem dX10_way_64 : decode cX10_way 64 = .ok (.lconst 1, 1) := by decide +kernel
theorem dX10_way_65 : decode cX10_way 65 = .ok (.aload_n 0, 1) := by decide +kernel
theorem dX10_way_66 : decode cX10_way 66 = .ok (.aload_n 0, 1) := by decide +kernel
theorem dX10_way_67 : decode cX10_way 67 = .ok (.getfield 22, 3) := by decide +kernel
theorem dX10_way_70 : decode cX10_way 70 = .ok (.iload_n 3, 1) := by decide +kernel
theorem dX10_way_71 : decode cX10_way 71 = .ok (.iaload, 1) := by decide +kernel
theorem dX10_way_72 : decode cX10_way 72 = .ok (.iload_n 2, 1) := by decide +kernel
theorem dX10_way_73 : decode cX10_way 73 = .ok (.invokevirtual 177, 3) := by decide +kernel
theorem dX10_way_76 : decode cX10_way 76 = .ok (.invokestatic 181, 3) := by decide +kernel
theorem dX10_way_79 : decode cX10_way 79 = .ok (.lreturn, 1) := by decide +kernel
theorem dX10_way_80 : decode cX10_way 80 = .ok (.lconst 1, 1) := by decide +kernel
theorem dX10_way_81 : decode cX10_way 81 = .ok (.aload_n 0, 1) := by decide +kernel
theorem dX10_way_82 : decode cX10_way 82 = .ok (.iload_n 1, 1) := by decide +kernel
theorem dX10_way_83 : decode cX10_way 83 = .ok (.iconst 1, 1) := by decide +kernel
theorem dX10_way_84 : decode cX10_way 84 = .ok (.iadd, 1) := by decide +kernel
theorem dX10_way_85 : decode cX10_way 85 = .ok (.iload_n 2, 1) := by decide +kernel
theorem dX10_way_86 : decode cX10_way 86 = .ok (.invokevirtual 177, 3) := by decide +kernel
theorem dX10_way_89 : decode cX10_way 89 = .ok (.invokestatic 181, 3) := by decide +kernel
theorem dX10_way_92 : decode cX10_way 92 = .ok (.lconst 1, 1) := by decide +kernel
theorem dX10_way_93 : decode cX10_way 93 = .ok (.aload_n 0, 1) := by decide +kernel
theorem dX10_way_94 : decode cX10_way 94 = .ok (.aload_n 0, 1) := by decide +kernel
theorem dX10_way_95 : decode cX10_way 95 = .ok (.getfield 22, 3) := by decide +kernel
theorem dX10_way_98 : decode cX10_way 98 = .ok (.iload_n 3, 1) := by decide +kernel
theorem dX10_way_99 : decode cX10_way 99 = .ok (.iaload, 1) := by decide +kernel
theorem dX10_way_100 : decode cX10_way 100 = .ok (.iload_n 2, 1) := by decide +kernel
theorem dX10_way_101 : decode cX10_way 101 = .ok (.invokevirtual 177, 3) := by decide +kernel
theorem dX10_way_104 : decode cX10_way 104 = .ok (.invokestatic 181, 3) := by decide +kernel
theorem dX10_way_107 : decode cX10_way 107 = .ok (.invokestatic 185, 3) := by decide +kernel
theorem dX10_way_110 : decode cX10_way 110 = .ok (.lreturn, 1) := by decide +kernel
theorem dX10_way_111 : decode cX10_way 111 = .ok (.aload_n 0, 1) := by decide +kernel
theorem dX10_way_112 : decode cX10_way 112 = .ok (.getfield 25, 3) := by decide +kernel
theorem dX10_way_115 : decode cX10_way 115 = .ok (.iload_n 3, 1) := by decide +kernel
theorem dX10_way_116 : decode cX10_way 116 = .ok (.iconst 1, 1) := by decide +kernel
theorem dX10_way_117 : decode cX10_way 117 = .ok (.isub, 1) := by decide +kernel
theorem dX10_way_118 : decode cX10_way 118 = .ok (.iaload, 1) := by decide +kernel
theorem dX10_way_119 : decode cX10_way 119 = .ok (.i2l, 1) := by decide +kernel
theorem dX10_way_120 : decode cX10_way 120 = .ok (.lstore 4, 2) := by decide +kernel
theorem dX10_way_122 : decode cX10_way 122 = .ok (.aload_n 0, 1) := by decide +kernel
theorem dX10_way_123 : decode cX10_way 123 = .ok (.iload_n 1, 1) := by decide +kernel
theorem dX10_way_124 : decode cX10_way 124 = .ok (.lload 4, 2) := by decide +kernel
theorem dX10_way_126 : decode cX10_way 126 = .ok (.invokevirtual 188, 3) := by decide +kernel
theorem dX10_way_129 : decode cX10_way 129 = .ok (.lconst 1, 1) := by decide +kernel
theorem dX10_way_130 : decode cX10_way 130 = .ok (.invokestatic 181, 3) := by decide +kernel
theorem dX10_way_133 : decode cX10_way 133 = .ok (.aload_n 0, 1) := by decide +kernel
theorem dX10_way_134 : decode cX10_way 134 = .ok (.aload_n 0, 1) := by decide +kernel
theorem dX10_way_135 : decode cX10_way 135 = .ok (.getfield 25, 3) := by decide +kernel
theorem dX10_way_138 : decode cX10_way 138 = .ok (.iload_n 3, 1) := by decide +kernel
theorem dX10_way_139 : decode cX10_way 139 = .ok (.iaload, 1) := by decide +kernel
theorem dX10_way_140 : decode cX10_way 140 = .ok (.iload_n 2, 1) := by decide +kernel
theorem dX10_way_141 : decode cX10_way 141 = .ok (.invokevirtual 177, 3) := by decide +kernel
theorem dX10_way_144 : decode cX10_way 144 = .ok (.invokestatic 181, 3) := by decide +kernel
theorem dX10_way_147 : decode cX10_way 147 = .ok (.lstore 6, 2) := by decide +kernel
theorem dX10_way_149 : decode cX10_way 149 = .ok (.aload_n 0, 1) := by decide +kernel
theorem dX10_way_150 : decode cX10_way 150 = .ok (.getfield 38, 3) := by decide +kernel
theorem dX10_way_153 : decode cX10_way 153 = .ok (.iload_n 1, 1) := by decide +kernel
theorem dX10_way_154 : decode cX10_way 154 = .ok (.laload, 1) := by decide +kernel
theorem dX10_way_155 : decode cX10_way 155 = .ok (.ldc2_w 171, 3) := by decide +kernel
theorem dX10_way_158 : decode cX10_way 158 = .ok (.lcmp, 1) := by decide +kernel
theorem dX10_way_159 : decode cX10_way 159 = .ok (.ifCond .ne 7, 3) := by decide +kernel
theorem dX10_way_162 : decode cX10_way 162 = .ok (.lconst 0, 1) := by decide +kernel
theorem dX10_way_163 : decode cX10_way 163 = .ok (.goto 12, 3) := by decide +kernel
theorem dX10_way_166 : decode cX10_way 166 = .ok (.aload_n 0, 1) := by decide +kernel
theorem dX10_way_167 : decode cX10_way 167 = .ok (.iload_n 1, 1) := by decide +kernel
theorem dX10_way_168 : decode cX10_way 168 = .ok (.lload 4, 2) := by decide +kernel
theorem dX10_way_170 : decode cX10_way 170 = .ok (.lconst 1, 1) := by decide +kernel
theorem dX10_way_171 : decode cX10_way 171 = .ok (.lsub, 1) := by decide +kernel
theorem dX10_way_172 : decode cX10_way 172 = .ok (.invokevirtual 188, 3) := by decide +kernel
theorem dX10_way_175 : decode cX10_way 175 = .ok (.lstore 8, 2) := by decide +kernel
theorem dX10_way_177 : decode cX10_way 177 = .ok (.lload 4, 2) := by decide +kernel
theorem dX10_way_179 : decode cX10_way 179 = .ok (.lconst 0, 1) := by decide +kernel
theorem dX10_way_180 : decode cX10_way 180 = .ok (.lcmp, 1) := by decide +kernel
theorem dX10_way_181 : decode cX10_way 181 = .ok (.ifCond .ne 9, 3) := by decide +kernel
theorem dX10_way_184 : decode cX10_way 184 = .ok (.ldc2_w 171, 3) := by decide +kernel
theorem dX10_way_187 : decode cX10_way 187 = .ok (.goto 20, 3) := by decide +kernel
theorem dX10_way_190 : decode cX10_way 190 = .ok (.lload 8, 2) := by decide +kernel
theorem dX10_way_192 : decode cX10_way 192 = .ok (.lconst 1, 1) := by decide +kernel
theorem dX10_way_193 : decode cX10_way 193 = .ok (.invokestatic 181, 3) := by decide +kernel
theorem dX10_way_196 : decode cX10_way 196 = .ok (.aload_n 0, 1) := by decide +kernel
theorem dX10_way_197 : decode cX10_way 197 = .ok (.iload_n 1, 1) := by decide +kernel
theorem dX10_way_198 : decode cX10_way 198 = .ok (.iconst 1, 1) := by decide +kernel
theorem dX10_way_199 : decode cX10_way 199 = .ok (.iadd, 1) := by decide +kernel
theorem dX10_way_200 : decode cX10_way 200 = .ok (.iload_n 2, 1) := by decide +kernel
theorem dX10_way_201 : decode cX10_way 201 = .ok (.invokevirtual 177, 3) := by decide +kernel
theorem dX10_way_204 : decode cX10_way 204 = .ok (.invokestatic 181, 3) := by decide +kernel
theorem dX10_way_207 : decode cX10_way 207 = .ok (.lstore 10, 2) := by decide +kernel
theorem dX10_way_209 : decode cX10_way 209 = .ok (.lload 6, 2) := by decide +kernel
theorem dX10_way_211 : decode cX10_way 211 = .ok (.lload 10, 2) := by decide +kernel
theorem dX10_way_213 : decode cX10_way 213 = .ok (.invokestatic 185, 3) := by decide +kernel
theorem dX10_way_216 : decode cX10_way 216 = .ok (.lreturn, 1) := by decide +kernel
theorem dX10_way_217 : decode cX10_way 217 = .ok (.iload_n 2, 1) := by decide +kernel
theorem dX10_way_218 : decode cX10_way 218 = .ok (.ifCond .lt 16, 3) := by decide +kernel
theorem dX10_way_221 : decode cX10_way 221 = .ok (.aload_n 0, 1) := by decide +kernel
theorem dX10_way_222 : decode cX10_way 222 = .ok (.iload_n 2, 1) := by decide +kernel
theorem dX10_way_223 : decode cX10_way 223 = .ok (.invokevirtual 150, 3) := by decide +kernel
theorem dX10_way_226 : decode cX10_way 226 = .ok (.iload_n 1, 1) := by decide +kernel
theorem dX10_way_227 : decode cX10_way 227 = .ok (.if_icmp .ne 7, 3) := by decide +kernel
theorem dX10_way_230 : decode cX10_way 230 = .ok (.lconst 1, 1) := by decide +kernel
theorem dX10_way_231 : decode cX10_way 231 = .ok (.goto 6, 3) := by decide +kernel
theorem dX10_way_234 : decode cX10_way 234 = .ok (.ldc2_w 171, 3) := by decide +kernel
theorem dX10_way_237 : decode cX10_way 237 = .ok (.lreturn, 1) := by decide +kernel
theorem dX10_way_238 : decode cX10_way 238 = .ok (.lconst 1, 1) := by decide +kernel
theorem dX10_way_239 : decode cX10_way 239 = .ok (.aload_n 0, 1) := by decide +kernel
theorem dX10_way_240 : decode cX10_way 240 = .ok (.getfield 41, 3) := by decide +kernel
theorem dX10_way_243 : decode cX10_way 243 = .ok (.aload_n 0, 1) := by decide +kernel
theorem dX10_way_244 : decode cX10_way 244 = .ok (.getfield 22, 3) := by decide +kernel
theorem dX10_way_247 : decode cX10_way 247 = .ok (.iload_n 3, 1) := by decide +kernel
theorem dX10_way_248 : decode cX10_way 248 = .ok (.iaload, 1) := by decide +kernel
theorem dX10_way_249 : decode cX10_way 249 = .ok (.laload, 1) := by decide +kernel
theorem dX10_way_250 : decode cX10_way 250 = .ok (.ladd, 1) := by decide +kernel
theorem dX10_way_251 : decode cX10_way 251 = .ok (.aload_n 0, 1) := by decide +kernel
theorem dX10_way_252 : decode cX10_way 252 = .ok (.iload_n 1, 1) := by decide +kernel
theorem dX10_way_253 : decode cX10_way 253 = .ok (.iconst 1, 1) := by decide +kernel
theorem dX10_way_254 : decode cX10_way 254 = .ok (.iadd, 1) := by decide +kernel
theorem dX10_way_255 : decode cX10_way 255 = .ok (.iload_n 2, 1) := by decide +kernel
theorem dX10_way_256 : decode cX10_way 256 = .ok (.invokevirtual 177, 3) := by decide +kernel
theorem dX10_way_259 : decode cX10_way 259 = .ok (.invokestatic 181, 3) := by decide +kernel
theorem dX10_way_262 : decode cX10_way 262 = .ok (.lreturn, 1) := by decide +kernel
theorem dX10_way_263 : decode cX10_way 263 = .ok (.iload_n 2, 1) := by decide +kernel
theorem dX10_way_264 : decode cX10_way 264 = .ok (.ifCond .ge 7, 3) := by decide +kernel
theorem dX10_way_267 : decode cX10_way 267 = .ok (.lconst 1, 1) := by decide +kernel
theorem dX10_way_268 : decode cX10_way 268 = .ok (.goto 6, 3) := by decide +kernel
theorem dX10_way_271 : decode cX10_way 271 = .ok (.ldc2_w 171, 3) := by decide +kernel
theorem dX10_way_274 : decode cX10_way 274 = .ok (.lreturn, 1) := by decide +kernel
theorem dX10_way_275 : decode cX10_way 275 = .ok (.lconst 1, 1) := by decide +kernel
theorem dX10_way_276 : decode cX10_way 276 = .ok (.aload_n 0, 1) := by decide +kernel
theorem dX10_way_277 : decode cX10_way 277 = .ok (.iload_n 1, 1) := by decide +kernel
theorem dX10_way_278 : decode cX10_way 278 = .ok (.iconst 1, 1) := by decide +kernel
theorem dX10_way_279 : decode cX10_way 279 = .ok (.iadd, 1) := by decide +kernel
theorem dX10_way_280 : decode cX10_way 280 = .ok (.iload_n 2, 1) := by decide +kernel
theorem dX10_way_281 : decode cX10_way 281 = .ok (.invokevirtual 177, 3) := by decide +kernel
theorem dX10_way_284 : decode cX10_way 284 = .ok (.invokestatic 181, 3) := by decide +kernel
theorem dX10_way_287 : decode cX10_way 287 = .ok (.lreturn, 1) := by decide +kernel
theorem dX10_wayTo_0 : decode cX10_wayTo 0 = .ok (.iload_n 2, 1) := by decide +kernel
theorem dX10_wayTo_1 : decode cX10_wayTo 1 = .ok (.ifCond .lt 25, 3) := by decide +kernel
theorem dX10_wayTo_4 : decode cX10_wayTo 4 = .ok (.aload_n 0, 1) := by decide +kernel
theorem dX10_wayTo_5 : decode cX10_wayTo 5 = .ok (.iload_n 1, 1) := by decide +kernel
theorem dX10_wayTo_6 : decode cX10_wayTo 6 = .ok (.iload_n 2, 1) := by decide +kernel
theorem dX10_wayTo_7 : decode cX10_wayTo 7 = .ok (.invokevirtual 157, 3) := by decide +kernel
theorem dX10_wayTo_10 : decode cX10_wayTo 10 = .ok (.ifCond .eq 12, 3) := by decide +kernel
theorem dX10_wayTo_13 : decode cX10_wayTo 13 = .ok (.aload_n 0, 1) := by decide +kernel
theorem dX10_wayTo_14 : decode cX10_wayTo 14 = .ok (.getfield 34, 3) := by decide +kernel
theorem dX10_wayTo_17 : decode cX10_wayTo 17 = .ok (.iload_n 1, 1) := by decide +kernel
theorem dX10_wayTo_18 : decode cX10_wayTo 18 = .ok (.laload, 1) := by decide +kernel
theorem dX10_wayTo_19 : decode cX10_wayTo 19 = .ok (.goto 6, 3) := by decide +kernel
theorem dX10_wayTo_22 : decode cX10_wayTo 22 = .ok (.ldc2_w 171, 3) := by decide +kernel
theorem dX10_wayTo_25 : decode cX10_wayTo 25 = .ok (.lreturn, 1) := by decide +kernel
theorem dX10_wayTo_26 : decode cX10_wayTo 26 = .ok (.iload_n 1, 1) := by decide +kernel
theorem dX10_wayTo_27 : decode cX10_wayTo 27 = .ok (.aload_n 0, 1) := by decide +kernel
theorem dX10_wayTo_28 : decode cX10_wayTo 28 = .ok (.getfield 131, 3) := by decide +kernel
theorem dX10_wayTo_31 : decode cX10_wayTo 31 = .ok (.if_icmp .ne 7, 3) := by decide +kernel
theorem dX10_wayTo_34 : decode cX10_wayTo 34 = .ok (.lconst 0, 1) := by decide +kernel
theorem dX10_wayTo_35 : decode cX10_wayTo 35 = .ok (.goto 9, 3) := by decide +kernel
theorem dX10_wayTo_38 : decode cX10_wayTo 38 = .ok (.aload_n 0, 1) := by decide +kernel
theorem dX10_wayTo_39 : decode cX10_wayTo 39 = .ok (.getfield 34, 3) := by decide +kernel
theorem dX10_wayTo_42 : decode cX10_wayTo 42 = .ok (.iload_n 1, 1) := by decide +kernel
theorem dX10_wayTo_43 : decode cX10_wayTo 43 = .ok (.laload, 1) := by decide +kernel
theorem dX10_wayTo_44 : decode cX10_wayTo 44 = .ok (.lreturn, 1) := by decide +kernel
theorem dX10_stepsOf_0 : decode cX10_stepsOf 0 = .ok (.aload_n 0, 1) := by decide +kernel
theorem dX10_stepsOf_1 : decode cX10_stepsOf 1 = .ok (.getfield 131, 3) := by decide +kernel
theorem dX10_stepsOf_4 : decode cX10_stepsOf 4 = .ok (.iconst 1, 1) := by decide +kernel
theorem dX10_stepsOf_5 : decode cX10_stepsOf 5 = .ok (.isub, 1) := by decide +kernel
theorem dX10_stepsOf_6 : decode cX10_stepsOf 6 = .ok (.istore_n 1, 1) := by decide +kernel
theorem dX10_stepsOf_7 : decode cX10_stepsOf 7 = .ok (.iload_n 1, 1) := by decide +kernel
theorem dX10_stepsOf_8 : decode cX10_stepsOf 8 = .ok (.ifCond .lt 66, 3) := by decide +kernel
theorem dX10_stepsOf_11 : decode cX10_stepsOf 11 = .ok (.aload_n 0, 1) := by decide +kernel
theorem dX10_stepsOf_12 : decode cX10_stepsOf 12 = .ok (.iload_n 1, 1) := by decide +kernel
theorem dX10_stepsOf_13 : decode cX10_stepsOf 13 = .ok (.invokevirtual 128, 3) := by decide +kernel
theorem dX10_stepsOf_16 : decode cX10_stepsOf 16 = .ok (.bipush 13, 2) := by decide +kernel
theorem dX10_stepsOf_18 : decode cX10_stepsOf 18 = .ok (.if_icmp .ne 50, 3) := by decide +kernel
theorem dX10_stepsOf_21 : decode cX10_stepsOf 21 = .ok (.aload_n 0, 1) := by decide +kernel
theorem dX10_stepsOf_22 : decode cX10_stepsOf 22 = .ok (.iload_n 1, 1) := by decide +kernel
theorem dX10_stepsOf_23 : decode cX10_stepsOf 23 = .ok (.invokevirtual 150, 3) := by decide +kernel
theorem dX10_stepsOf_26 : decode cX10_stepsOf 26 = .ok (.istore_n 2, 1) := by decide +kernel
theorem dX10_stepsOf_27 : decode cX10_stepsOf 27 = .ok (.iload_n 2, 1) := by decide +kernel
theorem dX10_stepsOf_28 : decode cX10_stepsOf 28 = .ok (.iload_n 1, 1) := by decide +kernel
theorem dX10_stepsOf_29 : decode cX10_stepsOf 29 = .ok (.if_icmp .le 21, 3) := by decide +kernel
theorem dX10_stepsOf_32 : decode cX10_stepsOf 32 = .ok (.aload_n 0, 1) := by decide +kernel
theorem dX10_stepsOf_33 : decode cX10_stepsOf 33 = .ok (.getfield 34, 3) := by decide +kernel
theorem dX10_stepsOf_36 : decode cX10_stepsOf 36 = .ok (.iload_n 2, 1) := by decide +kernel
theorem dX10_stepsOf_37 : decode cX10_stepsOf 37 = .ok (.aload_n 0, 1) := by decide +kernel
theorem dX10_stepsOf_38 : decode cX10_stepsOf 38 = .ok (.iload_n 2, 1) := by decide +kernel
theorem dX10_stepsOf_39 : decode cX10_stepsOf 39 = .ok (.iload_n 1, 1) := by decide +kernel
theorem dX10_stepsOf_40 : decode cX10_stepsOf 40 = .ok (.invokevirtual 192, 3) := by decide +kernel
theorem dX10_stepsOf_43 : decode cX10_stepsOf 43 = .ok (.lastore, 1) := by decide +kernel
theorem dX10_stepsOf_44 : decode cX10_stepsOf 44 = .ok (.iinc 2 (-1), 3) := by decide +kernel
theorem dX10_stepsOf_47 : decode cX10_stepsOf 47 = .ok (.goto (-20), 3) := by decide +kernel
theorem dX10_stepsOf_50 : decode cX10_stepsOf 50 = .ok (.aload_n 0, 1) := by decide +kernel
theorem dX10_stepsOf_51 : decode cX10_stepsOf 51 = .ok (.getfield 38, 3) := by decide +kernel
theorem dX10_stepsOf_54 : decode cX10_stepsOf 54 = .ok (.iload_n 1, 1) := by decide +kernel
theorem dX10_stepsOf_55 : decode cX10_stepsOf 55 = .ok (.lconst 1, 1) := by decide +kernel
theorem dX10_stepsOf_56 : decode cX10_stepsOf 56 = .ok (.aload_n 0, 1) := by decide +kernel
theorem dX10_stepsOf_57 : decode cX10_stepsOf 57 = .ok (.getfield 34, 3) := by decide +kernel
theorem dX10_stepsOf_60 : decode cX10_stepsOf 60 = .ok (.iload_n 1, 1) := by decide +kernel
theorem dX10_stepsOf_61 : decode cX10_stepsOf 61 = .ok (.iconst 1, 1) := by decide +kernel
theorem dX10_stepsOf_62 : decode cX10_stepsOf 62 = .ok (.iadd, 1) := by decide +kernel
theorem dX10_stepsOf_63 : decode cX10_stepsOf 63 = .ok (.laload, 1) := by decide +kernel
theorem dX10_stepsOf_64 : decode cX10_stepsOf 64 = .ok (.invokestatic 181, 3) := by decide +kernel
theorem dX10_stepsOf_67 : decode cX10_stepsOf 67 = .ok (.lastore, 1) := by decide +kernel
theorem dX10_stepsOf_68 : decode cX10_stepsOf 68 = .ok (.iinc 1 (-1), 3) := by decide +kernel
theorem dX10_stepsOf_71 : decode cX10_stepsOf 71 = .ok (.goto (-64), 3) := by decide +kernel
theorem dX10_stepsOf_74 : decode cX10_stepsOf 74 = .ok (.aload_n 0, 1) := by decide +kernel
theorem dX10_stepsOf_75 : decode cX10_stepsOf 75 = .ok (.getfield 131, 3) := by decide +kernel
theorem dX10_stepsOf_78 : decode cX10_stepsOf 78 = .ok (.iconst 1, 1) := by decide +kernel
theorem dX10_stepsOf_79 : decode cX10_stepsOf 79 = .ok (.isub, 1) := by decide +kernel
theorem dX10_stepsOf_80 : decode cX10_stepsOf 80 = .ok (.istore_n 1, 1) := by decide +kernel
theorem dX10_stepsOf_81 : decode cX10_stepsOf 81 = .ok (.iload_n 1, 1) := by decide +kernel
theorem dX10_stepsOf_82 : decode cX10_stepsOf 82 = .ok (.ifCond .lt 21, 3) := by decide +kernel
theorem dX10_stepsOf_85 : decode cX10_stepsOf 85 = .ok (.aload_n 0, 1) := by decide +kernel
theorem dX10_stepsOf_86 : decode cX10_stepsOf 86 = .ok (.getfield 34, 3) := by decide +kernel
theorem dX10_stepsOf_89 : decode cX10_stepsOf 89 = .ok (.iload_n 1, 1) := by decide +kernel
theorem dX10_stepsOf_90 : decode cX10_stepsOf 90 = .ok (.aload_n 0, 1) := by decide +kernel
theorem dX10_stepsOf_91 : decode cX10_stepsOf 91 = .ok (.iload_n 1, 1) := by decide +kernel
theorem dX10_stepsOf_92 : decode cX10_stepsOf 92 = .ok (.iconst (-1), 1) := by decide +kernel
theorem dX10_stepsOf_93 : decode cX10_stepsOf 93 = .ok (.invokevirtual 192, 3) := by decide +kernel
theorem dX10_stepsOf_96 : decode cX10_stepsOf 96 = .ok (.lastore, 1) := by decide +kernel
theorem dX10_stepsOf_97 : decode cX10_stepsOf 97 = .ok (.iinc 1 (-1), 3) := by decide +kernel
theorem dX10_stepsOf_100 : decode cX10_stepsOf 100 = .ok (.goto (-19), 3) := by decide +kernel
theorem dX10_stepsOf_103 : decode cX10_stepsOf 103 = .ok (.aload_n 0, 1) := by decide +kernel
theorem dX10_stepsOf_104 : decode cX10_stepsOf 104 = .ok (.getfield 131, 3) := by decide +kernel
theorem dX10_stepsOf_107 : decode cX10_stepsOf 107 = .ok (.ifCond .ne 7, 3) := by decide +kernel
theorem dX10_stepsOf_110 : decode cX10_stepsOf 110 = .ok (.lconst 0, 1) := by decide +kernel
theorem dX10_stepsOf_111 : decode cX10_stepsOf 111 = .ok (.goto 9, 3) := by decide +kernel
theorem dX10_stepsOf_114 : decode cX10_stepsOf 114 = .ok (.aload_n 0, 1) := by decide +kernel
theorem dX10_stepsOf_115 : decode cX10_stepsOf 115 = .ok (.getfield 34, 3) := by decide +kernel
theorem dX10_stepsOf_118 : decode cX10_stepsOf 118 = .ok (.iconst 0, 1) := by decide +kernel
theorem dX10_stepsOf_119 : decode cX10_stepsOf 119 = .ok (.laload, 1) := by decide +kernel
theorem dX10_stepsOf_120 : decode cX10_stepsOf 120 = .ok (.lreturn, 1) := by decide +kernel
theorem dX10_wrongAt_0 : decode cX10_wrongAt 0 = .ok (.aload_n 0, 1) := by decide +kernel
theorem dX10_wrongAt_1 : decode cX10_wrongAt 1 = .ok (.iload_n 2, 1) := by decide +kernel
theorem dX10_wrongAt_2 : decode cX10_wrongAt 2 = .ok (.putfield 47, 3) := by decide +kernel
theorem dX10_wrongAt_5 : decode cX10_wrongAt 5 = .ok (.aload_n 0, 1) := by decide +kernel
theorem dX10_wrongAt_6 : decode cX10_wrongAt 6 = .ok (.iload_n 3, 1) := by decide +kernel
theorem dX10_wrongAt_7 : decode cX10_wrongAt 7 = .ok (.putfield 51, 3) := by decide +kernel
theorem dX10_wrongAt_10 : decode cX10_wrongAt 10 = .ok (.iload_n 1, 1) := by decide +kernel
theorem dX10_wrongAt_11 : decode cX10_wrongAt 11 = .ok (.ireturn, 1) := by decide +kernel
theorem dX10_unitFault_0 : decode cX10_unitFault 0 = .ok (.aload_n 0, 1) := by decide +kernel
theorem dX10_unitFault_1 : decode cX10_unitFault 1 = .ok (.iload_n 1, 1) := by decide +kernel
theorem dX10_unitFault_2 : decode cX10_unitFault 2 = .ok (.invokevirtual 195, 3) := by decide +kernel
theorem dX10_unitFault_5 : decode cX10_unitFault 5 = .ok (.ifCond .eq 11, 3) := by decide +kernel
theorem dX10_unitFault_8 : decode cX10_unitFault 8 = .ok (.aload_n 0, 1) := by decide +kernel
theorem dX10_unitFault_9 : decode cX10_unitFault 9 = .ok (.iconst 1, 1) := by decide +kernel
theorem dX10_unitFault_10 : decode cX10_unitFault 10 = .ok (.iload_n 1, 1) := by decide +kernel
theorem dX10_unitFault_11 : decode cX10_unitFault 11 = .ok (.iconst (-1), 1) := by decide +kernel
theorem dX10_unitFault_12 : decode cX10_unitFault 12 = .ok (.invokevirtual 198, 3) := by decide +kernel
theorem dX10_unitFault_15 : decode cX10_unitFault 15 = .ok (.ireturn, 1) := by decide +kernel
theorem dX10_unitFault_16 : decode cX10_unitFault 16 = .ok (.aload_n 0, 1) := by decide +kernel
theorem dX10_unitFault_17 : decode cX10_unitFault 17 = .ok (.aload_n 0, 1) := by decide +kernel
theorem dX10_unitFault_18 : decode cX10_unitFault 18 = .ok (.getfield 16, 3) := by decide +kernel
theorem dX10_unitFault_21 : decode cX10_unitFault 21 = .ok (.iload_n 1, 1) := by decide +kernel
theorem dX10_unitFault_22 : decode cX10_unitFault 22 = .ok (.iaload, 1) := by decide +kernel
theorem dX10_unitFault_23 : decode cX10_unitFault 23 = .ok (.putfield 125, 3) := by decide +kernel
theorem dX10_unitFault_26 : decode cX10_unitFault 26 = .ok (.aload_n 0, 1) := by decide +kernel
theorem dX10_unitFault_27 : decode cX10_unitFault 27 = .ok (.aload_n 0, 1) := by decide +kernel
theorem dX10_unitFault_28 : decode cX10_unitFault 28 = .ok (.getfield 16, 3) := by decide +kernel
theorem dX10_unitFault_31 : decode cX10_unitFault 31 = .ok (.iload_n 1, 1) := by decide +kernel
theorem dX10_unitFault_32 : decode cX10_unitFault 32 = .ok (.iconst 1, 1) := by decide +kernel
theorem dX10_unitFault_33 : decode cX10_unitFault 33 = .ok (.iadd, 1) := by decide +kernel
theorem dX10_unitFault_34 : decode cX10_unitFault 34 = .ok (.iaload, 1) := by decide +kernel
theorem dX10_unitFault_35 : decode cX10_unitFault 35 = .ok (.aload_n 0, 1) := by decide +kernel
theorem dX10_unitFault_36 : decode cX10_unitFault 36 = .ok (.getfield 125, 3) := by decide +kernel
theorem dX10_unitFault_39 : decode cX10_unitFault 39 = .ok (.isub, 1) := by decide +kernel
theorem dX10_unitFault_40 : decode cX10_unitFault 40 = .ok (.putfield 131, 3) := by decide +kernel
theorem dX10_unitFault_43 : decode cX10_unitFault 43 = .ok (.iconst 0, 1) := by decide +kernel
theorem dX10_unitFault_44 : decode cX10_unitFault 44 = .ok (.istore_n 2, 1) := by decide +kernel
theorem dX10_unitFault_45 : decode cX10_unitFault 45 = .ok (.iload_n 2, 1) := by decide +kernel
theorem dX10_unitFault_46 : decode cX10_unitFault 46 = .ok (.aload_n 0, 1) := by decide +kernel
theorem dX10_unitFault_47 : decode cX10_unitFault 47 = .ok (.getfield 131, 3) := by decide +kernel
theorem dX10_unitFault_50 : decode cX10_unitFault 50 = .ok (.if_icmp .ge 28, 3) := by decide +kernel
theorem dX10_unitFault_53 : decode cX10_unitFault 53 = .ok (.aload_n 0, 1) := by decide +kernel
theorem dX10_unitFault_54 : decode cX10_unitFault 54 = .ok (.iload_n 2, 1) := by decide +kernel
theorem dX10_unitFault_55 : decode cX10_unitFault 55 = .ok (.iload_n 1, 1) := by decide +kernel
theorem dX10_unitFault_56 : decode cX10_unitFault 56 = .ok (.invokevirtual 202, 3) := by decide +kernel
theorem dX10_unitFault_59 : decode cX10_unitFault 59 = .ok (.istore_n 3, 1) := by decide +kernel
theorem dX10_unitFault_60 : decode cX10_unitFault 60 = .ok (.iload_n 3, 1) := by decide +kernel
theorem dX10_unitFault_61 : decode cX10_unitFault 61 = .ok (.ifCond .le 11, 3) := by decide +kernel
theorem dX10_unitFault_64 : decode cX10_unitFault 64 = .ok (.aload_n 0, 1) := by decide +kernel
theorem dX10_unitFault_65 : decode cX10_unitFault 65 = .ok (.iload_n 3, 1) := by decide +kernel
theorem dX10_unitFault_66 : decode cX10_unitFault 66 = .ok (.iload_n 1, 1) := by decide +kernel
theorem dX10_unitFault_67 : decode cX10_unitFault 67 = .ok (.iload_n 2, 1) := by decide +kernel
theorem dX10_unitFault_68 : decode cX10_unitFault 68 = .ok (.invokevirtual 198, 3) := by decide +kernel
theorem dX10_unitFault_71 : decode cX10_unitFault 71 = .ok (.ireturn, 1) := by decide +kernel
theorem dX10_unitFault_72 : decode cX10_unitFault 72 = .ok (.iinc 2 1, 3) := by decide +kernel
theorem dX10_unitFault_75 : decode cX10_unitFault 75 = .ok (.goto (-30), 3) := by decide +kernel
theorem dX10_unitFault_78 : decode cX10_unitFault 78 = .ok (.iconst 0, 1) := by decide +kernel
theorem dX10_unitFault_79 : decode cX10_unitFault 79 = .ok (.istore_n 2, 1) := by decide +kernel
theorem dX10_unitFault_80 : decode cX10_unitFault 80 = .ok (.iload_n 2, 1) := by decide +kernel
theorem dX10_unitFault_81 : decode cX10_unitFault 81 = .ok (.aload_n 0, 1) := by decide +kernel
theorem dX10_unitFault_82 : decode cX10_unitFault 82 = .ok (.getfield 131, 3) := by decide +kernel
theorem dX10_unitFault_85 : decode cX10_unitFault 85 = .ok (.if_icmp .ge 26, 3) := by decide +kernel
theorem dX10_unitFault_88 : decode cX10_unitFault 88 = .ok (.aload_n 0, 1) := by decide +kernel
theorem dX10_unitFault_89 : decode cX10_unitFault 89 = .ok (.iload_n 2, 1) := by decide +kernel
theorem dX10_unitFault_90 : decode cX10_unitFault 90 = .ok (.invokevirtual 206, 3) := by decide +kernel
theorem dX10_unitFault_93 : decode cX10_unitFault 93 = .ok (.ifCond .eq 12, 3) := by decide +kernel
theorem dX10_unitFault_96 : decode cX10_unitFault 96 = .ok (.aload_n 0, 1) := by decide +kernel
theorem dX10_unitFault_97 : decode cX10_unitFault 97 = .ok (.bipush 7, 2) := by decide +kernel
theorem dX10_unitFault_99 : decode cX10_unitFault 99 = .ok (.iload_n 1, 1) := by decide +kernel
theorem dX10_unitFault_100 : decode cX10_unitFault 100 = .ok (.iload_n 2, 1) := by decide +kernel
theorem dX10_unitFault_101 : decode cX10_unitFault 101 = .ok (.invokevirtual 198, 3) := by decide +kernel
theorem dX10_unitFault_104 : decode cX10_unitFault 104 = .ok (.ireturn, 1) := by decide +kernel
theorem dX10_unitFault_105 : decode cX10_unitFault 105 = .ok (.iinc 2 1, 3) := by decide +kernel
theorem dX10_unitFault_108 : decode cX10_unitFault 108 = .ok (.goto (-28), 3) := by decide +kernel
theorem dX10_unitFault_111 : decode cX10_unitFault 111 = .ok (.iconst 0, 1) := by decide +kernel
theorem dX10_unitFault_112 : decode cX10_unitFault 112 = .ok (.istore_n 2, 1) := by decide +kernel
theorem dX10_unitFault_113 : decode cX10_unitFault 113 = .ok (.iload_n 2, 1) := by decide +kernel
theorem dX10_unitFault_114 : decode cX10_unitFault 114 = .ok (.aload_n 0, 1) := by decide +kernel
theorem dX10_unitFault_115 : decode cX10_unitFault 115 = .ok (.getfield 131, 3) := by decide +kernel
theorem dX10_unitFault_118 : decode cX10_unitFault 118 = .ok (.if_icmp .gt 24, 3) := by decide +kernel
theorem dX10_unitFault_121 : decode cX10_unitFault 121 = .ok (.aload_n 0, 1) := by decide +kernel
theorem dX10_unitFault_122 : decode cX10_unitFault 122 = .ok (.getfield 31, 3) := by decide +kernel
theorem dX10_unitFault_125 : decode cX10_unitFault 125 = .ok (.iload_n 2, 1) := by decide +kernel
theorem dX10_unitFault_126 : decode cX10_unitFault 126 = .ok (.iload_n 2, 1) := by decide +kernel
theorem dX10_unitFault_127 : decode cX10_unitFault 127 = .ok (.ifCond .ne 7, 3) := by decide +kernel
theorem dX10_unitFault_130 : decode cX10_unitFault 130 = .ok (.iconst 0, 1) := by decide +kernel
theorem dX10_unitFault_131 : decode cX10_unitFault 131 = .ok (.goto 4, 3) := by decide +kernel
theorem dX10_unitFault_134 : decode cX10_unitFault 134 = .ok (.iconst (-1), 1) := by decide +kernel
theorem dX10_unitFault_135 : decode cX10_unitFault 135 = .ok (.iastore, 1) := by decide +kernel
theorem dX10_unitFault_136 : decode cX10_unitFault 136 = .ok (.iinc 2 1, 3) := by decide +kernel
theorem dX10_unitFault_139 : decode cX10_unitFault 139 = .ok (.goto (-26), 3) := by decide +kernel
theorem dX10_unitFault_142 : decode cX10_unitFault 142 = .ok (.aload_n 0, 1) := by decide +kernel
theorem dX10_unitFault_143 : decode cX10_unitFault 143 = .ok (.getfield 44, 3) := by decide +kernel
theorem dX10_unitFault_146 : decode cX10_unitFault 146 = .ok (.iload_n 1, 1) := by decide +kernel
theorem dX10_unitFault_147 : decode cX10_unitFault 147 = .ok (.iconst 0, 1) := by decide +kernel
theorem dX10_unitFault_148 : decode cX10_unitFault 148 = .ok (.iastore, 1) := by decide +kernel
theorem dX10_unitFault_149 : decode cX10_unitFault 149 = .ok (.iconst 0, 1) := by decide +kernel
theorem dX10_unitFault_150 : decode cX10_unitFault 150 = .ok (.istore_n 2, 1) := by decide +kernel
theorem dX10_unitFault_151 : decode cX10_unitFault 151 = .ok (.iload_n 2, 1) := by decide +kernel
theorem dX10_unitFault_152 : decode cX10_unitFault 152 = .ok (.aload_n 0, 1) := by decide +kernel
theorem dX10_unitFault_153 : decode cX10_unitFault 153 = .ok (.getfield 131, 3) := by decide +kernel
theorem dX10_unitFault_156 : decode cX10_unitFault 156 = .ok (.if_icmp .ge 41, 3) := by decide +kernel
theorem dX10_unitFault_159 : decode cX10_unitFault 159 = .ok (.aload_n 0, 1) := by decide +kernel
theorem dX10_unitFault_160 : decode cX10_unitFault 160 = .ok (.getfield 31, 3) := by decide +kernel
theorem dX10_unitFault_163 : decode cX10_unitFault 163 = .ok (.iload_n 2, 1) := by decide +kernel
theorem dX10_unitFault_164 : decode cX10_unitFault 164 = .ok (.iaload, 1) := by decide +kernel
theorem dX10_unitFault_165 : decode cX10_unitFault 165 = .ok (.ifCond .ge 7, 3) := by decide +kernel
theorem dX10_unitFault_168 : decode cX10_unitFault 168 = .ok (.iconst 0, 1) := by decide +kernel
theorem dX10_unitFault_169 : decode cX10_unitFault 169 = .ok (.goto 9, 3) := by decide +kernel
theorem dX10_unitFault_172 : decode cX10_unitFault 172 = .ok (.aload_n 0, 1) := by decide +kernel
theorem dX10_unitFault_173 : decode cX10_unitFault 173 = .ok (.iload_n 2, 1) := by decide +kernel
theorem dX10_unitFault_174 : decode cX10_unitFault 174 = .ok (.iload_n 1, 1) := by decide +kernel
theorem dX10_unitFault_175 : decode cX10_unitFault 175 = .ok (.invokevirtual 209, 3) := by decide +kernel
theorem dX10_unitFault_178 : decode cX10_unitFault 178 = .ok (.istore_n 3, 1) := by decide +kernel
theorem dX10_unitFault_179 : decode cX10_unitFault 179 = .ok (.iload_n 3, 1) := by decide +kernel
theorem dX10_unitFault_180 : decode cX10_unitFault 180 = .ok (.ifCond .le 11, 3) := by decide +kernel
theorem dX10_unitFault_183 : decode cX10_unitFault 183 = .ok (.aload_n 0, 1) := by decide +kernel
theorem dX10_unitFault_184 : decode cX10_unitFault 184 = .ok (.iload_n 3, 1) := by decide +kernel
theorem dX10_unitFault_185 : decode cX10_unitFault 185 = .ok (.iload_n 1, 1) := by decide +kernel
theorem dX10_unitFault_186 : decode cX10_unitFault 186 = .ok (.iload_n 2, 1) := by decide +kernel
theorem dX10_unitFault_187 : decode cX10_unitFault 187 = .ok (.invokevirtual 198, 3) := by decide +kernel
theorem dX10_unitFault_190 : decode cX10_unitFault 190 = .ok (.ireturn, 1) := by decide +kernel
theorem dX10_unitFault_191 : decode cX10_unitFault 191 = .ok (.iinc 2 1, 3) := by decide +kernel
theorem dX10_unitFault_194 : decode cX10_unitFault 194 = .ok (.goto (-43), 3) := by decide +kernel
theorem dX10_unitFault_197 : decode cX10_unitFault 197 = .ok (.aload_n 0, 1) := by decide +kernel
theorem dX10_unitFault_198 : decode cX10_unitFault 198 = .ok (.getfield 41, 3) := by decide +kernel
theorem dX10_unitFault_201 : decode cX10_unitFault 201 = .ok (.iload_n 1, 1) := by decide +kernel
theorem dX10_unitFault_202 : decode cX10_unitFault 202 = .ok (.aload_n 0, 1) := by decide +kernel
theorem dX10_unitFault_203 : decode cX10_unitFault 203 = .ok (.invokevirtual 212, 3) := by decide +kernel
theorem dX10_unitFault_206 : decode cX10_unitFault 206 = .ok (.lastore, 1) := by decide +kernel
theorem dX10_unitFault_207 : decode cX10_unitFault 207 = .ok (.aload_n 0, 1) := by decide +kernel
theorem dX10_unitFault_208 : decode cX10_unitFault 208 = .ok (.getfield 41, 3) := by decide +kernel
theorem dX10_unitFault_211 : decode cX10_unitFault 211 = .ok (.iload_n 1, 1) := by decide +kernel
theorem dX10_unitFault_212 : decode cX10_unitFault 212 = .ok (.laload, 1) := by decide +kernel
theorem dX10_unitFault_213 : decode cX10_unitFault 213 = .ok (.ldc2_w 216, 3) := by decide +kernel
theorem dX10_unitFault_216 : decode cX10_unitFault 216 = .ok (.lcmp, 1) := by decide +kernel
theorem dX10_unitFault_217 : decode cX10_unitFault 217 = .ok (.ifCond .le 14, 3) := by decide +kernel
theorem dX10_unitFault_220 : decode cX10_unitFault 220 = .ok (.aload_n 0, 1) := by decide +kernel
theorem dX10_unitFault_221 : decode cX10_unitFault 221 = .ok (.bipush 11, 2) := by decide +kernel
theorem dX10_unitFault_223 : decode cX10_unitFault 223 = .ok (.iload_n 1, 1) := by decide +kernel
theorem dX10_unitFault_224 : decode cX10_unitFault 224 = .ok (.iconst (-1), 1) := by decide +kernel
theorem dX10_unitFault_225 : decode cX10_unitFault 225 = .ok (.invokevirtual 198, 3) := by decide +kernel
theorem dX10_unitFault_228 : decode cX10_unitFault 228 = .ok (.goto 4, 3) := by decide +kernel
theorem dX10_unitFault_231 : decode cX10_unitFault 231 = .ok (.iconst 0, 1) := by decide +kernel
theorem dX10_unitFault_232 : decode cX10_unitFault 232 = .ok (.ireturn, 1) := by decide +kernel
theorem dX10_prove_0 : decode cX10_prove 0 = .ok (.aload_n 0, 1) := by decide +kernel
theorem dX10_prove_1 : decode cX10_prove 1 = .ok (.invokevirtual 77, 3) := by decide +kernel
theorem dX10_prove_4 : decode cX10_prove 4 = .ok (.iconst 0, 1) := by decide +kernel
theorem dX10_prove_5 : decode cX10_prove 5 = .ok (.istore_n 1, 1) := by decide +kernel
theorem dX10_prove_6 : decode cX10_prove 6 = .ok (.iload_n 1, 1) := by decide +kernel
theorem dX10_prove_7 : decode cX10_prove 7 = .ok (.aload_n 0, 1) := by decide +kernel
theorem dX10_prove_8 : decode cX10_prove 8 = .ok (.getfield 83, 3) := by decide +kernel
theorem dX10_prove_11 : decode cX10_prove 11 = .ok (.if_icmp .ge 25, 3) := by decide +kernel
theorem dX10_prove_14 : decode cX10_prove 14 = .ok (.aload_n 0, 1) := by decide +kernel
theorem dX10_prove_15 : decode cX10_prove 15 = .ok (.getfield 74, 3) := by decide +kernel
theorem dX10_prove_18 : decode cX10_prove 18 = .ok (.ifCond .ne 18, 3) := by decide +kernel
theorem dX10_prove_21 : decode cX10_prove 21 = .ok (.aload_n 0, 1) := by decide +kernel
theorem dX10_prove_22 : decode cX10_prove 22 = .ok (.aload_n 0, 1) := by decide +kernel
theorem dX10_prove_23 : decode cX10_prove 23 = .ok (.iload_n 1, 1) := by decide +kernel
theorem dX10_prove_24 : decode cX10_prove 24 = .ok (.invokevirtual 218, 3) := by decide +kernel
theorem dX10_prove_27 : decode cX10_prove 27 = .ok (.putfield 74, 3) := by decide +kernel
theorem dX10_prove_30 : decode cX10_prove 30 = .ok (.iinc 1 1, 3) := by decide +kernel
theorem dX10_prove_33 : decode cX10_prove 33 = .ok (.goto (-27), 3) := by decide +kernel
theorem dX10_prove_36 : decode cX10_prove 36 = .ok (.aload_n 0, 1) := by decide +kernel
theorem dX10_prove_37 : decode cX10_prove 37 = .ok (.aload_n 0, 1) := by decide +kernel
theorem dX10_prove_38 : decode cX10_prove 38 = .ok (.getfield 74, 3) := by decide +kernel
theorem dX10_prove_41 : decode cX10_prove 41 = .ok (.ifCond .ne 7, 3) := by decide +kernel
theorem dX10_prove_44 : decode cX10_prove 44 = .ok (.iconst 1, 1) := by decide +kernel
theorem dX10_prove_45 : decode cX10_prove 45 = .ok (.goto 4, 3) := by decide +kernel
theorem dX10_prove_48 : decode cX10_prove 48 = .ok (.iconst 0, 1) := by decide +kernel
theorem dX10_prove_49 : decode cX10_prove 49 = .ok (.putfield 70, 3) := by decide +kernel
theorem dX10_prove_52 : decode cX10_prove 52 = .ok (.aload_n 0, 1) := by decide +kernel
theorem dX10_prove_53 : decode cX10_prove 53 = .ok (.getfield 74, 3) := by decide +kernel
theorem dX10_prove_56 : decode cX10_prove 56 = .ok (.ireturn, 1) := by decide +kernel
theorem dX10_count_0 : decode cX10_count 0 = .ok (.iload_n 1, 1) := by decide +kernel
theorem dX10_count_1 : decode cX10_count 1 = .ok (.tableswitch 60 0 4 #[35, 40, 45, 50, 55], 35) := by decide +kernel
theorem dX10_count_36 : decode cX10_count 36 = .ok (.aload_n 0, 1) := by decide +kernel
theorem dX10_count_37 : decode cX10_count 37 = .ok (.getfield 74, 3) := by decide +kernel
theorem dX10_count_40 : decode cX10_count 40 = .ok (.ireturn, 1) := by decide +kernel
theorem dX10_count_41 : decode cX10_count 41 = .ok (.aload_n 0, 1) := by decide +kernel
theorem dX10_count_42 : decode cX10_count 42 = .ok (.getfield 47, 3) := by decide +kernel
theorem dX10_count_45 : decode cX10_count 45 = .ok (.ireturn, 1) := by decide +kernel
theorem dX10_count_46 : decode cX10_count 46 = .ok (.aload_n 0, 1) := by decide +kernel
theorem dX10_count_47 : decode cX10_count 47 = .ok (.getfield 51, 3) := by decide +kernel
theorem dX10_count_50 : decode cX10_count 50 = .ok (.ireturn, 1) := by decide +kernel
theorem dX10_count_51 : decode cX10_count 51 = .ok (.aload_n 0, 1) := by decide +kernel
theorem dX10_count_52 : decode cX10_count 52 = .ok (.getfield 83, 3) := by decide +kernel
theorem dX10_count_55 : decode cX10_count 55 = .ok (.ireturn, 1) := by decide +kernel
theorem dX10_count_56 : decode cX10_count 56 = .ok (.aload_n 0, 1) := by decide +kernel
theorem dX10_count_57 : decode cX10_count 57 = .ok (.getfield 86, 3) := by decide +kernel
theorem dX10_count_60 : decode cX10_count 60 = .ok (.ireturn, 1) := by decide +kernel
theorem dX10_count_61 : decode cX10_count 61 = .ok (.iconst (-1), 1) := by decide +kernel
theorem dX10_count_62 : decode cX10_count 62 = .ok (.ireturn, 1) := by decide +kernel
theorem dX10_steps_0 : decode cX10_steps 0 = .ok (.aload_n 0, 1) := by decide +kernel
theorem dX10_steps_1 : decode cX10_steps 1 = .ok (.getfield 70, 3) := by decide +kernel
theorem dX10_steps_4 : decode cX10_steps 4 = .ok (.ifCond .eq 21, 3) := by decide +kernel
theorem dX10_steps_7 : decode cX10_steps 7 = .ok (.aload_n 0, 1) := by decide +kernel
theorem dX10_steps_8 : decode cX10_steps 8 = .ok (.iload_n 1, 1) := by decide +kernel
theorem dX10_steps_9 : decode cX10_steps 9 = .ok (.invokevirtual 93, 3) := by decide +kernel
theorem dX10_steps_12 : decode cX10_steps 12 = .ok (.ifCond .eq 13, 3) := by decide +kernel
theorem dX10_steps_15 : decode cX10_steps 15 = .ok (.aload_n 0, 1) := by decide +kernel
theorem dX10_steps_16 : decode cX10_steps 16 = .ok (.getfield 41, 3) := by decide +kernel
theorem dX10_steps_19 : decode cX10_steps 19 = .ok (.iload_n 1, 1) := by decide +kernel
theorem dX10_steps_20 : decode cX10_steps 20 = .ok (.laload, 1) := by decide +kernel
theorem dX10_steps_21 : decode cX10_steps 21 = .ok (.l2i, 1) := by decide +kernel
theorem dX10_steps_22 : decode cX10_steps 22 = .ok (.goto 4, 3) := by decide +kernel
theorem dX10_steps_25 : decode cX10_steps 25 = .ok (.iconst (-1), 1) := by decide +kernel
theorem dX10_steps_26 : decode cX10_steps 26 = .ok (.ireturn, 1) := by decide +kernel
theorem dX10_depth_0 : decode cX10_depth 0 = .ok (.aload_n 0, 1) := by decide +kernel
theorem dX10_depth_1 : decode cX10_depth 1 = .ok (.getfield 70, 3) := by decide +kernel
theorem dX10_depth_4 : decode cX10_depth 4 = .ok (.ifCond .eq 20, 3) := by decide +kernel
theorem dX10_depth_7 : decode cX10_depth 7 = .ok (.aload_n 0, 1) := by decide +kernel
theorem dX10_depth_8 : decode cX10_depth 8 = .ok (.iload_n 1, 1) := by decide +kernel
theorem dX10_depth_9 : decode cX10_depth 9 = .ok (.invokevirtual 93, 3) := by decide +kernel
theorem dX10_depth_12 : decode cX10_depth 12 = .ok (.ifCond .eq 12, 3) := by decide +kernel
theorem dX10_depth_15 : decode cX10_depth 15 = .ok (.aload_n 0, 1) := by decide +kernel
theorem dX10_depth_16 : decode cX10_depth 16 = .ok (.getfield 44, 3) := by decide +kernel
theorem dX10_depth_19 : decode cX10_depth 19 = .ok (.iload_n 1, 1) := by decide +kernel
theorem dX10_depth_20 : decode cX10_depth 20 = .ok (.iaload, 1) := by decide +kernel
theorem dX10_depth_21 : decode cX10_depth 21 = .ok (.goto 4, 3) := by decide +kernel
theorem dX10_depth_24 : decode cX10_depth 24 = .ok (.iconst (-1), 1) := by decide +kernel
theorem dX10_depth_25 : decode cX10_depth 25 = .ok (.ireturn, 1) := by decide +kernel
theorem dX10_walk_0 : decode cX10_walk 0 = .ok (.aload_n 0, 1) := by decide +kernel
theorem dX10_walk_1 : decode cX10_walk 1 = .ok (.getfield 70, 3) := by decide +kernel
theorem dX10_walk_4 : decode cX10_walk 4 = .ok (.ifCond .eq 10, 3) := by decide +kernel
theorem dX10_walk_7 : decode cX10_walk 7 = .ok (.aload_n 0, 1) := by decide +kernel
theorem dX10_walk_8 : decode cX10_walk 8 = .ok (.getfield 83, 3) := by decide +kernel
theorem dX10_walk_11 : decode cX10_walk 11 = .ok (.ifCond .ne 5, 3) := by decide +kernel
theorem dX10_walk_14 : decode cX10_walk 14 = .ok (.iconst (-1), 1) := by decide +kernel
theorem dX10_walk_15 : decode cX10_walk 15 = .ok (.ireturn, 1) := by decide +kernel
theorem dX10_walk_16 : decode cX10_walk 16 = .ok (.iconst 0, 1) := by decide +kernel
theorem dX10_walk_17 : decode cX10_walk 17 = .ok (.istore_n 3, 1) := by decide +kernel
theorem dX10_walk_18 : decode cX10_walk 18 = .ok (.iload_n 3, 1) := by decide +kernel
theorem dX10_walk_19 : decode cX10_walk 19 = .ok (.sipush 4096, 3) := by decide +kernel
theorem dX10_walk_22 : decode cX10_walk 22 = .ok (.if_icmp .ge 16, 3) := by decide +kernel
theorem dX10_walk_25 : decode cX10_walk 25 = .ok (.aload_n 0, 1) := by decide +kernel
theorem dX10_walk_26 : decode cX10_walk 26 = .ok (.getfield 54, 3) := by decide +kernel
theorem dX10_walk_29 : decode cX10_walk 29 = .ok (.iload_n 3, 1) := by decide +kernel
theorem dX10_walk_30 : decode cX10_walk 30 = .ok (.iconst 0, 1) := by decide +kernel
theorem dX10_walk_31 : decode cX10_walk 31 = .ok (.iastore, 1) := by decide +kernel
theorem dX10_walk_32 : decode cX10_walk 32 = .ok (.iinc 3 1, 3) := by decide +kernel
theorem dX10_walk_35 : decode cX10_walk 35 = .ok (.goto (-17), 3) := by decide +kernel
theorem dX10_walk_38 : decode cX10_walk 38 = .ok (.iconst 0, 1) := by decide +kernel
theorem dX10_walk_39 : decode cX10_walk 39 = .ok (.istore_n 3, 1) := by decide +kernel
theorem dX10_walk_40 : decode cX10_walk 40 = .ok (.iconst 0, 1) := by decide +kernel
theorem dX10_walk_41 : decode cX10_walk 41 = .ok (.istore 4, 2) := by decide +kernel
theorem dX10_walk_43 : decode cX10_walk 43 = .ok (.iconst 0, 1) := by decide +kernel
theorem dX10_walk_44 : decode cX10_walk 44 = .ok (.istore 5, 2) := by decide +kernel
theorem dX10_walk_46 : decode cX10_walk 46 = .ok (.aload_n 0, 1) := by decide +kernel
theorem dX10_walk_47 : decode cX10_walk 47 = .ok (.getfield 57, 3) := by decide +kernel
theorem dX10_walk_50 : decode cX10_walk 50 = .ok (.iconst 0, 1) := by decide +kernel
theorem dX10_walk_51 : decode cX10_walk 51 = .ok (.aload_n 0, 1) := by decide +kernel
theorem dX10_walk_52 : decode cX10_walk 52 = .ok (.getfield 83, 3) := by decide +kernel
theorem dX10_walk_55 : decode cX10_walk 55 = .ok (.iconst 1, 1) := by decide +kernel
theorem dX10_walk_56 : decode cX10_walk 56 = .ok (.isub, 1) := by decide +kernel
theorem dX10_walk_57 : decode cX10_walk 57 = .ok (.iastore, 1) := by decide +kernel
theorem dX10_walk_58 : decode cX10_walk 58 = .ok (.aload_n 0, 1) := by decide +kernel
theorem dX10_walk_59 : decode cX10_walk 59 = .ok (.getfield 60, 3) := by decide +kernel
theorem dX10_walk_62 : decode cX10_walk 62 = .ok (.iconst 0, 1) := by decide +kernel
theorem dX10_walk_63 : decode cX10_walk 63 = .ok (.iconst 0, 1) := by decide +kernel
theorem dX10_walk_64 : decode cX10_walk 64 = .ok (.iastore, 1) := by decide +kernel
theorem dX10_walk_65 : decode cX10_walk 65 = .ok (.aload_n 0, 1) := by decide +kernel
theorem dX10_walk_66 : decode cX10_walk 66 = .ok (.getfield 63, 3) := by decide +kernel
theorem dX10_walk_69 : decode cX10_walk 69 = .ok (.iconst 0, 1) := by decide +kernel
theorem dX10_walk_70 : decode cX10_walk 70 = .ok (.iconst 0, 1) := by decide +kernel
theorem dX10_walk_71 : decode cX10_walk 71 = .ok (.iastore, 1) := by decide +kernel
theorem dX10_walk_72 : decode cX10_walk 72 = .ok (.iload_n 3, 1) := by decide +kernel
theorem dX10_walk_73 : decode cX10_walk 73 = .ok (.ifCond .lt 261, 3) := by decide +kernel
theorem dX10_walk_76 : decode cX10_walk 76 = .ok (.aload_n 0, 1) := by decide +kernel
theorem dX10_walk_77 : decode cX10_walk 77 = .ok (.getfield 57, 3) := by decide +kernel
theorem dX10_walk_80 : decode cX10_walk 80 = .ok (.iload_n 3, 1) := by decide +kernel
theorem dX10_walk_81 : decode cX10_walk 81 = .ok (.iaload, 1) := by decide +kernel
theorem dX10_walk_82 : decode cX10_walk 82 = .ok (.istore 6, 2) := by decide +kernel
theorem dX10_walk_84 : decode cX10_walk 84 = .ok (.aload_n 0, 1) := by decide +kernel
theorem dX10_walk_85 : decode cX10_walk 85 = .ok (.getfield 63, 3) := by decide +kernel
theorem dX10_walk_88 : decode cX10_walk 88 = .ok (.iload_n 3, 1) := by decide +kernel
theorem dX10_walk_89 : decode cX10_walk 89 = .ok (.iaload, 1) := by decide +kernel
theorem dX10_walk_90 : decode cX10_walk 90 = .ok (.istore 7, 2) := by decide +kernel
theorem dX10_walk_92 : decode cX10_walk 92 = .ok (.aload_n 0, 1) := by decide +kernel
theorem dX10_walk_93 : decode cX10_walk 93 = .ok (.getfield 16, 3) := by decide +kernel
theorem dX10_walk_96 : decode cX10_walk 96 = .ok (.iload 6, 2) := by decide +kernel
theorem dX10_walk_98 : decode cX10_walk 98 = .ok (.iaload, 1) := by decide +kernel
theorem dX10_walk_99 : decode cX10_walk 99 = .ok (.iload 7, 2) := by decide +kernel
theorem dX10_walk_101 : decode cX10_walk 101 = .ok (.iadd, 1) := by decide +kernel
theorem dX10_walk_102 : decode cX10_walk 102 = .ok (.istore 8, 2) := by decide +kernel
theorem dX10_walk_104 : decode cX10_walk 104 = .ok (.iload 7, 2) := by decide +kernel
theorem dX10_walk_106 : decode cX10_walk 106 = .ok (.aload_n 0, 1) := by decide +kernel
theorem dX10_walk_107 : decode cX10_walk 107 = .ok (.getfield 16, 3) := by decide +kernel
theorem dX10_walk_110 : decode cX10_walk 110 = .ok (.iload 6, 2) := by decide +kernel
theorem dX10_walk_112 : decode cX10_walk 112 = .ok (.iconst 1, 1) := by decide +kernel
theorem dX10_walk_113 : decode cX10_walk 113 = .ok (.iadd, 1) := by decide +kernel
theorem dX10_walk_114 : decode cX10_walk 114 = .ok (.iaload, 1) := by decide +kernel
theorem dX10_walk_115 : decode cX10_walk 115 = .ok (.aload_n 0, 1) := by decide +kernel
theorem dX10_walk_116 : decode cX10_walk 116 = .ok (.getfield 16, 3) := by decide +kernel
theorem dX10_walk_119 : decode cX10_walk 119 = .ok (.iload 6, 2) := by decide +kernel
theorem dX10_walk_121 : decode cX10_walk 121 = .ok (.iaload, 1) := by decide +kernel
theorem dX10_walk_122 : decode cX10_walk 122 = .ok (.isub, 1) := by decide +kernel
theorem dX10_walk_123 : decode cX10_walk 123 = .ok (.if_icmp .lt 9, 3) := by decide +kernel
theorem dX10_walk_126 : decode cX10_walk 126 = .ok (.iinc 3 (-1), 3) := by decide +kernel
theorem dX10_walk_129 : decode cX10_walk 129 = .ok (.goto 202, 3) := by decide +kernel
theorem dX10_walk_132 : decode cX10_walk 132 = .ok (.iload 4, 2) := by decide +kernel
theorem dX10_walk_134 : decode cX10_walk 134 = .ok (.ldc 221, 2) := by decide +kernel
theorem dX10_walk_136 : decode cX10_walk 136 = .ok (.if_icmp .ne 6, 3) := by decide +kernel
theorem dX10_walk_139 : decode cX10_walk 139 = .ok (.ldc 221, 2) := by decide +kernel
theorem dX10_walk_141 : decode cX10_walk 141 = .ok (.ireturn, 1) := by decide +kernel
theorem dX10_walk_142 : decode cX10_walk 142 = .ok (.iinc 4 1, 3) := by decide +kernel
theorem dX10_walk_145 : decode cX10_walk 145 = .ok (.aload_n 0, 1) := by decide +kernel
theorem dX10_walk_146 : decode cX10_walk 146 = .ok (.getfield 63, 3) := by decide +kernel
theorem dX10_walk_149 : decode cX10_walk 149 = .ok (.iload_n 3, 1) := by decide +kernel
theorem dX10_walk_150 : decode cX10_walk 150 = .ok (.iload 7, 2) := by decide +kernel
theorem dX10_walk_152 : decode cX10_walk 152 = .ok (.iconst 1, 1) := by decide +kernel
theorem dX10_walk_153 : decode cX10_walk 153 = .ok (.iadd, 1) := by decide +kernel
theorem dX10_walk_154 : decode cX10_walk 154 = .ok (.iastore, 1) := by decide +kernel
theorem dX10_walk_155 : decode cX10_walk 155 = .ok (.aload_n 0, 1) := by decide +kernel
theorem dX10_walk_156 : decode cX10_walk 156 = .ok (.getfield 19, 3) := by decide +kernel
theorem dX10_walk_159 : decode cX10_walk 159 = .ok (.iload 8, 2) := by decide +kernel
theorem dX10_walk_161 : decode cX10_walk 161 = .ok (.iaload, 1) := by decide +kernel
theorem dX10_walk_162 : decode cX10_walk 162 = .ok (.bipush 15, 2) := by decide +kernel
theorem dX10_walk_164 : decode cX10_walk 164 = .ok (.if_icmp .eq 15, 3) := by decide +kernel
theorem dX10_walk_167 : decode cX10_walk 167 = .ok (.aload_n 0, 1) := by decide +kernel
theorem dX10_walk_168 : decode cX10_walk 168 = .ok (.getfield 19, 3) := by decide +kernel
theorem dX10_walk_171 : decode cX10_walk 171 = .ok (.iload 8, 2) := by decide +kernel
theorem dX10_walk_173 : decode cX10_walk 173 = .ok (.iaload, 1) := by decide +kernel
theorem dX10_walk_174 : decode cX10_walk 174 = .ok (.bipush 16, 2) := by decide +kernel
theorem dX10_walk_176 : decode cX10_walk 176 = .ok (.if_icmp .ne 78, 3) := by decide +kernel
theorem dX10_walk_179 : decode cX10_walk 179 = .ok (.iinc 3 1, 3) := by decide +kernel
theorem dX10_walk_182 : decode cX10_walk 182 = .ok (.aload_n 0, 1) := by decide +kernel
theorem dX10_walk_183 : decode cX10_walk 183 = .ok (.getfield 57, 3) := by decide +kernel
theorem dX10_walk_186 : decode cX10_walk 186 = .ok (.iload_n 3, 1) := by decide +kernel
theorem dX10_walk_187 : decode cX10_walk 187 = .ok (.aload_n 0, 1) := by decide +kernel
theorem dX10_walk_188 : decode cX10_walk 188 = .ok (.getfield 22, 3) := by decide +kernel
theorem dX10_walk_191 : decode cX10_walk 191 = .ok (.iload 8, 2) := by decide +kernel
theorem dX10_walk_193 : decode cX10_walk 193 = .ok (.iaload, 1) := by decide +kernel
theorem dX10_walk_194 : decode cX10_walk 194 = .ok (.iastore, 1) := by decide +kernel
theorem dX10_walk_195 : decode cX10_walk 195 = .ok (.aload_n 0, 1) := by decide +kernel
theorem dX10_walk_196 : decode cX10_walk 196 = .ok (.getfield 60, 3) := by decide +kernel
theorem dX10_walk_199 : decode cX10_walk 199 = .ok (.iload_n 3, 1) := by decide +kernel
theorem dX10_walk_200 : decode cX10_walk 200 = .ok (.aload_n 0, 1) := by decide +kernel
theorem dX10_walk_201 : decode cX10_walk 201 = .ok (.getfield 19, 3) := by decide +kernel
theorem dX10_walk_204 : decode cX10_walk 204 = .ok (.iload 8, 2) := by decide +kernel
theorem dX10_walk_206 : decode cX10_walk 206 = .ok (.iaload, 1) := by decide +kernel
theorem dX10_walk_207 : decode cX10_walk 207 = .ok (.bipush 15, 2) := by decide +kernel
theorem dX10_walk_209 : decode cX10_walk 209 = .ok (.if_icmp .ne 22, 3) := by decide +kernel
theorem dX10_walk_212 : decode cX10_walk 212 = .ok (.aload_n 0, 1) := by decide +kernel
theorem dX10_walk_213 : decode cX10_walk 213 = .ok (.getfield 60, 3) := by decide +kernel
theorem dX10_walk_216 : decode cX10_walk 216 = .ok (.iload_n 3, 1) := by decide +kernel
theorem dX10_walk_217 : decode cX10_walk 217 = .ok (.iconst 1, 1) := by decide +kernel
theorem dX10_walk_218 : decode cX10_walk 218 = .ok (.isub, 1) := by decide +kernel
theorem dX10_walk_219 : decode cX10_walk 219 = .ok (.iaload, 1) := by decide +kernel
theorem dX10_walk_220 : decode cX10_walk 220 = .ok (.aload_n 0, 1) := by decide +kernel
theorem dX10_walk_221 : decode cX10_walk 221 = .ok (.getfield 25, 3) := by decide +kernel
theorem dX10_walk_224 : decode cX10_walk 224 = .ok (.iload 8, 2) := by decide +kernel
theorem dX10_walk_226 : decode cX10_walk 226 = .ok (.iaload, 1) := by decide +kernel
theorem dX10_walk_227 : decode cX10_walk 227 = .ok (.iadd, 1) := by decide +kernel
theorem dX10_walk_228 : decode cX10_walk 228 = .ok (.goto 15, 3) := by decide +kernel
theorem dX10_walk_231 : decode cX10_walk 231 = .ok (.aload_n 0, 1) := by decide +kernel
theorem dX10_walk_232 : decode cX10_walk 232 = .ok (.getfield 13, 3) := by decide +kernel
theorem dX10_walk_235 : decode cX10_walk 235 = .ok (.aload_n 0, 1) := by decide +kernel
theorem dX10_walk_236 : decode cX10_walk 236 = .ok (.getfield 22, 3) := by decide +kernel
theorem dX10_walk_239 : decode cX10_walk 239 = .ok (.iload 8, 2) := by decide +kernel
theorem dX10_walk_241 : decode cX10_walk 241 = .ok (.iaload, 1) := by decide +kernel
theorem dX10_walk_242 : decode cX10_walk 242 = .ok (.iaload, 1) := by decide +kernel
theorem dX10_walk_243 : decode cX10_walk 243 = .ok (.iastore, 1) := by decide +kernel
theorem dX10_walk_244 : decode cX10_walk 244 = .ok (.aload_n 0, 1) := by decide +kernel
theorem dX10_walk_245 : decode cX10_walk 245 = .ok (.getfield 63, 3) := by decide +kernel
theorem dX10_walk_248 : decode cX10_walk 248 = .ok (.iload_n 3, 1) := by decide +kernel
theorem dX10_walk_249 : decode cX10_walk 249 = .ok (.iconst 0, 1) := by decide +kernel
theorem dX10_walk_250 : decode cX10_walk 250 = .ok (.iastore, 1) := by decide +kernel
theorem dX10_walk_251 : decode cX10_walk 251 = .ok (.goto 80, 3) := by decide +kernel
theorem dX10_walk_254 : decode cX10_walk 254 = .ok (.aload_n 0, 1) := by decide +kernel
theorem dX10_walk_255 : decode cX10_walk 255 = .ok (.getfield 19, 3) := by decide +kernel
theorem dX10_walk_258 : decode cX10_walk 258 = .ok (.iload 8, 2) := by decide +kernel
theorem dX10_walk_260 : decode cX10_walk 260 = .ok (.iaload, 1) := by decide +kernel
theorem dX10_walk_261 : decode cX10_walk 261 = .ok (.bipush 18, 2) := by decide +kernel
theorem dX10_walk_263 : decode cX10_walk 263 = .ok (.if_icmp .ne 9, 3) := by decide +kernel
theorem dX10_walk_266 : decode cX10_walk 266 = .ok (.iinc 3 (-1), 3) := by decide +kernel
theorem dX10_walk_269 : decode cX10_walk 269 = .ok (.goto 62, 3) := by decide +kernel
theorem dX10_walk_272 : decode cX10_walk 272 = .ok (.aload_n 0, 1) := by decide +kernel
theorem dX10_walk_273 : decode cX10_walk 273 = .ok (.getfield 19, 3) := by decide +kernel
theorem dX10_walk_276 : decode cX10_walk 276 = .ok (.iload 8, 2) := by decide +kernel
theorem dX10_walk_278 : decode cX10_walk 278 = .ok (.iaload, 1) := by decide +kernel
theorem dX10_walk_279 : decode cX10_walk 279 = .ok (.bipush 11, 2) := by decide +kernel
theorem dX10_walk_281 : decode cX10_walk 281 = .ok (.if_icmp .ne 43, 3) := by decide +kernel
theorem dX10_walk_284 : decode cX10_walk 284 = .ok (.aload_n 0, 1) := by decide +kernel
theorem dX10_walk_285 : decode cX10_walk 285 = .ok (.getfield 63, 3) := by decide +kernel
theorem dX10_walk_288 : decode cX10_walk 288 = .ok (.iload_n 3, 1) := by decide +kernel
theorem dX10_walk_289 : decode cX10_walk 289 = .ok (.lload_n 1, 1) := by decide +kernel
theorem dX10_walk_290 : decode cX10_walk 290 = .ok (.iload 5, 2) := by decide +kernel
theorem dX10_walk_292 : decode cX10_walk 292 = .ok (.bipush 62, 2) := by decide +kernel
theorem dX10_walk_294 : decode cX10_walk 294 = .ok (.irem, 1) := by decide +kernel
theorem dX10_walk_295 : decode cX10_walk 295 = .ok (.lshr, 1) := by decide +kernel
theorem dX10_walk_296 : decode cX10_walk 296 = .ok (.lconst 1, 1) := by decide +kernel
theorem dX10_walk_297 : decode cX10_walk 297 = .ok (.land, 1) := by decide +kernel
theorem dX10_walk_298 : decode cX10_walk 298 = .ok (.lconst 1, 1) := by decide +kernel
theorem dX10_walk_299 : decode cX10_walk 299 = .ok (.lcmp, 1) := by decide +kernel
theorem dX10_walk_300 : decode cX10_walk 300 = .ok (.ifCond .ne 13, 3) := by decide +kernel
theorem dX10_walk_303 : decode cX10_walk 303 = .ok (.aload_n 0, 1) := by decide +kernel
theorem dX10_walk_304 : decode cX10_walk 304 = .ok (.getfield 22, 3) := by decide +kernel
theorem dX10_walk_307 : decode cX10_walk 307 = .ok (.iload 8, 2) := by decide +kernel
theorem dX10_walk_309 : decode cX10_walk 309 = .ok (.iaload, 1) := by decide +kernel
theorem dX10_walk_310 : decode cX10_walk 310 = .ok (.goto 7, 3) := by decide +kernel
theorem dX10_walk_313 : decode cX10_walk 313 = .ok (.iload 7, 2) := by decide +kernel
theorem dX10_walk_315 : decode cX10_walk 315 = .ok (.iconst 1, 1) := by decide +kernel
theorem dX10_walk_316 : decode cX10_walk 316 = .ok (.iadd, 1) := by decide +kernel
theorem dX10_walk_317 : decode cX10_walk 317 = .ok (.iastore, 1) := by decide +kernel
theorem dX10_walk_318 : decode cX10_walk 318 = .ok (.iinc 5 1, 3) := by decide +kernel
theorem dX10_walk_321 : decode cX10_walk 321 = .ok (.goto 10, 3) := by decide +kernel
theorem dX10_walk_324 : decode cX10_walk 324 = .ok (.aload_n 0, 1) := by decide +kernel
theorem dX10_walk_325 : decode cX10_walk 325 = .ok (.iload 8, 2) := by decide +kernel
theorem dX10_walk_327 : decode cX10_walk 327 = .ok (.iload_n 3, 1) := by decide +kernel
theorem dX10_walk_328 : decode cX10_walk 328 = .ok (.invokevirtual 222, 3) := by decide +kernel
theorem dX10_walk_331 : decode cX10_walk 331 = .ok (.goto (-259), 3) := by decide +kernel
theorem dX10_walk_334 : decode cX10_walk 334 = .ok (.iload 4, 2) := by decide +kernel
theorem dX10_walk_336 : decode cX10_walk 336 = .ok (.ireturn, 1) := by decide +kernel
theorem dX10_go_0 : decode cX10_go 0 = .ok (.aload_n 0, 1) := by decide +kernel
theorem dX10_go_1 : decode cX10_go 1 = .ok (.getfield 60, 3) := by decide +kernel
theorem dX10_go_4 : decode cX10_go 4 = .ok (.iload_n 2, 1) := by decide +kernel
theorem dX10_go_5 : decode cX10_go 5 = .ok (.iaload, 1) := by decide +kernel
theorem dX10_go_6 : decode cX10_go 6 = .ok (.aload_n 0, 1) := by decide +kernel
theorem dX10_go_7 : decode cX10_go 7 = .ok (.getfield 22, 3) := by decide +kernel
theorem dX10_go_10 : decode cX10_go 10 = .ok (.iload_n 1, 1) := by decide +kernel
theorem dX10_go_11 : decode cX10_go 11 = .ok (.iaload, 1) := by decide +kernel
theorem dX10_go_12 : decode cX10_go 12 = .ok (.iadd, 1) := by decide +kernel
theorem dX10_go_13 : decode cX10_go 13 = .ok (.istore_n 3, 1) := by decide +kernel
theorem dX10_go_14 : decode cX10_go 14 = .ok (.aload_n 0, 1) := by decide +kernel
theorem dX10_go_15 : decode cX10_go 15 = .ok (.getfield 19, 3) := by decide +kernel
theorem dX10_go_18 : decode cX10_go 18 = .ok (.iload_n 1, 1) := by decide +kernel
theorem dX10_go_19 : decode cX10_go 19 = .ok (.iaload, 1) := by decide +kernel
theorem dX10_go_20 : decode cX10_go 20 = .ok (.tableswitch 103 10 14 #[36, 103, 51, 66, 36], 36) := by decide +kernel
theorem dX10_go_56 : decode cX10_go 56 = .ok (.aload_n 0, 1) := by decide +kernel
theorem dX10_go_57 : decode cX10_go 57 = .ok (.getfield 63, 3) := by decide +kernel
theorem dX10_go_60 : decode cX10_go 60 = .ok (.iload_n 2, 1) := by decide +kernel
theorem dX10_go_61 : decode cX10_go 61 = .ok (.aload_n 0, 1) := by decide +kernel
theorem dX10_go_62 : decode cX10_go 62 = .ok (.getfield 22, 3) := by decide +kernel
theorem dX10_go_65 : decode cX10_go 65 = .ok (.iload_n 1, 1) := by decide +kernel
theorem dX10_go_66 : decode cX10_go 66 = .ok (.iaload, 1) := by decide +kernel
theorem dX10_go_67 : decode cX10_go 67 = .ok (.iastore, 1) := by decide +kernel
theorem dX10_go_68 : decode cX10_go 68 = .ok (.goto 55, 3) := by decide +kernel
theorem dX10_go_71 : decode cX10_go 71 = .ok (.aload_n 0, 1) := by decide +kernel
theorem dX10_go_72 : decode cX10_go 72 = .ok (.getfield 54, 3) := by decide +kernel
theorem dX10_go_75 : decode cX10_go 75 = .ok (.iload_n 3, 1) := by decide +kernel
theorem dX10_go_76 : decode cX10_go 76 = .ok (.aload_n 0, 1) := by decide +kernel
theorem dX10_go_77 : decode cX10_go 77 = .ok (.getfield 25, 3) := by decide +kernel
theorem dX10_go_80 : decode cX10_go 80 = .ok (.iload_n 1, 1) := by decide +kernel
theorem dX10_go_81 : decode cX10_go 81 = .ok (.iaload, 1) := by decide +kernel
theorem dX10_go_82 : decode cX10_go 82 = .ok (.iastore, 1) := by decide +kernel
theorem dX10_go_83 : decode cX10_go 83 = .ok (.goto 40, 3) := by decide +kernel
theorem dX10_go_86 : decode cX10_go 86 = .ok (.aload_n 0, 1) := by decide +kernel
theorem dX10_go_87 : decode cX10_go 87 = .ok (.getfield 54, 3) := by decide +kernel
theorem dX10_go_90 : decode cX10_go 90 = .ok (.iload_n 3, 1) := by decide +kernel
theorem dX10_go_91 : decode cX10_go 91 = .ok (.iaload, 1) := by decide +kernel
theorem dX10_go_92 : decode cX10_go 92 = .ok (.ifCond .ne 18, 3) := by decide +kernel
theorem dX10_go_95 : decode cX10_go 95 = .ok (.aload_n 0, 1) := by decide +kernel
theorem dX10_go_96 : decode cX10_go 96 = .ok (.getfield 63, 3) := by decide +kernel
theorem dX10_go_99 : decode cX10_go 99 = .ok (.iload_n 2, 1) := by decide +kernel
theorem dX10_go_100 : decode cX10_go 100 = .ok (.aload_n 0, 1) := by decide +kernel
theorem dX10_go_101 : decode cX10_go 101 = .ok (.getfield 25, 3) := by decide +kernel
theorem dX10_go_104 : decode cX10_go 104 = .ok (.iload_n 1, 1) := by decide +kernel
theorem dX10_go_105 : decode cX10_go 105 = .ok (.iaload, 1) := by decide +kernel
theorem dX10_go_106 : decode cX10_go 106 = .ok (.iastore, 1) := by decide +kernel
theorem dX10_go_107 : decode cX10_go 107 = .ok (.goto 16, 3) := by decide +kernel
theorem dX10_go_110 : decode cX10_go 110 = .ok (.aload_n 0, 1) := by decide +kernel
theorem dX10_go_111 : decode cX10_go 111 = .ok (.getfield 54, 3) := by decide +kernel
theorem dX10_go_114 : decode cX10_go 114 = .ok (.iload_n 3, 1) := by decide +kernel
theorem dX10_go_115 : decode cX10_go 115 = .ok (.dup2, 1) := by decide +kernel
theorem dX10_go_116 : decode cX10_go 116 = .ok (.iaload, 1) := by decide +kernel
theorem dX10_go_117 : decode cX10_go 117 = .ok (.iconst 1, 1) := by decide +kernel
theorem dX10_go_118 : decode cX10_go 118 = .ok (.isub, 1) := by decide +kernel
theorem dX10_go_119 : decode cX10_go 119 = .ok (.iastore, 1) := by decide +kernel
theorem dX10_go_120 : decode cX10_go 120 = .ok (.goto 3, 3) := by decide +kernel
theorem dX10_go_123 : decode cX10_go 123 = .ok (.return_, 1) := by decide +kernel
theorem dL_law_0 : decode cL_law 0 = .ok (.new 7, 3) := by decide +kernel
theorem dL_law_3 : decode cL_law 3 = .ok (.dup, 1) := by decide +kernel
theorem dL_law_4 : decode cL_law 4 = .ok (.invokespecial 9, 3) := by decide +kernel
theorem dL_law_7 : decode cL_law 7 = .ok (.astore_n 1, 1) := by decide +kernel
theorem dL_law_8 : decode cL_law 8 = .ok (.new 10, 3) := by decide +kernel
theorem dL_law_11 : decode cL_law 11 = .ok (.dup, 1) := by decide +kernel
theorem dL_law_12 : decode cL_law 12 = .ok (.invokespecial 12, 3) := by decide +kernel
theorem dL_law_15 : decode cL_law 15 = .ok (.astore_n 2, 1) := by decide +kernel
theorem dL_law_16 : decode cL_law 16 = .ok (.iconst 0, 1) := by decide +kernel
theorem dL_law_17 : decode cL_law 17 = .ok (.istore_n 3, 1) := by decide +kernel
theorem dL_law_18 : decode cL_law 18 = .ok (.iload_n 3, 1) := by decide +kernel
theorem dL_law_19 : decode cL_law 19 = .ok (.aload_n 0, 1) := by decide +kernel
theorem dL_law_20 : decode cL_law 20 = .ok (.arraylength, 1) := by decide +kernel
theorem dL_law_21 : decode cL_law 21 = .ok (.bipush 7, 2) := by decide +kernel
theorem dL_law_23 : decode cL_law 23 = .ok (.isub, 1) := by decide +kernel
theorem dL_law_24 : decode cL_law 24 = .ok (.if_icmp .gt 385, 3) := by decide +kernel
theorem dL_law_27 : decode cL_law 27 = .ok (.aload_n 0, 1) := by decide +kernel
theorem dL_law_28 : decode cL_law 28 = .ok (.iload_n 3, 1) := by decide +kernel
theorem dL_law_29 : decode cL_law 29 = .ok (.iaload, 1) := by decide +kernel
theorem dL_law_30 : decode cL_law 30 = .ok (.bipush 15, 2) := by decide +kernel
theorem dL_law_32 : decode cL_law 32 = .ok (.iand, 1) := by decide +kernel
theorem dL_law_33 : decode cL_law 33 = .ok (.tableswitch 370 0 8 #[51, 74, 107, 160, 235, 248, 271, 294, 317], 51) := by decide +kernel
theorem dL_law_84 : decode cL_law 84 = .ok (.aload_n 1, 1) := by decide +kernel
theorem dL_law_85 : decode cL_law 85 = .ok (.aload_n 0, 1) := by decide +kernel
theorem dL_law_86 : decode cL_law 86 = .ok (.iload_n 3, 1) := by decide +kernel
theorem dL_law_87 : decode cL_law 87 = .ok (.iconst 1, 1) := by decide +kernel
theorem dL_law_88 : decode cL_law 88 = .ok (.iadd, 1) := by decide +kernel
theorem dL_law_89 : decode cL_law 89 = .ok (.iaload, 1) := by decide +kernel
theorem dL_law_90 : decode cL_law 90 = .ok (.invokevirtual 13, 3) := by decide +kernel
theorem dL_law_93 : decode cL_law 93 = .ok (.aload_n 2, 1) := by decide +kernel
theorem dL_law_94 : decode cL_law 94 = .ok (.aload_n 0, 1) := by decide +kernel
theorem dL_law_95 : decode cL_law 95 = .ok (.iload_n 3, 1) := by decide +kernel
theorem dL_law_96 : decode cL_law 96 = .ok (.iconst 1, 1) := by decide +kernel
theorem dL_law_97 : decode cL_law 97 = .ok (.iadd, 1) := by decide +kernel
theorem dL_law_98 : decode cL_law 98 = .ok (.iaload, 1) := by decide +kernel
theorem dL_law_99 : decode cL_law 99 = .ok (.invokevirtual 17, 3) := by decide +kernel
theorem dL_law_102 : decode cL_law 102 = .ok (.if_icmp .eq 301, 3) := by decide +kernel
theorem dL_law_105 : decode cL_law 105 = .ok (.iconst 0, 1) := by decide +kernel
theorem dL_law_106 : decode cL_law 106 = .ok (.ireturn, 1) := by decide +kernel
theorem dL_law_107 : decode cL_law 107 = .ok (.aload_n 1, 1) := by decide +kernel
theorem dL_law_108 : decode cL_law 108 = .ok (.aload_n 0, 1) := by decide +kernel
theorem dL_law_109 : decode cL_law 109 = .ok (.iload_n 3, 1) := by decide +kernel
theorem dL_law_110 : decode cL_law 110 = .ok (.iconst 1, 1) := by decide +kernel
theorem dL_law_111 : decode cL_law 111 = .ok (.iadd, 1) := by decide +kernel
theorem dL_law_112 : decode cL_law 112 = .ok (.iaload, 1) := by decide +kernel
theorem dL_law_113 : decode cL_law 113 = .ok (.aload_n 0, 1) := by decide +kernel
theorem dL_law_114 : decode cL_law 114 = .ok (.iload_n 3, 1) := by decide +kernel
theorem dL_law_115 : decode cL_law 115 = .ok (.iconst 2, 1) := by decide +kernel
theorem dL_law_116 : decode cL_law 116 = .ok (.iadd, 1) := by decide +kernel
theorem dL_law_117 : decode cL_law 117 = .ok (.iaload, 1) := by decide +kernel
theorem dL_law_118 : decode cL_law 118 = .ok (.invokevirtual 18, 3) := by decide +kernel
theorem dL_law_121 : decode cL_law 121 = .ok (.aload_n 2, 1) := by decide +kernel
theorem dL_law_122 : decode cL_law 122 = .ok (.aload_n 0, 1) := by decide +kernel
theorem dL_law_123 : decode cL_law 123 = .ok (.iload_n 3, 1) := by decide +kernel
theorem dL_law_124 : decode cL_law 124 = .ok (.iconst 1, 1) := by decide +kernel
theorem dL_law_125 : decode cL_law 125 = .ok (.iadd, 1) := by decide +kernel
theorem dL_law_126 : decode cL_law 126 = .ok (.iaload, 1) := by decide +kernel
theorem dL_law_127 : decode cL_law 127 = .ok (.aload_n 0, 1) := by decide +kernel
theorem dL_law_128 : decode cL_law 128 = .ok (.iload_n 3, 1) := by decide +kernel
theorem dL_law_129 : decode cL_law 129 = .ok (.iconst 2, 1) := by decide +kernel
theorem dL_law_130 : decode cL_law 130 = .ok (.iadd, 1) := by decide +kernel
theorem dL_law_131 : decode cL_law 131 = .ok (.iaload, 1) := by decide +kernel
theorem dL_law_132 : decode cL_law 132 = .ok (.invokevirtual 22, 3) := by decide +kernel
theorem dL_law_135 : decode cL_law 135 = .ok (.if_icmp .eq 268, 3) := by decide +kernel
theorem dL_law_138 : decode cL_law 138 = .ok (.iconst 0, 1) := by decide +kernel
theorem dL_law_139 : decode cL_law 139 = .ok (.ireturn, 1) := by decide +kernel
theorem dL_law_140 : decode cL_law 140 = .ok (.aload_n 1, 1) := by decide +kernel
theorem dL_law_141 : decode cL_law 141 = .ok (.aload_n 0, 1) := by decide +kernel
theorem dL_law_142 : decode cL_law 142 = .ok (.iload_n 3, 1) := by decide +kernel
theorem dL_law_143 : decode cL_law 143 = .ok (.iconst 1, 1) := by decide +kernel
theorem dL_law_144 : decode cL_law 144 = .ok (.iadd, 1) := by decide +kernel
theorem dL_law_145 : decode cL_law 145 = .ok (.iaload, 1) := by decide +kernel
theorem dL_law_146 : decode cL_law 146 = .ok (.aload_n 0, 1) := by decide +kernel
theorem dL_law_147 : decode cL_law 147 = .ok (.iload_n 3, 1) := by decide +kernel
theorem dL_law_148 : decode cL_law 148 = .ok (.iconst 2, 1) := by decide +kernel
theorem dL_law_149 : decode cL_law 149 = .ok (.iadd, 1) := by decide +kernel
theorem dL_law_150 : decode cL_law 150 = .ok (.iaload, 1) := by decide +kernel
theorem dL_law_151 : decode cL_law 151 = .ok (.aload_n 0, 1) := by decide +kernel
theorem dL_law_152 : decode cL_law 152 = .ok (.iload_n 3, 1) := by decide +kernel
theorem dL_law_153 : decode cL_law 153 = .ok (.iconst 3, 1) := by decide +kernel
theorem dL_law_154 : decode cL_law 154 = .ok (.iadd, 1) := by decide +kernel
theorem dL_law_155 : decode cL_law 155 = .ok (.iaload, 1) := by decide +kernel
theorem dL_law_156 : decode cL_law 156 = .ok (.aload_n 0, 1) := by decide +kernel
theorem dL_law_157 : decode cL_law 157 = .ok (.iload_n 3, 1) := by decide +kernel
theorem dL_law_158 : decode cL_law 158 = .ok (.iconst 4, 1) := by decide +kernel
theorem dL_law_159 : decode cL_law 159 = .ok (.iadd, 1) := by decide +kernel
theorem dL_law_160 : decode cL_law 160 = .ok (.iaload, 1) := by decide +kernel
theorem dL_law_161 : decode cL_law 161 = .ok (.invokevirtual 23, 3) := by decide +kernel
theorem dL_law_164 : decode cL_law 164 = .ok (.aload_n 2, 1) := by decide +kernel
theorem dL_law_165 : decode cL_law 165 = .ok (.aload_n 0, 1) := by decide +kernel
theorem dL_law_166 : decode cL_law 166 = .ok (.iload_n 3, 1) := by decide +kernel
theorem dL_law_167 : decode cL_law 167 = .ok (.iconst 1, 1) := by decide +kernel
theorem dL_law_168 : decode cL_law 168 = .ok (.iadd, 1) := by decide +kernel
theorem dL_law_169 : decode cL_law 169 = .ok (.iaload, 1) := by decide +kernel
theorem dL_law_170 : decode cL_law 170 = .ok (.aload_n 0, 1) := by decide +kernel
theorem dL_law_171 : decode cL_law 171 = .ok (.iload_n 3, 1) := by decide +kernel
theorem dL_law_172 : decode cL_law 172 = .ok (.iconst 2, 1) := by decide +kernel
theorem dL_law_173 : decode cL_law 173 = .ok (.iadd, 1) := by decide +kernel
theorem dL_law_174 : decode cL_law 174 = .ok (.iaload, 1) := by decide +kernel
theorem dL_law_175 : decode cL_law 175 = .ok (.aload_n 0, 1) := by decide +kernel
theorem dL_law_176 : decode cL_law 176 = .ok (.iload_n 3, 1) := by decide +kernel
theorem dL_law_177 : decode cL_law 177 = .ok (.iconst 3, 1) := by decide +kernel
theorem dL_law_178 : decode cL_law 178 = .ok (.iadd, 1) := by decide +kernel
theorem dL_law_179 : decode cL_law 179 = .ok (.iaload, 1) := by decide +kernel
theorem dL_law_180 : decode cL_law 180 = .ok (.aload_n 0, 1) := by decide +kernel
theorem dL_law_181 : decode cL_law 181 = .ok (.iload_n 3, 1) := by decide +kernel
theorem dL_law_182 : decode cL_law 182 = .ok (.iconst 4, 1) := by decide +kernel
theorem dL_law_183 : decode cL_law 183 = .ok (.iadd, 1) := by decide +kernel
theorem dL_law_184 : decode cL_law 184 = .ok (.iaload, 1) := by decide +kernel
theorem dL_law_185 : decode cL_law 185 = .ok (.invokevirtual 27, 3) := by decide +kernel
theorem dL_law_188 : decode cL_law 188 = .ok (.if_icmp .eq 215, 3) := by decide +kernel
theorem dL_law_191 : decode cL_law 191 = .ok (.iconst 0, 1) := by decide +kernel
theorem dL_law_192 : decode cL_law 192 = .ok (.ireturn, 1) := by decide +kernel
theorem dL_law_193 : decode cL_law 193 = .ok (.aload_n 1, 1) := by decide +kernel
theorem dL_law_194 : decode cL_law 194 = .ok (.aload_n 0, 1) := by decide +kernel
theorem dL_law_195 : decode cL_law 195 = .ok (.iload_n 3, 1) := by decide +kernel
theorem dL_law_196 : decode cL_law 196 = .ok (.iconst 1, 1) := by decide +kernel
theorem dL_law_197 : decode cL_law 197 = .ok (.iadd, 1) := by decide +kernel
theorem dL_law_198 : decode cL_law 198 = .ok (.iaload, 1) := by decide +kernel
theorem dL_law_199 : decode cL_law 199 = .ok (.aload_n 0, 1) := by decide +kernel
theorem dL_law_200 : decode cL_law 200 = .ok (.iload_n 3, 1) := by decide +kernel
theorem dL_law_201 : decode cL_law 201 = .ok (.iconst 2, 1) := by decide +kernel
theorem dL_law_202 : decode cL_law 202 = .ok (.iadd, 1) := by decide +kernel
theorem dL_law_203 : decode cL_law 203 = .ok (.iaload, 1) := by decide +kernel
theorem dL_law_204 : decode cL_law 204 = .ok (.aload_n 0, 1) := by decide +kernel
theorem dL_law_205 : decode cL_law 205 = .ok (.iload_n 3, 1) := by decide +kernel
theorem dL_law_206 : decode cL_law 206 = .ok (.iconst 3, 1) := by decide +kernel
theorem dL_law_207 : decode cL_law 207 = .ok (.iadd, 1) := by decide +kernel
theorem dL_law_208 : decode cL_law 208 = .ok (.iaload, 1) := by decide +kernel
theorem dL_law_209 : decode cL_law 209 = .ok (.aload_n 0, 1) := by decide +kernel
theorem dL_law_210 : decode cL_law 210 = .ok (.iload_n 3, 1) := by decide +kernel
theorem dL_law_211 : decode cL_law 211 = .ok (.iconst 4, 1) := by decide +kernel
theorem dL_law_212 : decode cL_law 212 = .ok (.iadd, 1) := by decide +kernel
theorem dL_law_213 : decode cL_law 213 = .ok (.iaload, 1) := by decide +kernel
theorem dL_law_214 : decode cL_law 214 = .ok (.aload_n 0, 1) := by decide +kernel
theorem dL_law_215 : decode cL_law 215 = .ok (.iload_n 3, 1) := by decide +kernel
theorem dL_law_216 : decode cL_law 216 = .ok (.iconst 5, 1) := by decide +kernel
theorem dL_law_217 : decode cL_law 217 = .ok (.iadd, 1) := by decide +kernel
theorem dL_law_218 : decode cL_law 218 = .ok (.iaload, 1) := by decide +kernel
theorem dL_law_219 : decode cL_law 219 = .ok (.aload_n 0, 1) := by decide +kernel
theorem dL_law_220 : decode cL_law 220 = .ok (.iload_n 3, 1) := by decide +kernel
theorem dL_law_221 : decode cL_law 221 = .ok (.bipush 6, 2) := by decide +kernel
theorem dL_law_223 : decode cL_law 223 = .ok (.iadd, 1) := by decide +kernel
theorem dL_law_224 : decode cL_law 224 = .ok (.iaload, 1) := by decide +kernel
theorem dL_law_225 : decode cL_law 225 = .ok (.invokevirtual 28, 3) := by decide +kernel
theorem dL_law_228 : decode cL_law 228 = .ok (.aload_n 2, 1) := by decide +kernel
theorem dL_law_229 : decode cL_law 229 = .ok (.aload_n 0, 1) := by decide +kernel
theorem dL_law_230 : decode cL_law 230 = .ok (.iload_n 3, 1) := by decide +kernel
theorem dL_law_231 : decode cL_law 231 = .ok (.iconst 1, 1) := by decide +kernel
theorem dL_law_232 : decode cL_law 232 = .ok (.iadd, 1) := by decide +kernel
theorem dL_law_233 : decode cL_law 233 = .ok (.iaload, 1) := by decide +kernel
theorem dL_law_234 : decode cL_law 234 = .ok (.aload_n 0, 1) := by decide +kernel
theorem dL_law_235 : decode cL_law 235 = .ok (.iload_n 3, 1) := by decide +kernel
theorem dL_law_236 : decode cL_law 236 = .ok (.iconst 2, 1) := by decide +kernel
theorem dL_law_237 : decode cL_law 237 = .ok (.iadd, 1) := by decide +kernel
theorem dL_law_238 : decode cL_law 238 = .ok (.iaload, 1) := by decide +kernel
theorem dL_law_239 : decode cL_law 239 = .ok (.aload_n 0, 1) := by decide +kernel
theorem dL_law_240 : decode cL_law 240 = .ok (.iload_n 3, 1) := by decide +kernel
theorem dL_law_241 : decode cL_law 241 = .ok (.iconst 3, 1) := by decide +kernel
theorem dL_law_242 : decode cL_law 242 = .ok (.iadd, 1) := by decide +kernel
theorem dL_law_243 : decode cL_law 243 = .ok (.iaload, 1) := by decide +kernel
theorem dL_law_244 : decode cL_law 244 = .ok (.aload_n 0, 1) := by decide +kernel
theorem dL_law_245 : decode cL_law 245 = .ok (.iload_n 3, 1) := by decide +kernel
theorem dL_law_246 : decode cL_law 246 = .ok (.iconst 4, 1) := by decide +kernel
theorem dL_law_247 : decode cL_law 247 = .ok (.iadd, 1) := by decide +kernel
theorem dL_law_248 : decode cL_law 248 = .ok (.iaload, 1) := by decide +kernel
theorem dL_law_249 : decode cL_law 249 = .ok (.aload_n 0, 1) := by decide +kernel
theorem dL_law_250 : decode cL_law 250 = .ok (.iload_n 3, 1) := by decide +kernel
theorem dL_law_251 : decode cL_law 251 = .ok (.iconst 5, 1) := by decide +kernel
theorem dL_law_252 : decode cL_law 252 = .ok (.iadd, 1) := by decide +kernel
theorem dL_law_253 : decode cL_law 253 = .ok (.iaload, 1) := by decide +kernel
theorem dL_law_254 : decode cL_law 254 = .ok (.aload_n 0, 1) := by decide +kernel
theorem dL_law_255 : decode cL_law 255 = .ok (.iload_n 3, 1) := by decide +kernel
theorem dL_law_256 : decode cL_law 256 = .ok (.bipush 6, 2) := by decide +kernel
theorem dL_law_258 : decode cL_law 258 = .ok (.iadd, 1) := by decide +kernel
theorem dL_law_259 : decode cL_law 259 = .ok (.iaload, 1) := by decide +kernel
theorem dL_law_260 : decode cL_law 260 = .ok (.invokevirtual 32, 3) := by decide +kernel
theorem dL_law_263 : decode cL_law 263 = .ok (.if_icmp .eq 140, 3) := by decide +kernel
theorem dL_law_266 : decode cL_law 266 = .ok (.iconst 0, 1) := by decide +kernel
theorem dL_law_267 : decode cL_law 267 = .ok (.ireturn, 1) := by decide +kernel
theorem dL_law_268 : decode cL_law 268 = .ok (.aload_n 1, 1) := by decide +kernel
theorem dL_law_269 : decode cL_law 269 = .ok (.invokevirtual 33, 3) := by decide +kernel
theorem dL_law_272 : decode cL_law 272 = .ok (.aload_n 2, 1) := by decide +kernel
theorem dL_law_273 : decode cL_law 273 = .ok (.invokevirtual 37, 3) := by decide +kernel
theorem dL_law_276 : decode cL_law 276 = .ok (.if_icmp .eq 127, 3) := by decide +kernel
theorem dL_law_279 : decode cL_law 279 = .ok (.iconst 0, 1) := by decide +kernel
theorem dL_law_280 : decode cL_law 280 = .ok (.ireturn, 1) := by decide +kernel
theorem dL_law_281 : decode cL_law 281 = .ok (.aload_n 1, 1) := by decide +kernel
theorem dL_law_282 : decode cL_law 282 = .ok (.aload_n 0, 1) := by decide +kernel
theorem dL_law_283 : decode cL_law 283 = .ok (.iload_n 3, 1) := by decide +kernel
theorem dL_law_284 : decode cL_law 284 = .ok (.iconst 1, 1) := by decide +kernel
theorem dL_law_285 : decode cL_law 285 = .ok (.iadd, 1) := by decide +kernel
theorem dL_law_286 : decode cL_law 286 = .ok (.iaload, 1) := by decide +kernel
theorem dL_law_287 : decode cL_law 287 = .ok (.invokevirtual 38, 3) := by decide +kernel
theorem dL_law_290 : decode cL_law 290 = .ok (.aload_n 2, 1) := by decide +kernel
theorem dL_law_291 : decode cL_law 291 = .ok (.aload_n 0, 1) := by decide +kernel
theorem dL_law_292 : decode cL_law 292 = .ok (.iload_n 3, 1) := by decide +kernel
theorem dL_law_293 : decode cL_law 293 = .ok (.iconst 1, 1) := by decide +kernel
theorem dL_law_294 : decode cL_law 294 = .ok (.iadd, 1) := by decide +kernel
theorem dL_law_295 : decode cL_law 295 = .ok (.iaload, 1) := by decide +kernel
theorem dL_law_296 : decode cL_law 296 = .ok (.invokevirtual 41, 3) := by decide +kernel
theorem dL_law_299 : decode cL_law 299 = .ok (.if_icmp .eq 104, 3) := by decide +kernel
theorem dL_law_302 : decode cL_law 302 = .ok (.iconst 0, 1) := by decide +kernel
theorem dL_law_303 : decode cL_law 303 = .ok (.ireturn, 1) := by decide +kernel
theorem dL_law_304 : decode cL_law 304 = .ok (.aload_n 1, 1) := by decide +kernel
theorem dL_law_305 : decode cL_law 305 = .ok (.aload_n 0, 1) := by decide +kernel
theorem dL_law_306 : decode cL_law 306 = .ok (.iload_n 3, 1) := by decide +kernel
theorem dL_law_307 : decode cL_law 307 = .ok (.iconst 1, 1) := by decide +kernel
theorem dL_law_308 : decode cL_law 308 = .ok (.iadd, 1) := by decide +kernel
theorem dL_law_309 : decode cL_law 309 = .ok (.iaload, 1) := by decide +kernel
theorem dL_law_310 : decode cL_law 310 = .ok (.invokevirtual 42, 3) := by decide +kernel
theorem dL_law_313 : decode cL_law 313 = .ok (.aload_n 2, 1) := by decide +kernel
theorem dL_law_314 : decode cL_law 314 = .ok (.aload_n 0, 1) := by decide +kernel
theorem dL_law_315 : decode cL_law 315 = .ok (.iload_n 3, 1) := by decide +kernel
theorem dL_law_316 : decode cL_law 316 = .ok (.iconst 1, 1) := by decide +kernel
theorem dL_law_317 : decode cL_law 317 = .ok (.iadd, 1) := by decide +kernel
theorem dL_law_318 : decode cL_law 318 = .ok (.iaload, 1) := by decide +kernel
theorem dL_law_319 : decode cL_law 319 = .ok (.invokevirtual 45, 3) := by decide +kernel
theorem dL_law_322 : decode cL_law 322 = .ok (.if_icmp .eq 81, 3) := by decide +kernel
theorem dL_law_325 : decode cL_law 325 = .ok (.iconst 0, 1) := by decide +kernel
theorem dL_law_326 : decode cL_law 326 = .ok (.ireturn, 1) := by decide +kernel
theorem dL_law_327 : decode cL_law 327 = .ok (.aload_n 1, 1) := by decide +kernel
theorem dL_law_328 : decode cL_law 328 = .ok (.aload_n 0, 1) := by decide +kernel
theorem dL_law_329 : decode cL_law 329 = .ok (.iload_n 3, 1) := by decide +kernel
theorem dL_law_330 : decode cL_law 330 = .ok (.iconst 1, 1) := by decide +kernel
theorem dL_law_331 : decode cL_law 331 = .ok (.iadd, 1) := by decide +kernel
theorem dL_law_332 : decode cL_law 332 = .ok (.iaload, 1) := by decide +kernel
theorem dL_law_333 : decode cL_law 333 = .ok (.invokevirtual 46, 3) := by decide +kernel
theorem dL_law_336 : decode cL_law 336 = .ok (.aload_n 2, 1) := by decide +kernel
theorem dL_law_337 : decode cL_law 337 = .ok (.aload_n 0, 1) := by decide +kernel
theorem dL_law_338 : decode cL_law 338 = .ok (.iload_n 3, 1) := by decide +kernel
theorem dL_law_339 : decode cL_law 339 = .ok (.iconst 1, 1) := by decide +kernel
theorem dL_law_340 : decode cL_law 340 = .ok (.iadd, 1) := by decide +kernel
theorem dL_law_341 : decode cL_law 341 = .ok (.iaload, 1) := by decide +kernel
theorem dL_law_342 : decode cL_law 342 = .ok (.invokevirtual 49, 3) := by decide +kernel
theorem dL_law_345 : decode cL_law 345 = .ok (.if_icmp .eq 58, 3) := by decide +kernel
theorem dL_law_348 : decode cL_law 348 = .ok (.iconst 0, 1) := by decide +kernel
theorem dL_law_349 : decode cL_law 349 = .ok (.ireturn, 1) := by decide +kernel
theorem dL_law_350 : decode cL_law 350 = .ok (.aload_n 1, 1) := by decide +kernel
theorem dL_law_351 : decode cL_law 351 = .ok (.aload_n 0, 1) := by decide +kernel
theorem dL_law_352 : decode cL_law 352 = .ok (.iload_n 3, 1) := by decide +kernel
theorem dL_law_353 : decode cL_law 353 = .ok (.iconst 1, 1) := by decide +kernel
theorem dL_law_354 : decode cL_law 354 = .ok (.iadd, 1) := by decide +kernel
theorem dL_law_355 : decode cL_law 355 = .ok (.iaload, 1) := by decide +kernel
theorem dL_law_356 : decode cL_law 356 = .ok (.i2l, 1) := by decide +kernel
theorem dL_law_357 : decode cL_law 357 = .ok (.bipush 32, 2) := by decide +kernel
theorem dL_law_359 : decode cL_law 359 = .ok (.lshl, 1) := by decide +kernel
theorem dL_law_360 : decode cL_law 360 = .ok (.aload_n 0, 1) := by decide +kernel
theorem dL_law_361 : decode cL_law 361 = .ok (.iload_n 3, 1) := by decide +kernel
theorem dL_law_362 : decode cL_law 362 = .ok (.iconst 2, 1) := by decide +kernel
theorem dL_law_363 : decode cL_law 363 = .ok (.iadd, 1) := by decide +kernel
theorem dL_law_364 : decode cL_law 364 = .ok (.iaload, 1) := by decide +kernel
theorem dL_law_365 : decode cL_law 365 = .ok (.i2l, 1) := by decide +kernel
theorem dL_law_366 : decode cL_law 366 = .ok (.ldc2_w 50, 3) := by decide +kernel
theorem dL_law_369 : decode cL_law 369 = .ok (.land, 1) := by decide +kernel
theorem dL_law_370 : decode cL_law 370 = .ok (.lor, 1) := by decide +kernel
theorem dL_law_371 : decode cL_law 371 = .ok (.invokevirtual 52, 3) := by decide +kernel
theorem dL_law_374 : decode cL_law 374 = .ok (.aload_n 2, 1) := by decide +kernel
theorem dL_law_375 : decode cL_law 375 = .ok (.aload_n 0, 1) := by decide +kernel
theorem dL_law_376 : decode cL_law 376 = .ok (.iload_n 3, 1) := by decide +kernel
theorem dL_law_377 : decode cL_law 377 = .ok (.iconst 1, 1) := by decide +kernel
theorem dL_law_378 : decode cL_law 378 = .ok (.iadd, 1) := by decide +kernel
theorem dL_law_379 : decode cL_law 379 = .ok (.iaload, 1) := by decide +kernel
theorem dL_law_380 : decode cL_law 380 = .ok (.i2l, 1) := by decide +kernel
theorem dL_law_381 : decode cL_law 381 = .ok (.bipush 32, 2) := by decide +kernel
theorem dL_law_383 : decode cL_law 383 = .ok (.lshl, 1) := by decide +kernel
theorem dL_law_384 : decode cL_law 384 = .ok (.aload_n 0, 1) := by decide +kernel
theorem dL_law_385 : decode cL_law 385 = .ok (.iload_n 3, 1) := by decide +kernel
theorem dL_law_386 : decode cL_law 386 = .ok (.iconst 2, 1) := by decide +kernel
theorem dL_law_387 : decode cL_law 387 = .ok (.iadd, 1) := by decide +kernel
theorem dL_law_388 : decode cL_law 388 = .ok (.iaload, 1) := by decide +kernel
theorem dL_law_389 : decode cL_law 389 = .ok (.i2l, 1) := by decide +kernel
theorem dL_law_390 : decode cL_law 390 = .ok (.ldc2_w 50, 3) := by decide +kernel
theorem dL_law_393 : decode cL_law 393 = .ok (.land, 1) := by decide +kernel
theorem dL_law_394 : decode cL_law 394 = .ok (.lor, 1) := by decide +kernel
theorem dL_law_395 : decode cL_law 395 = .ok (.invokevirtual 56, 3) := by decide +kernel
theorem dL_law_398 : decode cL_law 398 = .ok (.if_icmp .eq 5, 3) := by decide +kernel
theorem dL_law_401 : decode cL_law 401 = .ok (.iconst 0, 1) := by decide +kernel
theorem dL_law_402 : decode cL_law 402 = .ok (.ireturn, 1) := by decide +kernel
theorem dL_law_403 : decode cL_law 403 = .ok (.iinc 3 7, 3) := by decide +kernel
theorem dL_law_406 : decode cL_law 406 = .ok (.goto (-388), 3) := by decide +kernel
theorem dL_law_409 : decode cL_law 409 = .ok (.iconst 1, 1) := by decide +kernel
theorem dL_law_410 : decode cL_law 410 = .ok (.ireturn, 1) := by decide +kernel
