/-! part 70.r05: block equations of the reference's methods 232 to 240 (printed by wip/whole/tools/gen71.py) -/
theorem qy_235 : vt_O 235 = 12 := by decide +kernel
theorem qr_235 : vt_rc.getD 235 0 = 0 := by decide +kernel
theorem ql_235 : vt_ml.getD 235 0 = 9 := by decide +kernel
theorem q_232_0 : js_I 232 0 = some (.aload_n 0, 1) := by decide +kernel
theorem q_232_1 : js_I 232 1 = some (.getfield 123, 3) := by decide +kernel
theorem q_232_4 : js_I 232 4 = some (.ifCond .ge 8, 3) := by decide +kernel
theorem q_232_7 : js_I 232 7 = some (.bipush 16, 2) := by decide +kernel
theorem q_232_9 : js_I 232 9 = some (.goto 5, 3) := by decide +kernel
theorem q_232_12 : js_I 232 12 = some (.bipush 15, 2) := by decide +kernel
theorem q_232_14 : js_I 232 14 = some (.istore_n 2, 1) := by decide +kernel
theorem q_232_15 : js_I 232 15 = some (.aload_n 0, 1) := by decide +kernel
theorem q_232_16 : js_I 232 16 = some (.getfield 132, 3) := by decide +kernel
theorem q_232_19 : js_I 232 19 = some (.iload_n 1, 1) := by decide +kernel
theorem q_232_20 : js_I 232 20 = some (.iaload, 1) := by decide +kernel
theorem q_232_21 : js_I 232 21 = some (.iload_n 2, 1) := by decide +kernel
theorem q_232_22 : js_I 232 22 = some (.if_icmp .le 15, 3) := by decide +kernel
theorem q_232_25 : js_I 232 25 = some (.aload_n 0, 1) := by decide +kernel
theorem q_232_26 : js_I 232 26 = some (.bipush 10, 2) := by decide +kernel
theorem q_232_28 : js_I 232 28 = some (.aload_n 0, 1) := by decide +kernel
theorem q_232_29 : js_I 232 29 = some (.getfield 35, 3) := by decide +kernel
theorem q_232_32 : js_I 232 32 = some (.invokevirtual 65, 3) := by decide +kernel
theorem q_232_37 : js_I 232 37 = some (.aload_n 0, 1) := by decide +kernel
theorem q_232_38 : js_I 232 38 = some (.getfield 132, 3) := by decide +kernel
theorem q_232_41 : js_I 232 41 = some (.iload_n 1, 1) := by decide +kernel
theorem q_232_42 : js_I 232 42 = some (.iaload, 1) := by decide +kernel
theorem q_232_43 : js_I 232 43 = some (.aload_n 0, 1) := by decide +kernel
theorem q_232_44 : js_I 232 44 = some (.getfield 284, 3) := by decide +kernel
theorem q_232_47 : js_I 232 47 = some (.if_icmp .le 13, 3) := by decide +kernel
theorem q_232_50 : js_I 232 50 = some (.aload_n 0, 1) := by decide +kernel
theorem q_232_51 : js_I 232 51 = some (.aload_n 0, 1) := by decide +kernel
theorem q_232_52 : js_I 232 52 = some (.getfield 132, 3) := by decide +kernel
theorem q_232_55 : js_I 232 55 = some (.iload_n 1, 1) := by decide +kernel
theorem q_232_56 : js_I 232 56 = some (.iaload, 1) := by decide +kernel
theorem q_232_57 : js_I 232 57 = some (.putfield 284, 3) := by decide +kernel
theorem q_232_35 : js_I 232 35 = some (.iconst 0, 1) := by decide +kernel
theorem q_232_36 : js_I 232 36 = some (.ireturn, 1) := by decide +kernel
theorem q_232_60 : js_I 232 60 = some (.aload_n 0, 1) := by decide +kernel
theorem q_232_61 : js_I 232 61 = some (.invokevirtual 68, 3) := by decide +kernel
theorem q_232_64 : js_I 232 64 = some (.aload_n 0, 1) := by decide +kernel
theorem q_232_65 : js_I 232 65 = some (.bipush 40, 2) := by decide +kernel
theorem q_232_67 : js_I 232 67 = some (.invokevirtual 159, 3) := by decide +kernel
theorem q_232_70 : js_I 232 70 = some (.iconst 0, 1) := by decide +kernel
theorem q_232_71 : js_I 232 71 = some (.istore_n 3, 1) := by decide +kernel
theorem q_232_72 : js_I 232 72 = some (.iconst (-1), 1) := by decide +kernel
theorem q_232_73 : js_I 232 73 = some (.istore 4, 2) := by decide +kernel
theorem q_232_75 : js_I 232 75 = some (.iconst (-1), 1) := by decide +kernel
theorem q_232_76 : js_I 232 76 = some (.istore 5, 2) := by decide +kernel
theorem q_232_78 : js_I 232 78 = some (.aload_n 0, 1) := by decide +kernel
theorem q_232_79 : js_I 232 79 = some (.getfield 22, 3) := by decide +kernel
theorem q_232_82 : js_I 232 82 = some (.ifCond .ne 141, 3) := by decide +kernel
theorem q_232_85 : js_I 232 85 = some (.aload_n 0, 1) := by decide +kernel
theorem q_232_86 : js_I 232 86 = some (.getfield 25, 3) := by decide +kernel
theorem q_232_89 : js_I 232 89 = some (.bipush 41, 2) := by decide +kernel
theorem q_232_91 : js_I 232 91 = some (.if_icmp .eq 132, 3) := by decide +kernel
theorem q_232_94 : js_I 232 94 = some (.iload_n 1, 1) := by decide +kernel
theorem q_232_95 : js_I 232 95 = some (.iconst 1, 1) := by decide +kernel
theorem q_232_96 : js_I 232 96 = some (.iadd, 1) := by decide +kernel
theorem q_232_97 : js_I 232 97 = some (.iload_n 3, 1) := by decide +kernel
theorem q_232_98 : js_I 232 98 = some (.iadd, 1) := by decide +kernel
theorem q_232_99 : js_I 232 99 = some (.istore 6, 2) := by decide +kernel
theorem q_232_101 : js_I 232 101 = some (.iload_n 3, 1) := by decide +kernel
theorem q_232_102 : js_I 232 102 = some (.aload_n 0, 1) := by decide +kernel
theorem q_232_103 : js_I 232 103 = some (.getfield 114, 3) := by decide +kernel
theorem q_232_106 : js_I 232 106 = some (.iload_n 1, 1) := by decide +kernel
theorem q_232_107 : js_I 232 107 = some (.iaload, 1) := by decide +kernel
theorem q_232_108 : js_I 232 108 = some (.if_icmp .ge 33, 3) := by decide +kernel
theorem q_232_111 : js_I 232 111 = some (.aload_n 0, 1) := by decide +kernel
theorem q_232_112 : js_I 232 112 = some (.aload_n 0, 1) := by decide +kernel
theorem q_232_113 : js_I 232 113 = some (.getfield 102, 3) := by decide +kernel
theorem q_232_116 : js_I 232 116 = some (.iload 6, 2) := by decide +kernel
theorem q_232_118 : js_I 232 118 = some (.iaload, 1) := by decide +kernel
theorem q_232_119 : js_I 232 119 = some (.aload_n 0, 1) := by decide +kernel
theorem q_232_120 : js_I 232 120 = some (.getfield 105, 3) := by decide +kernel
theorem q_232_123 : js_I 232 123 = some (.iload 6, 2) := by decide +kernel
theorem q_232_125 : js_I 232 125 = some (.iaload, 1) := by decide +kernel
theorem q_232_126 : js_I 232 126 = some (.i2l, 1) := by decide +kernel
theorem q_232_127 : js_I 232 127 = some (.aload_n 0, 1) := by decide +kernel
theorem q_232_128 : js_I 232 128 = some (.getfield 108, 3) := by decide +kernel
theorem q_232_131 : js_I 232 131 = some (.iload 6, 2) := by decide +kernel
theorem q_232_133 : js_I 232 133 = some (.iaload, 1) := by decide +kernel
theorem q_232_134 : js_I 232 134 = some (.i2l, 1) := by decide +kernel
theorem q_232_135 : js_I 232 135 = some (.invokevirtual 280, 3) := by decide +kernel
theorem q_232_141 : js_I 232 141 = some (.aload_n 0, 1) := by decide +kernel
theorem q_232_142 : js_I 232 142 = some (.invokevirtual 193, 3) := by decide +kernel
theorem q_232_138 : js_I 232 138 = some (.goto 7, 3) := by decide +kernel
theorem q_232_145 : js_I 232 145 = some (.istore 7, 2) := by decide +kernel
theorem q_232_147 : js_I 232 147 = some (.iinc 3 1, 3) := by decide +kernel
theorem q_232_150 : js_I 232 150 = some (.aload_n 0, 1) := by decide +kernel
theorem q_232_151 : js_I 232 151 = some (.getfield 22, 3) := by decide +kernel
theorem q_232_154 : js_I 232 154 = some (.ifCond .le 5, 3) := by decide +kernel
theorem q_232_157 : js_I 232 157 = some (.iconst 0, 1) := by decide +kernel
theorem q_232_158 : js_I 232 158 = some (.ireturn, 1) := by decide +kernel
theorem q_232_159 : js_I 232 159 = some (.iload 5, 2) := by decide +kernel
theorem q_232_161 : js_I 232 161 = some (.ifCond .ge 10, 3) := by decide +kernel
theorem q_232_164 : js_I 232 164 = some (.iload 7, 2) := by decide +kernel
theorem q_232_166 : js_I 232 166 = some (.istore 4, 2) := by decide +kernel
theorem q_232_168 : js_I 232 168 = some (.goto 12, 3) := by decide +kernel
theorem q_232_171 : js_I 232 171 = some (.aload_n 0, 1) := by decide +kernel
theorem q_232_172 : js_I 232 172 = some (.getfield 190, 3) := by decide +kernel
theorem q_232_175 : js_I 232 175 = some (.iload 5, 2) := by decide +kernel
theorem q_232_177 : js_I 232 177 = some (.iload 7, 2) := by decide +kernel
theorem q_232_179 : js_I 232 179 = some (.iastore, 1) := by decide +kernel
theorem q_232_180 : js_I 232 180 = some (.iload 7, 2) := by decide +kernel
theorem q_232_182 : js_I 232 182 = some (.istore 5, 2) := by decide +kernel
theorem q_232_184 : js_I 232 184 = some (.aload_n 0, 1) := by decide +kernel
theorem q_232_185 : js_I 232 185 = some (.getfield 25, 3) := by decide +kernel
theorem q_232_188 : js_I 232 188 = some (.bipush 41, 2) := by decide +kernel
theorem q_232_190 : js_I 232 190 = some (.if_icmp .ne 6, 3) := by decide +kernel
theorem q_232_193 : js_I 232 193 = some (.goto (-115), 3) := by decide +kernel
theorem q_232_196 : js_I 232 196 = some (.aload_n 0, 1) := by decide +kernel
theorem q_232_197 : js_I 232 197 = some (.bipush 44, 2) := by decide +kernel
theorem q_232_199 : js_I 232 199 = some (.invokevirtual 75, 3) := by decide +kernel
theorem q_232_202 : js_I 232 202 = some (.aload_n 0, 1) := by decide +kernel
theorem q_232_203 : js_I 232 203 = some (.getfield 25, 3) := by decide +kernel
theorem q_232_206 : js_I 232 206 = some (.bipush 41, 2) := by decide +kernel
theorem q_232_208 : js_I 232 208 = some (.if_icmp .ne 12, 3) := by decide +kernel
theorem q_232_211 : js_I 232 211 = some (.aload_n 0, 1) := by decide +kernel
theorem q_232_212 : js_I 232 212 = some (.iconst 1, 1) := by decide +kernel
theorem q_232_213 : js_I 232 213 = some (.aload_n 0, 1) := by decide +kernel
theorem q_232_214 : js_I 232 214 = some (.getfield 35, 3) := by decide +kernel
theorem q_232_217 : js_I 232 217 = some (.invokevirtual 65, 3) := by decide +kernel
theorem q_232_220 : js_I 232 220 = some (.goto (-142), 3) := by decide +kernel
theorem q_232_223 : js_I 232 223 = some (.aload_n 0, 1) := by decide +kernel
theorem q_232_224 : js_I 232 224 = some (.getfield 22, 3) := by decide +kernel
theorem q_232_227 : js_I 232 227 = some (.ifCond .ne 23, 3) := by decide +kernel
theorem q_232_230 : js_I 232 230 = some (.iload_n 3, 1) := by decide +kernel
theorem q_232_231 : js_I 232 231 = some (.aload_n 0, 1) := by decide +kernel
theorem q_232_232 : js_I 232 232 = some (.getfield 114, 3) := by decide +kernel
theorem q_232_235 : js_I 232 235 = some (.iload_n 1, 1) := by decide +kernel
theorem q_232_236 : js_I 232 236 = some (.iaload, 1) := by decide +kernel
theorem q_232_237 : js_I 232 237 = some (.if_icmp .eq 13, 3) := by decide +kernel
theorem q_232_240 : js_I 232 240 = some (.aload_n 0, 1) := by decide +kernel
theorem q_232_241 : js_I 232 241 = some (.bipush 9, 2) := by decide +kernel
theorem q_232_243 : js_I 232 243 = some (.aload_n 0, 1) := by decide +kernel
theorem q_232_244 : js_I 232 244 = some (.getfield 35, 3) := by decide +kernel
theorem q_232_247 : js_I 232 247 = some (.invokevirtual 65, 3) := by decide +kernel
theorem q_232_250 : js_I 232 250 = some (.aload_n 0, 1) := by decide +kernel
theorem q_232_251 : js_I 232 251 = some (.bipush 41, 2) := by decide +kernel
theorem q_232_253 : js_I 232 253 = some (.invokevirtual 162, 3) := by decide +kernel
theorem q_232_256 : js_I 232 256 = some (.aload_n 0, 1) := by decide +kernel
theorem q_232_257 : js_I 232 257 = some (.bipush 10, 2) := by decide +kernel
theorem q_232_259 : js_I 232 259 = some (.aload_n 0, 1) := by decide +kernel
theorem q_232_260 : js_I 232 260 = some (.getfield 102, 3) := by decide +kernel
theorem q_232_263 : js_I 232 263 = some (.iload_n 1, 1) := by decide +kernel
theorem q_232_264 : js_I 232 264 = some (.iaload, 1) := by decide +kernel
theorem q_232_265 : js_I 232 265 = some (.aload_n 0, 1) := by decide +kernel
theorem q_232_266 : js_I 232 266 = some (.getfield 105, 3) := by decide +kernel
theorem q_232_269 : js_I 232 269 = some (.iload_n 1, 1) := by decide +kernel
theorem q_232_270 : js_I 232 270 = some (.iaload, 1) := by decide +kernel
theorem q_232_271 : js_I 232 271 = some (.i2l, 1) := by decide +kernel
theorem q_232_272 : js_I 232 272 = some (.aload_n 0, 1) := by decide +kernel
theorem q_232_273 : js_I 232 273 = some (.getfield 108, 3) := by decide +kernel
theorem q_232_276 : js_I 232 276 = some (.iload_n 1, 1) := by decide +kernel
theorem q_232_277 : js_I 232 277 = some (.iaload, 1) := by decide +kernel
theorem q_232_278 : js_I 232 278 = some (.i2l, 1) := by decide +kernel
theorem q_232_279 : js_I 232 279 = some (.iload_n 1, 1) := by decide +kernel
theorem q_232_280 : js_I 232 280 = some (.iload 4, 2) := by decide +kernel
theorem q_232_282 : js_I 232 282 = some (.iconst 0, 1) := by decide +kernel
theorem q_232_283 : js_I 232 283 = some (.invokevirtual 208, 3) := by decide +kernel
theorem q_232_286 : js_I 232 286 = some (.ireturn, 1) := by decide +kernel
theorem q_233_0 : js_I 233 0 = some (.aload_n 0, 1) := by decide +kernel
theorem q_233_1 : js_I 233 1 = some (.bipush 91, 2) := by decide +kernel
theorem q_233_3 : js_I 233 3 = some (.invokevirtual 159, 3) := by decide +kernel
theorem q_233_6 : js_I 233 6 = some (.aload_n 0, 1) := by decide +kernel
theorem q_233_7 : js_I 233 7 = some (.iconst 0, 1) := by decide +kernel
theorem q_233_8 : js_I 233 8 = some (.lconst 0, 1) := by decide +kernel
theorem q_233_9 : js_I 233 9 = some (.aload_n 0, 1) := by decide +kernel
theorem q_233_10 : js_I 233 10 = some (.getfield 114, 3) := by decide +kernel
theorem q_233_13 : js_I 233 13 = some (.iload_n 1, 1) := by decide +kernel
theorem q_233_14 : js_I 233 14 = some (.iaload, 1) := by decide +kernel
theorem q_233_15 : js_I 233 15 = some (.iconst 1, 1) := by decide +kernel
theorem q_233_16 : js_I 233 16 = some (.isub, 1) := by decide +kernel
theorem q_233_17 : js_I 233 17 = some (.i2l, 1) := by decide +kernel
theorem q_233_18 : js_I 233 18 = some (.invokevirtual 280, 3) := by decide +kernel
theorem q_233_21 : js_I 233 21 = some (.istore_n 2, 1) := by decide +kernel
theorem q_233_22 : js_I 233 22 = some (.aload_n 0, 1) := by decide +kernel
theorem q_233_23 : js_I 233 23 = some (.bipush 93, 2) := by decide +kernel
theorem q_233_25 : js_I 233 25 = some (.invokevirtual 162, 3) := by decide +kernel
theorem q_233_28 : js_I 233 28 = some (.iload_n 2, 1) := by decide +kernel
theorem q_233_29 : js_I 233 29 = some (.ireturn, 1) := by decide +kernel
theorem q_234_0 : js_I 234 0 = some (.aload_n 0, 1) := by decide +kernel
theorem q_234_1 : js_I 234 1 = some (.getfield 22, 3) := by decide +kernel
theorem q_234_4 : js_I 234 4 = some (.ifCond .le 5, 3) := by decide +kernel
theorem q_234_7 : js_I 234 7 = some (.iconst 0, 1) := by decide +kernel
theorem q_234_8 : js_I 234 8 = some (.ireturn, 1) := by decide +kernel
theorem q_234_9 : js_I 234 9 = some (.aload_n 0, 1) := by decide +kernel
theorem q_234_10 : js_I 234 10 = some (.getfield 172, 3) := by decide +kernel
theorem q_234_13 : js_I 234 13 = some (.iload_n 2, 1) := by decide +kernel
theorem q_234_14 : js_I 234 14 = some (.iaload, 1) := by decide +kernel
theorem q_234_15 : js_I 234 15 = some (.ifCond .ne 12, 3) := by decide +kernel
theorem q_234_18 : js_I 234 18 = some (.aload_n 0, 1) := by decide +kernel
theorem q_234_19 : js_I 234 19 = some (.getfield 172, 3) := by decide +kernel
theorem q_234_22 : js_I 234 22 = some (.iload_n 3, 1) := by decide +kernel
theorem q_234_23 : js_I 234 23 = some (.iaload, 1) := by decide +kernel
theorem q_234_24 : js_I 234 24 = some (.ifCond .eq 12, 3) := by decide +kernel
theorem q_234_36 : js_I 234 36 = some (.aload_n 0, 1) := by decide +kernel
theorem q_234_37 : js_I 234 37 = some (.getfield 175, 3) := by decide +kernel
theorem q_234_40 : js_I 234 40 = some (.iload_n 2, 1) := by decide +kernel
theorem q_234_41 : js_I 234 41 = some (.iaload, 1) := by decide +kernel
theorem q_234_42 : js_I 234 42 = some (.i2l, 1) := by decide +kernel
theorem q_234_43 : js_I 234 43 = some (.lstore 5, 2) := by decide +kernel
theorem q_234_45 : js_I 234 45 = some (.aload_n 0, 1) := by decide +kernel
theorem q_234_46 : js_I 234 46 = some (.getfield 178, 3) := by decide +kernel
theorem q_234_49 : js_I 234 49 = some (.iload_n 2, 1) := by decide +kernel
theorem q_234_50 : js_I 234 50 = some (.iaload, 1) := by decide +kernel
theorem q_234_51 : js_I 234 51 = some (.i2l, 1) := by decide +kernel
theorem q_234_52 : js_I 234 52 = some (.lstore 7, 2) := by decide +kernel
theorem q_234_54 : js_I 234 54 = some (.aload_n 0, 1) := by decide +kernel
theorem q_234_55 : js_I 234 55 = some (.getfield 175, 3) := by decide +kernel
theorem q_234_58 : js_I 234 58 = some (.iload_n 3, 1) := by decide +kernel
theorem q_234_59 : js_I 234 59 = some (.iaload, 1) := by decide +kernel
theorem q_234_60 : js_I 234 60 = some (.i2l, 1) := by decide +kernel
theorem q_234_61 : js_I 234 61 = some (.lstore 9, 2) := by decide +kernel
theorem q_234_63 : js_I 234 63 = some (.aload_n 0, 1) := by decide +kernel
theorem q_234_64 : js_I 234 64 = some (.getfield 178, 3) := by decide +kernel
theorem q_234_67 : js_I 234 67 = some (.iload_n 3, 1) := by decide +kernel
theorem q_234_68 : js_I 234 68 = some (.iaload, 1) := by decide +kernel
theorem q_234_69 : js_I 234 69 = some (.i2l, 1) := by decide +kernel
theorem q_234_70 : js_I 234 70 = some (.lstore 11, 2) := by decide +kernel
theorem q_234_72 : js_I 234 72 = some (.iload_n 1, 1) := by decide +kernel
theorem q_234_73 : js_I 234 73 = some (.bipush 8, 2) := by decide +kernel
theorem q_234_75 : js_I 234 75 = some (.if_icmp .le 27, 3) := by decide +kernel
theorem q_234_78 : js_I 234 78 = some (.lload 9, 2) := by decide +kernel
theorem q_234_80 : js_I 234 80 = some (.lconst 0, 1) := by decide +kernel
theorem q_234_81 : js_I 234 81 = some (.lcmp, 1) := by decide +kernel
theorem q_234_82 : js_I 234 82 = some (.ifCond .gt 20, 3) := by decide +kernel
theorem q_234_85 : js_I 234 85 = some (.lload 11, 2) := by decide +kernel
theorem q_234_87 : js_I 234 87 = some (.lconst 0, 1) := by decide +kernel
theorem q_234_88 : js_I 234 88 = some (.lcmp, 1) := by decide +kernel
theorem q_234_89 : js_I 234 89 = some (.ifCond .lt 13, 3) := by decide +kernel
theorem q_234_92 : js_I 234 92 = some (.aload_n 0, 1) := by decide +kernel
theorem q_234_93 : js_I 234 93 = some (.bipush 7, 2) := by decide +kernel
theorem q_234_95 : js_I 234 95 = some (.iload 4, 2) := by decide +kernel
theorem q_234_97 : js_I 234 97 = some (.invokevirtual 65, 3) := by decide +kernel
theorem q_234_27 : js_I 234 27 = some (.aload_n 0, 1) := by decide +kernel
theorem q_234_28 : js_I 234 28 = some (.iconst 5, 1) := by decide +kernel
theorem q_234_29 : js_I 234 29 = some (.iload 4, 2) := by decide +kernel
theorem q_234_31 : js_I 234 31 = some (.invokevirtual 65, 3) := by decide +kernel
theorem q_234_34 : js_I 234 34 = some (.iconst 0, 1) := by decide +kernel
theorem q_234_35 : js_I 234 35 = some (.ireturn, 1) := by decide +kernel
theorem q_234_100 : js_I 234 100 = some (.iconst 0, 1) := by decide +kernel
theorem q_234_101 : js_I 234 101 = some (.ireturn, 1) := by decide +kernel
theorem q_234_102 : js_I 234 102 = some (.iload_n 1, 1) := by decide +kernel
theorem q_234_103 : js_I 234 103 = some (.bipush 6, 2) := by decide +kernel
theorem q_234_105 : js_I 234 105 = some (.if_icmp .ne 30, 3) := by decide +kernel
theorem q_234_108 : js_I 234 108 = some (.aload_n 0, 1) := by decide +kernel
theorem q_234_109 : js_I 234 109 = some (.lload 5, 2) := by decide +kernel
theorem q_234_111 : js_I 234 111 = some (.lload 9, 2) := by decide +kernel
theorem q_234_113 : js_I 234 113 = some (.ladd, 1) := by decide +kernel
theorem q_234_114 : js_I 234 114 = some (.lload 7, 2) := by decide +kernel
theorem q_234_116 : js_I 234 116 = some (.lload 11, 2) := by decide +kernel
theorem q_234_118 : js_I 234 118 = some (.ladd, 1) := by decide +kernel
theorem q_234_119 : js_I 234 119 = some (.lload 5, 2) := by decide +kernel
theorem q_234_121 : js_I 234 121 = some (.lload 11, 2) := by decide +kernel
theorem q_234_123 : js_I 234 123 = some (.ladd, 1) := by decide +kernel
theorem q_234_124 : js_I 234 124 = some (.lload 7, 2) := by decide +kernel
theorem q_234_126 : js_I 234 126 = some (.lload 9, 2) := by decide +kernel
theorem q_234_128 : js_I 234 128 = some (.ladd, 1) := by decide +kernel
theorem q_234_129 : js_I 234 129 = some (.invokevirtual 246, 3) := by decide +kernel
theorem q_234_135 : js_I 234 135 = some (.iload_n 1, 1) := by decide +kernel
theorem q_234_136 : js_I 234 136 = some (.bipush 7, 2) := by decide +kernel
theorem q_234_138 : js_I 234 138 = some (.if_icmp .ne 30, 3) := by decide +kernel
theorem q_234_141 : js_I 234 141 = some (.aload_n 0, 1) := by decide +kernel
theorem q_234_142 : js_I 234 142 = some (.lload 5, 2) := by decide +kernel
theorem q_234_144 : js_I 234 144 = some (.lload 9, 2) := by decide +kernel
theorem q_234_146 : js_I 234 146 = some (.lsub, 1) := by decide +kernel
theorem q_234_147 : js_I 234 147 = some (.lload 7, 2) := by decide +kernel
theorem q_234_149 : js_I 234 149 = some (.lload 11, 2) := by decide +kernel
theorem q_234_151 : js_I 234 151 = some (.lsub, 1) := by decide +kernel
theorem q_234_152 : js_I 234 152 = some (.lload 5, 2) := by decide +kernel
theorem q_234_154 : js_I 234 154 = some (.lload 11, 2) := by decide +kernel
theorem q_234_156 : js_I 234 156 = some (.lsub, 1) := by decide +kernel
theorem q_234_157 : js_I 234 157 = some (.lload 7, 2) := by decide +kernel
theorem q_234_159 : js_I 234 159 = some (.lload 9, 2) := by decide +kernel
theorem q_234_161 : js_I 234 161 = some (.lsub, 1) := by decide +kernel
theorem q_234_162 : js_I 234 162 = some (.invokevirtual 246, 3) := by decide +kernel
theorem q_234_168 : js_I 234 168 = some (.iload_n 1, 1) := by decide +kernel
theorem q_234_169 : js_I 234 169 = some (.bipush 8, 2) := by decide +kernel
theorem q_234_171 : js_I 234 171 = some (.if_icmp .ne 30, 3) := by decide +kernel
theorem q_234_174 : js_I 234 174 = some (.aload_n 0, 1) := by decide +kernel
theorem q_234_175 : js_I 234 175 = some (.lload 5, 2) := by decide +kernel
theorem q_234_177 : js_I 234 177 = some (.lload 9, 2) := by decide +kernel
theorem q_234_179 : js_I 234 179 = some (.lmul, 1) := by decide +kernel
theorem q_234_180 : js_I 234 180 = some (.lload 5, 2) := by decide +kernel
theorem q_234_182 : js_I 234 182 = some (.lload 11, 2) := by decide +kernel
theorem q_234_184 : js_I 234 184 = some (.lmul, 1) := by decide +kernel
theorem q_234_185 : js_I 234 185 = some (.lload 7, 2) := by decide +kernel
theorem q_234_187 : js_I 234 187 = some (.lload 9, 2) := by decide +kernel
theorem q_234_189 : js_I 234 189 = some (.lmul, 1) := by decide +kernel
theorem q_234_190 : js_I 234 190 = some (.lload 7, 2) := by decide +kernel
theorem q_234_192 : js_I 234 192 = some (.lload 11, 2) := by decide +kernel
theorem q_234_194 : js_I 234 194 = some (.lmul, 1) := by decide +kernel
theorem q_234_195 : js_I 234 195 = some (.invokevirtual 246, 3) := by decide +kernel
theorem q_234_201 : js_I 234 201 = some (.iload_n 1, 1) := by decide +kernel
theorem q_234_202 : js_I 234 202 = some (.bipush 9, 2) := by decide +kernel
theorem q_234_204 : js_I 234 204 = some (.if_icmp .ne 30, 3) := by decide +kernel
theorem q_234_207 : js_I 234 207 = some (.aload_n 0, 1) := by decide +kernel
theorem q_234_208 : js_I 234 208 = some (.lload 5, 2) := by decide +kernel
theorem q_234_210 : js_I 234 210 = some (.lload 9, 2) := by decide +kernel
theorem q_234_212 : js_I 234 212 = some (.ldiv, 1) := by decide +kernel
theorem q_234_213 : js_I 234 213 = some (.lload 5, 2) := by decide +kernel
theorem q_234_215 : js_I 234 215 = some (.lload 11, 2) := by decide +kernel
theorem q_234_217 : js_I 234 217 = some (.ldiv, 1) := by decide +kernel
theorem q_234_218 : js_I 234 218 = some (.lload 7, 2) := by decide +kernel
theorem q_234_220 : js_I 234 220 = some (.lload 9, 2) := by decide +kernel
theorem q_234_222 : js_I 234 222 = some (.ldiv, 1) := by decide +kernel
theorem q_234_223 : js_I 234 223 = some (.lload 7, 2) := by decide +kernel
theorem q_234_225 : js_I 234 225 = some (.lload 11, 2) := by decide +kernel
theorem q_234_227 : js_I 234 227 = some (.ldiv, 1) := by decide +kernel
theorem q_234_228 : js_I 234 228 = some (.invokevirtual 246, 3) := by decide +kernel
theorem q_234_234 : js_I 234 234 = some (.lload 9, 2) := by decide +kernel
theorem q_234_236 : js_I 234 236 = some (.invokestatic 250, 3) := by decide +kernel
theorem q_234_239 : js_I 234 239 = some (.lload 11, 2) := by decide +kernel
theorem q_234_241 : js_I 234 241 = some (.invokestatic 250, 3) := by decide +kernel
theorem q_234_244 : js_I 234 244 = some (.invokestatic 241, 3) := by decide +kernel
theorem q_234_247 : js_I 234 247 = some (.lconst 1, 1) := by decide +kernel
theorem q_234_248 : js_I 234 248 = some (.lsub, 1) := by decide +kernel
theorem q_234_249 : js_I 234 249 = some (.lstore 13, 2) := by decide +kernel
theorem q_234_251 : js_I 234 251 = some (.aload_n 0, 1) := by decide +kernel
theorem q_234_252 : js_I 234 252 = some (.lload 5, 2) := by decide +kernel
theorem q_234_254 : js_I 234 254 = some (.lconst 0, 1) := by decide +kernel
theorem q_234_255 : js_I 234 255 = some (.lcmp, 1) := by decide +kernel
theorem q_234_256 : js_I 234 256 = some (.ifCond .ge 15, 3) := by decide +kernel
theorem q_234_259 : js_I 234 259 = some (.lload 13, 2) := by decide +kernel
theorem q_234_261 : js_I 234 261 = some (.lload 5, 2) := by decide +kernel
theorem q_234_263 : js_I 234 263 = some (.lneg, 1) := by decide +kernel
theorem q_234_264 : js_I 234 264 = some (.invokestatic 234, 3) := by decide +kernel
theorem q_234_267 : js_I 234 267 = some (.lneg, 1) := by decide +kernel
theorem q_234_268 : js_I 234 268 = some (.goto 4, 3) := by decide +kernel
theorem q_234_271 : js_I 234 271 = some (.lconst 0, 1) := by decide +kernel
theorem q_234_132 : js_I 234 132 = some (.goto 165, 3) := by decide +kernel
theorem q_234_165 : js_I 234 165 = some (.goto 132, 3) := by decide +kernel
theorem q_234_198 : js_I 234 198 = some (.goto 99, 3) := by decide +kernel
theorem q_234_231 : js_I 234 231 = some (.goto 66, 3) := by decide +kernel
theorem q_234_272 : js_I 234 272 = some (.putfield 237, 3) := by decide +kernel
theorem q_234_275 : js_I 234 275 = some (.aload_n 0, 1) := by decide +kernel
theorem q_234_276 : js_I 234 276 = some (.lload 7, 2) := by decide +kernel
theorem q_234_278 : js_I 234 278 = some (.lconst 0, 1) := by decide +kernel
theorem q_234_279 : js_I 234 279 = some (.lcmp, 1) := by decide +kernel
theorem q_234_280 : js_I 234 280 = some (.ifCond .le 13, 3) := by decide +kernel
theorem q_234_283 : js_I 234 283 = some (.lload 13, 2) := by decide +kernel
theorem q_234_285 : js_I 234 285 = some (.lload 7, 2) := by decide +kernel
theorem q_234_287 : js_I 234 287 = some (.invokestatic 234, 3) := by decide +kernel
theorem q_234_290 : js_I 234 290 = some (.goto 4, 3) := by decide +kernel
theorem q_234_293 : js_I 234 293 = some (.lconst 0, 1) := by decide +kernel
theorem q_234_294 : js_I 234 294 = some (.putfield 243, 3) := by decide +kernel
theorem q_234_297 : js_I 234 297 = some (.aload_n 0, 1) := by decide +kernel
theorem q_234_298 : js_I 234 298 = some (.getfield 237, 3) := by decide +kernel
theorem q_234_301 : js_I 234 301 = some (.ldc2_w 254, 3) := by decide +kernel
theorem q_234_304 : js_I 234 304 = some (.lcmp, 1) := by decide +kernel
theorem q_234_305 : js_I 234 305 = some (.ifCond .lt 14, 3) := by decide +kernel
theorem q_234_308 : js_I 234 308 = some (.aload_n 0, 1) := by decide +kernel
theorem q_234_309 : js_I 234 309 = some (.getfield 243, 3) := by decide +kernel
theorem q_234_312 : js_I 234 312 = some (.ldc2_w 56, 3) := by decide +kernel
theorem q_234_315 : js_I 234 315 = some (.lcmp, 1) := by decide +kernel
theorem q_234_316 : js_I 234 316 = some (.ifCond .le 11, 3) := by decide +kernel
theorem q_234_319 : js_I 234 319 = some (.aload_n 0, 1) := by decide +kernel
theorem q_234_320 : js_I 234 320 = some (.bipush 8, 2) := by decide +kernel
theorem q_234_322 : js_I 234 322 = some (.iload 4, 2) := by decide +kernel
theorem q_234_324 : js_I 234 324 = some (.invokevirtual 65, 3) := by decide +kernel
theorem q_234_327 : js_I 234 327 = some (.aload_n 0, 1) := by decide +kernel
theorem q_234_328 : js_I 234 328 = some (.iconst 4, 1) := by decide +kernel
theorem q_234_329 : js_I 234 329 = some (.iconst 0, 1) := by decide +kernel
theorem q_234_330 : js_I 234 330 = some (.aload_n 0, 1) := by decide +kernel
theorem q_234_331 : js_I 234 331 = some (.getfield 237, 3) := by decide +kernel
theorem q_234_334 : js_I 234 334 = some (.aload_n 0, 1) := by decide +kernel
theorem q_234_335 : js_I 234 335 = some (.getfield 243, 3) := by decide +kernel
theorem q_234_338 : js_I 234 338 = some (.iload_n 2, 1) := by decide +kernel
theorem q_234_339 : js_I 234 339 = some (.iload_n 3, 1) := by decide +kernel
theorem q_234_340 : js_I 234 340 = some (.iload_n 1, 1) := by decide +kernel
theorem q_234_341 : js_I 234 341 = some (.invokevirtual 208, 3) := by decide +kernel
theorem q_234_344 : js_I 234 344 = some (.ireturn, 1) := by decide +kernel
theorem q_235_0 : js_I 235 0 = some (.aload_n 0, 1) := by decide +kernel
theorem q_235_1 : js_I 235 1 = some (.lload_n 1, 1) := by decide +kernel
theorem q_235_2 : js_I 235 2 = some (.lload_n 3, 1) := by decide +kernel
theorem q_235_3 : js_I 235 3 = some (.invokestatic 234, 3) := by decide +kernel
theorem q_235_6 : js_I 235 6 = some (.lload 5, 2) := by decide +kernel
theorem q_235_8 : js_I 235 8 = some (.lload 7, 2) := by decide +kernel
theorem q_235_10 : js_I 235 10 = some (.invokestatic 234, 3) := by decide +kernel
theorem q_235_13 : js_I 235 13 = some (.invokestatic 234, 3) := by decide +kernel
theorem q_235_16 : js_I 235 16 = some (.putfield 237, 3) := by decide +kernel
theorem q_235_19 : js_I 235 19 = some (.aload_n 0, 1) := by decide +kernel
theorem q_235_20 : js_I 235 20 = some (.lload_n 1, 1) := by decide +kernel
theorem q_235_21 : js_I 235 21 = some (.lload_n 3, 1) := by decide +kernel
theorem q_235_22 : js_I 235 22 = some (.invokestatic 241, 3) := by decide +kernel
theorem q_235_25 : js_I 235 25 = some (.lload 5, 2) := by decide +kernel
theorem q_235_27 : js_I 235 27 = some (.lload 7, 2) := by decide +kernel
theorem q_235_29 : js_I 235 29 = some (.invokestatic 241, 3) := by decide +kernel
theorem q_235_32 : js_I 235 32 = some (.invokestatic 241, 3) := by decide +kernel
theorem q_235_35 : js_I 235 35 = some (.putfield 243, 3) := by decide +kernel
theorem q_235_38 : js_I 235 38 = some (.return_, 1) := by decide +kernel
theorem q_236_0 : js_I 236 0 = some (.aload_n 0, 1) := by decide +kernel
theorem q_236_1 : js_I 236 1 = some (.getfield 22, 3) := by decide +kernel
theorem q_236_4 : js_I 236 4 = some (.ifCond .le 5, 3) := by decide +kernel
theorem q_236_7 : js_I 236 7 = some (.iconst 0, 1) := by decide +kernel
theorem q_236_8 : js_I 236 8 = some (.ireturn, 1) := by decide +kernel
theorem q_236_9 : js_I 236 9 = some (.aload_n 0, 1) := by decide +kernel
theorem q_236_10 : js_I 236 10 = some (.getfield 172, 3) := by decide +kernel
theorem q_236_13 : js_I 236 13 = some (.iload_n 2, 1) := by decide +kernel
theorem q_236_14 : js_I 236 14 = some (.iaload, 1) := by decide +kernel
theorem q_236_15 : js_I 236 15 = some (.iconst 1, 1) := by decide +kernel
theorem q_236_16 : js_I 236 16 = some (.if_icmp .ne 13, 3) := by decide +kernel
theorem q_236_19 : js_I 236 19 = some (.aload_n 0, 1) := by decide +kernel
theorem q_236_20 : js_I 236 20 = some (.getfield 172, 3) := by decide +kernel
theorem q_236_23 : js_I 236 23 = some (.iload_n 3, 1) := by decide +kernel
theorem q_236_24 : js_I 236 24 = some (.iaload, 1) := by decide +kernel
theorem q_236_25 : js_I 236 25 = some (.iconst 1, 1) := by decide +kernel
theorem q_236_26 : js_I 236 26 = some (.if_icmp .eq 10, 3) := by decide +kernel
theorem q_236_29 : js_I 236 29 = some (.aload_n 0, 1) := by decide +kernel
theorem q_236_30 : js_I 236 30 = some (.iconst 5, 1) := by decide +kernel
theorem q_236_31 : js_I 236 31 = some (.iload 4, 2) := by decide +kernel
theorem q_236_33 : js_I 236 33 = some (.invokevirtual 65, 3) := by decide +kernel
theorem q_236_36 : js_I 236 36 = some (.aload_n 0, 1) := by decide +kernel
theorem q_236_37 : js_I 236 37 = some (.iload_n 1, 1) := by decide +kernel
theorem q_236_38 : js_I 236 38 = some (.iconst 1, 1) := by decide +kernel
theorem q_236_39 : js_I 236 39 = some (.lconst 0, 1) := by decide +kernel
theorem q_236_40 : js_I 236 40 = some (.lconst 1, 1) := by decide +kernel
theorem q_236_41 : js_I 236 41 = some (.iload_n 2, 1) := by decide +kernel
theorem q_236_42 : js_I 236 42 = some (.iload_n 3, 1) := by decide +kernel
theorem q_236_43 : js_I 236 43 = some (.iconst 0, 1) := by decide +kernel
theorem q_236_44 : js_I 236 44 = some (.invokevirtual 208, 3) := by decide +kernel
theorem q_236_47 : js_I 236 47 = some (.ireturn, 1) := by decide +kernel
theorem q_237_0 : js_I 237 0 = some (.aload_n 0, 1) := by decide +kernel
theorem q_237_1 : js_I 237 1 = some (.getfield 35, 3) := by decide +kernel
theorem q_237_4 : js_I 237 4 = some (.istore_n 1, 1) := by decide +kernel
theorem q_237_5 : js_I 237 5 = some (.aload_n 0, 1) := by decide +kernel
theorem q_237_6 : js_I 237 6 = some (.invokevirtual 193, 3) := by decide +kernel
theorem q_237_9 : js_I 237 9 = some (.istore_n 2, 1) := by decide +kernel
theorem q_237_10 : js_I 237 10 = some (.aload_n 0, 1) := by decide +kernel
theorem q_237_11 : js_I 237 11 = some (.getfield 22, 3) := by decide +kernel
theorem q_237_14 : js_I 237 14 = some (.ifCond .ne 19, 3) := by decide +kernel
theorem q_237_17 : js_I 237 17 = some (.aload_n 0, 1) := by decide +kernel
theorem q_237_18 : js_I 237 18 = some (.getfield 172, 3) := by decide +kernel
theorem q_237_21 : js_I 237 21 = some (.iload_n 2, 1) := by decide +kernel
theorem q_237_22 : js_I 237 22 = some (.iaload, 1) := by decide +kernel
theorem q_237_23 : js_I 237 23 = some (.iconst 1, 1) := by decide +kernel
theorem q_237_24 : js_I 237 24 = some (.if_icmp .eq 9, 3) := by decide +kernel
theorem q_237_27 : js_I 237 27 = some (.aload_n 0, 1) := by decide +kernel
theorem q_237_28 : js_I 237 28 = some (.iconst 5, 1) := by decide +kernel
theorem q_237_29 : js_I 237 29 = some (.iload_n 1, 1) := by decide +kernel
theorem q_237_30 : js_I 237 30 = some (.invokevirtual 65, 3) := by decide +kernel
theorem q_237_33 : js_I 237 33 = some (.iload_n 2, 1) := by decide +kernel
theorem q_237_34 : js_I 237 34 = some (.ireturn, 1) := by decide +kernel
theorem q_238_0 : js_I 238 0 = some (.aload_n 0, 1) := by decide +kernel
theorem q_238_1 : js_I 238 1 = some (.invokevirtual 68, 3) := by decide +kernel
theorem q_238_4 : js_I 238 4 = some (.aload_n 0, 1) := by decide +kernel
theorem q_238_5 : js_I 238 5 = some (.bipush 40, 2) := by decide +kernel
theorem q_238_7 : js_I 238 7 = some (.invokevirtual 159, 3) := by decide +kernel
theorem q_238_10 : js_I 238 10 = some (.aload_n 0, 1) := by decide +kernel
theorem q_238_11 : js_I 238 11 = some (.getfield 35, 3) := by decide +kernel
theorem q_238_14 : js_I 238 14 = some (.istore_n 1, 1) := by decide +kernel
theorem q_238_15 : js_I 238 15 = some (.aload_n 0, 1) := by decide +kernel
theorem q_238_16 : js_I 238 16 = some (.invokevirtual 193, 3) := by decide +kernel
theorem q_238_19 : js_I 238 19 = some (.istore_n 2, 1) := by decide +kernel
theorem q_238_20 : js_I 238 20 = some (.aload_n 0, 1) := by decide +kernel
theorem q_238_21 : js_I 238 21 = some (.getfield 22, 3) := by decide +kernel
theorem q_238_24 : js_I 238 24 = some (.ifCond .ne 29, 3) := by decide +kernel
theorem q_238_27 : js_I 238 27 = some (.aload_n 0, 1) := by decide +kernel
theorem q_238_28 : js_I 238 28 = some (.getfield 172, 3) := by decide +kernel
theorem q_238_31 : js_I 238 31 = some (.iload_n 2, 1) := by decide +kernel
theorem q_238_32 : js_I 238 32 = some (.iaload, 1) := by decide +kernel
theorem q_238_33 : js_I 238 33 = some (.iconst 1, 1) := by decide +kernel
theorem q_238_34 : js_I 238 34 = some (.if_icmp .eq 13, 3) := by decide +kernel
theorem q_238_37 : js_I 238 37 = some (.aload_n 0, 1) := by decide +kernel
theorem q_238_38 : js_I 238 38 = some (.getfield 172, 3) := by decide +kernel
theorem q_238_41 : js_I 238 41 = some (.iload_n 2, 1) := by decide +kernel
theorem q_238_42 : js_I 238 42 = some (.iaload, 1) := by decide +kernel
theorem q_238_43 : js_I 238 43 = some (.iconst 2, 1) := by decide +kernel
theorem q_238_44 : js_I 238 44 = some (.if_icmp .ne 9, 3) := by decide +kernel
theorem q_238_47 : js_I 238 47 = some (.aload_n 0, 1) := by decide +kernel
theorem q_238_48 : js_I 238 48 = some (.iconst 5, 1) := by decide +kernel
theorem q_238_49 : js_I 238 49 = some (.iload_n 1, 1) := by decide +kernel
theorem q_238_50 : js_I 238 50 = some (.invokevirtual 65, 3) := by decide +kernel
theorem q_238_53 : js_I 238 53 = some (.aload_n 0, 1) := by decide +kernel
theorem q_238_54 : js_I 238 54 = some (.bipush 41, 2) := by decide +kernel
theorem q_238_56 : js_I 238 56 = some (.invokevirtual 162, 3) := by decide +kernel
theorem q_238_59 : js_I 238 59 = some (.aload_n 0, 1) := by decide +kernel
theorem q_238_60 : js_I 238 60 = some (.bipush 123, 2) := by decide +kernel
theorem q_238_62 : js_I 238 62 = some (.invokevirtual 159, 3) := by decide +kernel
theorem q_238_65 : js_I 238 65 = some (.iconst (-1), 1) := by decide +kernel
theorem q_238_66 : js_I 238 66 = some (.istore_n 3, 1) := by decide +kernel
theorem q_238_67 : js_I 238 67 = some (.iconst (-1), 1) := by decide +kernel
theorem q_238_68 : js_I 238 68 = some (.istore 4, 2) := by decide +kernel
theorem q_238_70 : js_I 238 70 = some (.aload_n 0, 1) := by decide +kernel
theorem q_238_71 : js_I 238 71 = some (.getfield 22, 3) := by decide +kernel
theorem q_238_74 : js_I 238 74 = some (.ifCond .ne 200, 3) := by decide +kernel
theorem q_238_77 : js_I 238 77 = some (.aload_n 0, 1) := by decide +kernel
theorem q_238_78 : js_I 238 78 = some (.getfield 25, 3) := by decide +kernel
theorem q_238_81 : js_I 238 81 = some (.bipush 125, 2) := by decide +kernel
theorem q_238_83 : js_I 238 83 = some (.if_icmp .eq 191, 3) := by decide +kernel
theorem q_238_86 : js_I 238 86 = some (.aload_n 0, 1) := by decide +kernel
theorem q_238_87 : js_I 238 87 = some (.getfield 25, 3) := by decide +kernel
theorem q_238_90 : js_I 238 90 = some (.sipush 308, 3) := by decide +kernel
theorem q_238_93 : js_I 238 93 = some (.if_icmp .eq 181, 3) := by decide +kernel
theorem q_238_96 : js_I 238 96 = some (.aload_n 0, 1) := by decide +kernel
theorem q_238_97 : js_I 238 97 = some (.aload_n 0, 1) := by decide +kernel
theorem q_238_98 : js_I 238 98 = some (.getfield 172, 3) := by decide +kernel
theorem q_238_101 : js_I 238 101 = some (.iload_n 2, 1) := by decide +kernel
theorem q_238_102 : js_I 238 102 = some (.iaload, 1) := by decide +kernel
theorem q_238_103 : js_I 238 103 = some (.invokevirtual 156, 3) := by decide +kernel
theorem q_238_106 : js_I 238 106 = some (.aload_n 0, 1) := by decide +kernel
theorem q_238_107 : js_I 238 107 = some (.getfield 141, 3) := by decide +kernel
theorem q_238_110 : js_I 238 110 = some (.istore 5, 2) := by decide +kernel
theorem q_238_112 : js_I 238 112 = some (.aload_n 0, 1) := by decide +kernel
theorem q_238_113 : js_I 238 113 = some (.invokevirtual 68, 3) := by decide +kernel
theorem q_238_116 : js_I 238 116 = some (.iload 5, 2) := by decide +kernel
theorem q_238_118 : js_I 238 118 = some (.istore 6, 2) := by decide +kernel
theorem q_238_120 : js_I 238 120 = some (.aload_n 0, 1) := by decide +kernel
theorem q_238_121 : js_I 238 121 = some (.getfield 25, 3) := by decide +kernel
theorem q_238_124 : js_I 238 124 = some (.sipush 200, 3) := by decide +kernel
theorem q_238_127 : js_I 238 127 = some (.if_icmp .ne 7, 3) := by decide +kernel
theorem q_238_130 : js_I 238 130 = some (.iconst 1, 1) := by decide +kernel
theorem q_238_131 : js_I 238 131 = some (.goto 4, 3) := by decide +kernel
theorem q_238_134 : js_I 238 134 = some (.iconst 0, 1) := by decide +kernel
theorem q_238_135 : js_I 238 135 = some (.istore 7, 2) := by decide +kernel
theorem q_238_137 : js_I 238 137 = some (.iload 7, 2) := by decide +kernel
theorem q_238_139 : js_I 238 139 = some (.ifCond .eq 63, 3) := by decide +kernel
theorem q_238_142 : js_I 238 142 = some (.aload_n 0, 1) := by decide +kernel
theorem q_238_143 : js_I 238 143 = some (.getfield 172, 3) := by decide +kernel
theorem q_238_146 : js_I 238 146 = some (.iload_n 2, 1) := by decide +kernel
theorem q_238_147 : js_I 238 147 = some (.iaload, 1) := by decide +kernel
theorem q_238_148 : js_I 238 148 = some (.ifCond .eq 12, 3) := by decide +kernel
theorem q_238_151 : js_I 238 151 = some (.aload_n 0, 1) := by decide +kernel
theorem q_238_152 : js_I 238 152 = some (.iconst 4, 1) := by decide +kernel
theorem q_238_153 : js_I 238 153 = some (.aload_n 0, 1) := by decide +kernel
theorem q_238_154 : js_I 238 154 = some (.getfield 35, 3) := by decide +kernel
theorem q_238_157 : js_I 238 157 = some (.invokevirtual 65, 3) := by decide +kernel
theorem q_238_160 : js_I 238 160 = some (.aload_n 0, 1) := by decide +kernel
theorem q_238_161 : js_I 238 161 = some (.invokevirtual 68, 3) := by decide +kernel
theorem q_238_164 : js_I 238 164 = some (.aload_n 0, 1) := by decide +kernel
theorem q_238_165 : js_I 238 165 = some (.iconst 0, 1) := by decide +kernel
theorem q_238_166 : js_I 238 166 = some (.invokevirtual 156, 3) := by decide +kernel
theorem q_238_169 : js_I 238 169 = some (.aload_n 0, 1) := by decide +kernel
theorem q_238_170 : js_I 238 170 = some (.getfield 141, 3) := by decide +kernel
theorem q_238_173 : js_I 238 173 = some (.istore 6, 2) := by decide +kernel
theorem q_238_175 : js_I 238 175 = some (.aload_n 0, 1) := by decide +kernel
theorem q_238_176 : js_I 238 176 = some (.getfield 22, 3) := by decide +kernel
theorem q_238_179 : js_I 238 179 = some (.ifCond .ne 19, 3) := by decide +kernel
theorem q_238_182 : js_I 238 182 = some (.iload 6, 2) := by decide +kernel
theorem q_238_184 : js_I 238 184 = some (.iload 5, 2) := by decide +kernel
theorem q_238_186 : js_I 238 186 = some (.if_icmp .ge 12, 3) := by decide +kernel
theorem q_238_189 : js_I 238 189 = some (.aload_n 0, 1) := by decide +kernel
theorem q_238_190 : js_I 238 190 = some (.iconst 4, 1) := by decide +kernel
theorem q_238_191 : js_I 238 191 = some (.aload_n 0, 1) := by decide +kernel
theorem q_238_192 : js_I 238 192 = some (.getfield 135, 3) := by decide +kernel
theorem q_238_195 : js_I 238 195 = some (.invokevirtual 65, 3) := by decide +kernel
theorem q_238_198 : js_I 238 198 = some (.aload_n 0, 1) := by decide +kernel
theorem q_238_199 : js_I 238 199 = some (.invokevirtual 68, 3) := by decide +kernel
theorem q_238_202 : js_I 238 202 = some (.aload_n 0, 1) := by decide +kernel
theorem q_238_203 : js_I 238 203 = some (.bipush 58, 2) := by decide +kernel
theorem q_238_205 : js_I 238 205 = some (.invokevirtual 75, 3) := by decide +kernel
theorem q_238_208 : js_I 238 208 = some (.aload_n 0, 1) := by decide +kernel
theorem q_238_209 : js_I 238 209 = some (.bipush 25, 2) := by decide +kernel
theorem q_238_211 : js_I 238 211 = some (.iload 7, 2) := by decide +kernel
theorem q_238_213 : js_I 238 213 = some (.ifCond .eq 7, 3) := by decide +kernel
theorem q_238_220 : js_I 238 220 = some (.iconst 0, 1) := by decide +kernel
theorem q_238_216 : js_I 238 216 = some (.iconst 1, 1) := by decide +kernel
theorem q_238_217 : js_I 238 217 = some (.goto 4, 3) := by decide +kernel
theorem q_238_221 : js_I 238 221 = some (.iload 5, 2) := by decide +kernel
theorem q_238_223 : js_I 238 223 = some (.i2l, 1) := by decide +kernel
theorem q_238_224 : js_I 238 224 = some (.iload 6, 2) := by decide +kernel
theorem q_238_226 : js_I 238 226 = some (.i2l, 1) := by decide +kernel
theorem q_238_227 : js_I 238 227 = some (.aload_n 0, 1) := by decide +kernel
theorem q_238_228 : js_I 238 228 = some (.invokevirtual 329, 3) := by decide +kernel
theorem q_238_231 : js_I 238 231 = some (.iconst 0, 1) := by decide +kernel
theorem q_238_232 : js_I 238 232 = some (.iconst 0, 1) := by decide +kernel
theorem q_238_233 : js_I 238 233 = some (.invokevirtual 208, 3) := by decide +kernel
theorem q_238_236 : js_I 238 236 = some (.istore 8, 2) := by decide +kernel
theorem q_238_238 : js_I 238 238 = some (.aload_n 0, 1) := by decide +kernel
theorem q_238_239 : js_I 238 239 = some (.getfield 22, 3) := by decide +kernel
theorem q_238_242 : js_I 238 242 = some (.ifCond .le 5, 3) := by decide +kernel
theorem q_238_245 : js_I 238 245 = some (.iconst (-1), 1) := by decide +kernel
theorem q_238_246 : js_I 238 246 = some (.ireturn, 1) := by decide +kernel
theorem q_238_247 : js_I 238 247 = some (.iload 4, 2) := by decide +kernel
theorem q_238_249 : js_I 238 249 = some (.ifCond .ge 9, 3) := by decide +kernel
theorem q_238_252 : js_I 238 252 = some (.iload 8, 2) := by decide +kernel
theorem q_238_254 : js_I 238 254 = some (.istore_n 3, 1) := by decide +kernel
theorem q_238_255 : js_I 238 255 = some (.goto 12, 3) := by decide +kernel
theorem q_238_258 : js_I 238 258 = some (.aload_n 0, 1) := by decide +kernel
theorem q_238_259 : js_I 238 259 = some (.getfield 190, 3) := by decide +kernel
theorem q_238_262 : js_I 238 262 = some (.iload 4, 2) := by decide +kernel
theorem q_238_264 : js_I 238 264 = some (.iload 8, 2) := by decide +kernel
theorem q_238_266 : js_I 238 266 = some (.iastore, 1) := by decide +kernel
theorem q_238_267 : js_I 238 267 = some (.iload 8, 2) := by decide +kernel
theorem q_238_269 : js_I 238 269 = some (.istore 4, 2) := by decide +kernel
theorem q_238_271 : js_I 238 271 = some (.goto (-201), 3) := by decide +kernel
theorem q_238_274 : js_I 238 274 = some (.iconst (-1), 1) := by decide +kernel
theorem q_238_275 : js_I 238 275 = some (.istore 5, 2) := by decide +kernel
theorem q_238_277 : js_I 238 277 = some (.aload_n 0, 1) := by decide +kernel
theorem q_238_278 : js_I 238 278 = some (.getfield 25, 3) := by decide +kernel
theorem q_238_281 : js_I 238 281 = some (.sipush 308, 3) := by decide +kernel
theorem q_238_284 : js_I 238 284 = some (.if_icmp .ne 7, 3) := by decide +kernel
theorem q_238_287 : js_I 238 287 = some (.iconst 1, 1) := by decide +kernel
theorem q_238_288 : js_I 238 288 = some (.goto 4, 3) := by decide +kernel
theorem q_238_291 : js_I 238 291 = some (.iconst 0, 1) := by decide +kernel
theorem q_238_292 : js_I 238 292 = some (.istore 6, 2) := by decide +kernel
theorem q_238_294 : js_I 238 294 = some (.iload 6, 2) := by decide +kernel
theorem q_238_296 : js_I 238 296 = some (.ifCond .eq 13, 3) := by decide +kernel
theorem q_238_299 : js_I 238 299 = some (.aload_n 0, 1) := by decide +kernel
theorem q_238_300 : js_I 238 300 = some (.invokevirtual 68, 3) := by decide +kernel
theorem q_238_303 : js_I 238 303 = some (.aload_n 0, 1) := by decide +kernel
theorem q_238_304 : js_I 238 304 = some (.invokevirtual 329, 3) := by decide +kernel
theorem q_238_307 : js_I 238 307 = some (.istore 5, 2) := by decide +kernel
theorem q_238_309 : js_I 238 309 = some (.aload_n 0, 1) := by decide +kernel
theorem q_238_310 : js_I 238 310 = some (.bipush 125, 2) := by decide +kernel
theorem q_238_312 : js_I 238 312 = some (.invokevirtual 162, 3) := by decide +kernel
theorem q_238_315 : js_I 238 315 = some (.aload_n 0, 1) := by decide +kernel
theorem q_238_316 : js_I 238 316 = some (.bipush 24, 2) := by decide +kernel
theorem q_238_318 : js_I 238 318 = some (.iload 6, 2) := by decide +kernel
theorem q_238_320 : js_I 238 320 = some (.ifCond .eq 7, 3) := by decide +kernel
theorem q_238_327 : js_I 238 327 = some (.iconst 0, 1) := by decide +kernel
theorem q_238_323 : js_I 238 323 = some (.iconst 1, 1) := by decide +kernel
theorem q_238_324 : js_I 238 324 = some (.goto 4, 3) := by decide +kernel
theorem q_238_328 : js_I 238 328 = some (.lconst 0, 1) := by decide +kernel
theorem q_238_329 : js_I 238 329 = some (.lconst 0, 1) := by decide +kernel
theorem q_238_330 : js_I 238 330 = some (.iload_n 2, 1) := by decide +kernel
theorem q_238_331 : js_I 238 331 = some (.iload_n 3, 1) := by decide +kernel
theorem q_238_332 : js_I 238 332 = some (.iload 5, 2) := by decide +kernel
theorem q_238_334 : js_I 238 334 = some (.invokevirtual 208, 3) := by decide +kernel
theorem q_238_337 : js_I 238 337 = some (.ireturn, 1) := by decide +kernel
theorem q_239_0 : js_I 239 0 = some (.aload_n 0, 1) := by decide +kernel
theorem q_239_1 : js_I 239 1 = some (.getfield 86, 3) := by decide +kernel
theorem q_239_4 : js_I 239 4 = some (.istore_n 1, 1) := by decide +kernel
theorem q_239_5 : js_I 239 5 = some (.aload_n 0, 1) := by decide +kernel
theorem q_239_6 : js_I 239 6 = some (.bipush 123, 2) := by decide +kernel
theorem q_239_8 : js_I 239 8 = some (.invokevirtual 159, 3) := by decide +kernel
theorem q_239_11 : js_I 239 11 = some (.aload_n 0, 1) := by decide +kernel
theorem q_239_12 : js_I 239 12 = some (.invokevirtual 290, 3) := by decide +kernel
theorem q_239_15 : js_I 239 15 = some (.istore_n 2, 1) := by decide +kernel
theorem q_239_16 : js_I 239 16 = some (.aload_n 0, 1) := by decide +kernel
theorem q_239_17 : js_I 239 17 = some (.bipush 125, 2) := by decide +kernel
theorem q_239_19 : js_I 239 19 = some (.invokevirtual 162, 3) := by decide +kernel
theorem q_239_22 : js_I 239 22 = some (.aload_n 0, 1) := by decide +kernel
theorem q_239_23 : js_I 239 23 = some (.iload_n 1, 1) := by decide +kernel
theorem q_239_24 : js_I 239 24 = some (.invokevirtual 293, 3) := by decide +kernel
theorem q_239_27 : js_I 239 27 = some (.iload_n 2, 1) := by decide +kernel
theorem q_239_28 : js_I 239 28 = some (.ireturn, 1) := by decide +kernel
theorem q_240_0 : js_I 240 0 = some (.iload_n 1, 1) := by decide +kernel
theorem q_240_1 : js_I 240 1 = some (.istore_n 2, 1) := by decide +kernel
theorem q_240_2 : js_I 240 2 = some (.iload_n 2, 1) := by decide +kernel
theorem q_240_3 : js_I 240 3 = some (.aload_n 0, 1) := by decide +kernel
theorem q_240_4 : js_I 240 4 = some (.getfield 86, 3) := by decide +kernel
theorem q_240_7 : js_I 240 7 = some (.if_icmp .ge 16, 3) := by decide +kernel
theorem q_240_10 : js_I 240 10 = some (.aload_n 0, 1) := by decide +kernel
theorem q_240_11 : js_I 240 11 = some (.getfield 89, 3) := by decide +kernel
theorem q_240_14 : js_I 240 14 = some (.iload_n 2, 1) := by decide +kernel
theorem q_240_15 : js_I 240 15 = some (.iconst 0, 1) := by decide +kernel
theorem q_240_16 : js_I 240 16 = some (.bastore, 1) := by decide +kernel
theorem q_240_17 : js_I 240 17 = some (.iinc 2 1, 3) := by decide +kernel
theorem q_240_20 : js_I 240 20 = some (.goto (-18), 3) := by decide +kernel
theorem q_240_23 : js_I 240 23 = some (.return_, 1) := by decide +kernel
theorem qf_12_237 : ip_lk (vt_FL.getD 12 []) 237 = some (12, 42) := by decide +kernel
theorem qf_12_243 : ip_lk (vt_FL.getD 12 []) 243 = some (12, 43) := by decide +kernel
theorem qm_12_234 : ip_lk (vt_ML.getD 12 []) 234 = some (3, 2, 4, 0) := by decide +kernel
theorem qm_12_246 : ip_lk (vt_ML.getD 12 []) 246 = some (235, 4, 1, 12) := by decide +kernel
theorem qc_12_254 : ip_lk (vt_CL.getD 12 []) 254 = some (js_V (1, (-2000000000))) := by decide +kernel
theorem ww_6 : js_w 6 = 6 := by decide +kernel
theorem ww_7 : js_w 7 = 7 := by decide +kernel
theorem wl_m2000000000 : js_l (-2000000000) = (-2000000000) := by decide +kernel
theorem ww_308 : js_w 308 = 308 := by decide +kernel
theorem ww_200 : js_w 200 = 200 := by decide +kernel
-- 232: VitalTwinModel.call (I)I
theorem b_232_0 {E : js_E} {d : Nat} {σ : js_S} {x1 : Int} : js_J E d 232 0 [(2, 83), (0, x1), (9, 0), (9, 0), (9, 0), (9, 0), (9, 0), (9, 0)] [] σ = (if js_w (σ 83 26) < 0 then js_J E d 232 14 [(2, 83), (0, x1), (9, 0), (9, 0), (9, 0), (9, 0), (9, 0), (9, 0)] [(0, 16)] σ else js_J E d 232 14 [(2, 83), (0, x1), (9, 0), (9, 0), (9, 0), (9, 0), (9, 0), (9, 0)] [(0, 15)] σ) :=
  (j_aload_n q_232_0 rfl).trans <| (j_get (ji := 26) (v := (0, σ 83 26)) q_232_1 (js_Fo qy_232 qf_12_123) js_o83 rfl rfl rfl rfl).trans <| (j_ifge (t := 12) q_232_4 rfl).trans (js_ite ((j_bi q_232_7 rfl).trans <| (j_goto (t := 14) q_232_9 rfl).trans <| rfl) ((j_bi q_232_12 rfl).trans <| rfl))
theorem b_232_14 {E : js_E} {d : Nat} {σ : js_S} {x1 z0 : Int} : js_J E d 232 14 [(2, 83), (0, x1), (9, 0), (9, 0), (9, 0), (9, 0), (9, 0), (9, 0)] [(0, z0)] σ = (if 0 ≤ js_w x1 ∧ js_w x1 < 400 then (if js_w z0 < js_w (σ 96 (js_w x1)) then js_J E d 232 32 [(2, 83), (0, x1), (0, z0), (9, 0), (9, 0), (9, 0), (9, 0), (9, 0)] [(0, σ 83 6), (0, 10), (2, 83)] σ else (if js_w (σ 83 44) < js_w (σ 96 (js_w x1)) then js_J E d 232 60 [(2, 83), (0, x1), (0, z0), (9, 0), (9, 0), (9, 0), (9, 0), (9, 0)] [] (js_up σ 83 44 (σ 96 (js_w x1))) else js_J E d 232 60 [(2, 83), (0, x1), (0, z0), (9, 0), (9, 0), (9, 0), (9, 0), (9, 0)] [] σ)) else none) :=
  (j_istore_n (l2 := [(2, 83), (0, x1), (0, z0), (9, 0), (9, 0), (9, 0), (9, 0), (9, 0)]) q_232_14 rfl (Nat.le_of_ble_eq_true rfl)).trans <| (j_aload_n q_232_15 rfl).trans <| (j_get (ji := 22) (v := (2, 96)) q_232_16 (js_Fo qy_232 qf_12_132) js_o83 rfl rfl rfl rfl).trans <| (j_iload_n q_232_19 rfl).trans <| (j_iaload q_232_20 js_o96).trans <| js_itp fun g0 => (j_iload_n q_232_21 rfl).trans <| (j_cmple (t := 37) q_232_22 rfl).trans (js_ite ((j_aload_n q_232_25 rfl).trans <| (j_bi q_232_26 rfl).trans <| (j_aload_n q_232_28 rfl).trans <| (j_get (ji := 6) (v := (0, σ 83 6)) q_232_29 (js_Fo qy_232 qf_12_35) js_o83 rfl rfl rfl rfl).trans <| rfl) ((j_aload_n q_232_37 rfl).trans <| (j_get (ji := 22) (v := (2, 96)) q_232_38 (js_Fo qy_232 qf_12_132) js_o83 rfl rfl rfl rfl).trans <| (j_iload_n q_232_41 rfl).trans <| (j_iaload q_232_42 js_o96).trans <| (if_pos g0).trans <| (j_aload_n q_232_43 rfl).trans <| (j_get (ji := 44) (v := (0, σ 83 44)) q_232_44 (js_Fo qy_232 qf_12_284) js_o83 rfl rfl rfl rfl).trans <| (j_cmple (t := 60) q_232_47 rfl).trans (js_ite ((j_aload_n q_232_50 rfl).trans <| (j_aload_n q_232_51 rfl).trans <| (j_get (ji := 22) (v := (2, 96)) q_232_52 (js_Fo qy_232 qf_12_132) js_o83 rfl rfl rfl rfl).trans <| (j_iload_n q_232_55 rfl).trans <| (j_iaload q_232_56 js_o96).trans <| (if_pos g0).trans <| (j_putI (ji := 44) q_232_57 (js_Fo qy_232 qf_12_284) rfl js_o83 rfl rfl rfl).trans <| rfl) (rfl))))
theorem k_232_32 {E : js_E} {d : Nat} {σ σ2 : js_S} {x1 x2 z1 z2 : Int} (hd : 1 ≤ d) (hz : js_J E (d - 1) 199 0 [(2, 83), (0, z1), (0, z2)] [] σ = js_r0 E σ2) : js_J E d 232 32 [(2, 83), (0, x1), (0, x2), (9, 0), (9, 0), (9, 0), (9, 0), (9, 0)] [(0, z2), (0, z1), (2, 83)] σ = js_J E d 232 35 [(2, 83), (0, x1), (0, x2), (9, 0), (9, 0), (9, 0), (9, 0), (9, 0)] [] σ2 :=
  j_call0 (m := 0) (js_caV q_232_32 (js_Mo qy_232 qm_12_65)) (js_agV (av := [(0, z1), (0, z2)]) (st := []) rfl rfl js_o83 rfl) rfl rfl (by rw [ql_199]; exact Nat.le_of_ble_eq_true rfl) (Nat.le_of_ble_eq_true rfl) hd hz
theorem b_232_35 {E : js_E} {d : Nat} {σ : js_S} {x1 x2 : Int} : js_J E d 232 35 [(2, 83), (0, x1), (0, x2), (9, 0), (9, 0), (9, 0), (9, 0), (9, 0)] [] σ = js_r E (0, 0) σ :=
  (j_iconst q_232_35).trans <| j_ireturn q_232_36 qr_232
theorem b_232_60 {E : js_E} {d : Nat} {σ : js_S} {x1 x2 : Int} : js_J E d 232 60 [(2, 83), (0, x1), (0, x2), (9, 0), (9, 0), (9, 0), (9, 0), (9, 0)] [] σ = js_J E d 232 61 [(2, 83), (0, x1), (0, x2), (9, 0), (9, 0), (9, 0), (9, 0), (9, 0)] [(2, 83)] σ :=
  (j_aload_n q_232_60 rfl).trans <| rfl
theorem k_232_61 {E : js_E} {d : Nat} {σ σ2 : js_S} {x1 x2 : Int} (hd : 1 ≤ d) (hz : js_J E (d - 1) 191 0 [(2, 83), (9, 0), (9, 0), (9, 0), (9, 0), (9, 0)] [] σ = js_r0 E σ2) : js_J E d 232 61 [(2, 83), (0, x1), (0, x2), (9, 0), (9, 0), (9, 0), (9, 0), (9, 0)] [(2, 83)] σ = js_J E d 232 64 [(2, 83), (0, x1), (0, x2), (9, 0), (9, 0), (9, 0), (9, 0), (9, 0)] [] σ2 :=
  j_call0 (m := 5) (js_caV q_232_61 (js_Mo qy_232 qm_12_68)) (js_agV (av := []) (st := []) rfl rfl js_o83 rfl) rfl rfl (by rw [ql_191]; exact Nat.le_of_ble_eq_true rfl) (Nat.le_of_ble_eq_true rfl) hd hz
theorem b_232_64 {E : js_E} {d : Nat} {σ : js_S} {x1 x2 : Int} : js_J E d 232 64 [(2, 83), (0, x1), (0, x2), (9, 0), (9, 0), (9, 0), (9, 0), (9, 0)] [] σ = js_J E d 232 67 [(2, 83), (0, x1), (0, x2), (9, 0), (9, 0), (9, 0), (9, 0), (9, 0)] [(0, 40), (2, 83)] σ :=
  (j_aload_n q_232_64 rfl).trans <| (j_bi q_232_65 rfl).trans <| rfl
theorem k_232_67 {E : js_E} {d : Nat} {σ σ2 : js_S} {x1 x2 z1 : Int} (hd : 1 ≤ d) (hz : js_J E (d - 1) 207 0 [(2, 83), (0, z1)] [] σ = js_r0 E σ2) : js_J E d 232 67 [(2, 83), (0, x1), (0, x2), (9, 0), (9, 0), (9, 0), (9, 0), (9, 0)] [(0, z1), (2, 83)] σ = js_J E d 232 70 [(2, 83), (0, x1), (0, x2), (9, 0), (9, 0), (9, 0), (9, 0), (9, 0)] [] σ2 :=
  j_call0 (m := 0) (js_caV q_232_67 (js_Mo qy_232 qm_12_159)) (js_agV (av := [(0, z1)]) (st := []) rfl rfl js_o83 rfl) rfl rfl (by rw [ql_207]; exact Nat.le_of_ble_eq_true rfl) (Nat.le_of_ble_eq_true rfl) hd hz
theorem b_232_70 {E : js_E} {d : Nat} {σ : js_S} {x1 x2 : Int} : js_J E d 232 70 [(2, 83), (0, x1), (0, x2), (9, 0), (9, 0), (9, 0), (9, 0), (9, 0)] [] σ = js_J E d 232 78 [(2, 83), (0, x1), (0, x2), (0, 0), (0, (-1)), (0, (-1)), (9, 0), (9, 0)] [] σ :=
  (j_iconst q_232_70).trans <| (j_istore_n (l2 := [(2, 83), (0, x1), (0, x2), (0, 0), (9, 0), (9, 0), (9, 0), (9, 0)]) q_232_71 rfl (Nat.le_of_ble_eq_true rfl)).trans <| (j_iconst q_232_72).trans <| (j_istore (l2 := [(2, 83), (0, x1), (0, x2), (0, 0), (0, (-1)), (9, 0), (9, 0), (9, 0)]) q_232_73 rfl (Nat.le_of_ble_eq_true rfl)).trans <| (j_iconst q_232_75).trans <| (j_istore (l2 := [(2, 83), (0, x1), (0, x2), (0, 0), (0, (-1)), (0, (-1)), (9, 0), (9, 0)]) q_232_76 rfl (Nat.le_of_ble_eq_true rfl)).trans <| rfl
theorem b_232_78 {E : js_E} {d : Nat} {σ : js_S} {x1 x2 x3 x4 x5 : Int} {ux6 ux7 : js_v} : js_J E d 232 78 [(2, 83), (0, x1), (0, x2), (0, x3), (0, x4), (0, x5), ux6, ux7] [] σ = (if js_w (σ 83 9) = 0 then (if js_w (σ 83 5) = 41 then js_J E d 232 223 [(2, 83), (0, x1), (0, x2), (0, x3), (0, x4), (0, x5), ux6, ux7] [] σ else (if 0 ≤ js_w x1 ∧ js_w x1 < 400 then (if js_w x3 < js_w (σ 91 (js_w x1)) then (if 0 ≤ js_w ((x1 + 1) + x3) ∧ js_w ((x1 + 1) + x3) < 400 then js_J E d 232 135 [(2, 83), (0, x1), (0, x2), (0, x3), (0, x4), (0, x5), (0, (x1 + 1) + x3), ux7] [(1, js_w (σ 89 (js_w ((x1 + 1) + x3)))), (1, js_w (σ 88 (js_w ((x1 + 1) + x3)))), (0, σ 87 (js_w ((x1 + 1) + x3))), (2, 83)] σ else none) else js_J E d 232 142 [(2, 83), (0, x1), (0, x2), (0, x3), (0, x4), (0, x5), (0, (x1 + 1) + x3), ux7] [(2, 83)] σ) else none)) else js_J E d 232 223 [(2, 83), (0, x1), (0, x2), (0, x3), (0, x4), (0, x5), ux6, ux7] [] σ) :=
  (j_aload_n q_232_78 rfl).trans <| (j_get (ji := 9) (v := (0, σ 83 9)) q_232_79 (js_Fo qy_232 qf_12_22) js_o83 rfl rfl rfl rfl).trans <| (j_ifne (t := 223) q_232_82 rfl).trans (js_ite ((j_aload_n q_232_85 rfl).trans <| (j_get (ji := 5) (v := (0, σ 83 5)) q_232_86 (js_Fo qy_232 qf_12_25) js_o83 rfl rfl rfl rfl).trans <| (j_bi q_232_89 rfl).trans <| (j_cmpeqB (t := 223) q_232_91 rfl ww_41).trans (js_ite (rfl) ((j_iload_n q_232_94 rfl).trans <| (j_iconst q_232_95).trans <| (j_iadd q_232_96).trans <| (j_iload_n q_232_97 rfl).trans <| (j_iadd q_232_98).trans <| (j_istore (l2 := [(2, 83), (0, x1), (0, x2), (0, x3), (0, x4), (0, x5), (0, (x1 + 1) + x3), ux7]) q_232_99 rfl (Nat.le_of_ble_eq_true rfl)).trans <| (j_iload_n q_232_101 rfl).trans <| (j_aload_n q_232_102 rfl).trans <| (j_get (ji := 17) (v := (2, 91)) q_232_103 (js_Fo qy_232 qf_12_114) js_o83 rfl rfl rfl rfl).trans <| (j_iload_n q_232_106 rfl).trans <| (j_iaload q_232_107 js_o91).trans <| js_itp fun g0 => (j_cmpge (t := 141) q_232_108 rfl).trans (js_ite ((j_aload_n q_232_111 rfl).trans <| (j_aload_n q_232_112 rfl).trans <| (j_get (ji := 13) (v := (2, 87)) q_232_113 (js_Fo qy_232 qf_12_102) js_o83 rfl rfl rfl rfl).trans <| (j_iload q_232_116 rfl).trans <| (j_iaload q_232_118 js_o87).trans <| js_itp fun g1 => (j_aload_n q_232_119 rfl).trans <| (j_get (ji := 14) (v := (2, 88)) q_232_120 (js_Fo qy_232 qf_12_105) js_o83 rfl rfl rfl rfl).trans <| (j_iload q_232_123 rfl).trans <| (j_iaload q_232_125 js_o88).trans <| (if_pos g1).trans <| (j_i2l q_232_126).trans <| (j_aload_n q_232_127 rfl).trans <| (j_get (ji := 15) (v := (2, 89)) q_232_128 (js_Fo qy_232 qf_12_108) js_o83 rfl rfl rfl rfl).trans <| (j_iload q_232_131 rfl).trans <| (j_iaload q_232_133 js_o89).trans <| (if_pos g1).trans <| (j_i2l q_232_134).trans <| rfl) ((j_aload_n q_232_141 rfl).trans <| rfl))))) (rfl))
theorem k_232_135 {E : js_E} {d : Nat} {σ σ2 : js_S} {x1 x2 x3 x4 x5 x6 z1 z2 z3 : Int} {ux7 : js_v} {v : Int} (hd : 1 ≤ d) (hz : js_J E (d - 1) 218 0 [(2, 83), (0, z1), (1, z2), (9, 0), (1, z3), (9, 0), (9, 0), (9, 0)] [] σ = js_r E (0, v) σ2) : js_J E d 232 135 [(2, 83), (0, x1), (0, x2), (0, x3), (0, x4), (0, x5), (0, x6), ux7] [(1, z3), (1, z2), (0, z1), (2, 83)] σ = js_J E d 232 138 [(2, 83), (0, x1), (0, x2), (0, x3), (0, x4), (0, x5), (0, x6), ux7] [(0, v)] σ2 :=
  j_call (m := 2) (js_caV q_232_135 (js_Mo qy_232 qm_12_280)) (js_agV (av := [(0, z1), (1, z2), (1, z3)]) (st := []) rfl rfl js_o83 rfl) rfl rfl (by rw [ql_218]; exact Nat.le_of_ble_eq_true rfl) (Nat.le_of_ble_eq_true rfl) hd hz
theorem b_232_138 {E : js_E} {d : Nat} {σ : js_S} {x1 x2 x3 x4 x5 x6 z0 : Int} {ux7 : js_v} : js_J E d 232 138 [(2, 83), (0, x1), (0, x2), (0, x3), (0, x4), (0, x5), (0, x6), ux7] [(0, z0)] σ = js_J E d 232 145 [(2, 83), (0, x1), (0, x2), (0, x3), (0, x4), (0, x5), (0, x6), ux7] [(0, z0)] σ :=
  (j_goto (t := 145) q_232_138 rfl).trans <| rfl
theorem k_232_142 {E : js_E} {d : Nat} {σ σ2 : js_S} {x1 x2 x3 x4 x5 x6 : Int} {ux7 : js_v} {v : Int} (hd : 1 ≤ d) (hz : js_J E (d - 1) 219 0 [(2, 83), (9, 0), (9, 0), (9, 0), (9, 0)] [] σ = js_r E (0, v) σ2) : js_J E d 232 142 [(2, 83), (0, x1), (0, x2), (0, x3), (0, x4), (0, x5), (0, x6), ux7] [(2, 83)] σ = js_J E d 232 145 [(2, 83), (0, x1), (0, x2), (0, x3), (0, x4), (0, x5), (0, x6), ux7] [(0, v)] σ2 :=
  j_call (m := 4) (js_caV q_232_142 (js_Mo qy_232 qm_12_193)) (js_agV (av := []) (st := []) rfl rfl js_o83 rfl) rfl rfl (by rw [ql_219]; exact Nat.le_of_ble_eq_true rfl) (Nat.le_of_ble_eq_true rfl) hd hz
theorem b_232_145 {E : js_E} {d : Nat} {σ : js_S} {x1 x2 x3 x4 x5 x6 z0 : Int} {ux7 : js_v} : js_J E d 232 145 [(2, 83), (0, x1), (0, x2), (0, x3), (0, x4), (0, x5), (0, x6), ux7] [(0, z0)] σ = (if 0 < js_w (σ 83 9) then js_r E (0, 0) σ else (if js_w x5 < 0 then js_J E d 232 180 [(2, 83), (0, x1), (0, x2), (0, x3 + 1), (0, z0), (0, x5), (0, x6), (0, z0)] [] σ else (if 0 ≤ js_w x5 ∧ js_w x5 < 66000 then js_J E d 232 180 [(2, 83), (0, x1), (0, x2), (0, x3 + 1), (0, x4), (0, x5), (0, x6), (0, z0)] [] (js_up σ 107 (js_w x5) z0) else none))) :=
  (j_istore (l2 := [(2, 83), (0, x1), (0, x2), (0, x3), (0, x4), (0, x5), (0, x6), (0, z0)]) q_232_145 rfl (Nat.le_of_ble_eq_true rfl)).trans <| (j_iinc (l2 := [(2, 83), (0, x1), (0, x2), (0, x3 + 1), (0, x4), (0, x5), (0, x6), (0, z0)]) q_232_147 rfl rfl).trans <| (j_aload_n q_232_150 rfl).trans <| (j_get (ji := 9) (v := (0, σ 83 9)) q_232_151 (js_Fo qy_232 qf_12_22) js_o83 rfl rfl rfl rfl).trans <| (j_ifle (t := 159) q_232_154 rfl).trans (js_ite ((j_iconst q_232_157).trans <| j_ireturn q_232_158 qr_232) ((j_iload q_232_159 rfl).trans <| (j_ifge (t := 171) q_232_161 rfl).trans (js_ite ((j_iload q_232_164 rfl).trans <| (j_istore (l2 := [(2, 83), (0, x1), (0, x2), (0, x3 + 1), (0, z0), (0, x5), (0, x6), (0, z0)]) q_232_166 rfl (Nat.le_of_ble_eq_true rfl)).trans <| (j_goto (t := 180) q_232_168 rfl).trans <| rfl) ((j_aload_n q_232_171 rfl).trans <| (j_get (ji := 41) (v := (2, 107)) q_232_172 (js_Fo qy_232 qf_12_190) js_o83 rfl rfl rfl rfl).trans <| (j_iload q_232_175 rfl).trans <| (j_iload q_232_177 rfl).trans <| (j_iastore q_232_179 js_o107).trans <| js_itp fun g0 => rfl))))
theorem b_232_180 {E : js_E} {d : Nat} {σ : js_S} {x1 x2 x3 x4 x5 x6 x7 : Int} : js_J E d 232 180 [(2, 83), (0, x1), (0, x2), (0, x3), (0, x4), (0, x5), (0, x6), (0, x7)] [] σ = (if js_w (σ 83 5) = 41 then js_J E d 232 78 [(2, 83), (0, x1), (0, x2), (0, x3), (0, x4), (0, x7), (0, x6), (0, x7)] [] σ else js_J E d 232 199 [(2, 83), (0, x1), (0, x2), (0, x3), (0, x4), (0, x7), (0, x6), (0, x7)] [(0, 44), (2, 83)] σ) :=
  (j_iload q_232_180 rfl).trans <| (j_istore (l2 := [(2, 83), (0, x1), (0, x2), (0, x3), (0, x4), (0, x7), (0, x6), (0, x7)]) q_232_182 rfl (Nat.le_of_ble_eq_true rfl)).trans <| (j_aload_n q_232_184 rfl).trans <| (j_get (ji := 5) (v := (0, σ 83 5)) q_232_185 (js_Fo qy_232 qf_12_25) js_o83 rfl rfl rfl rfl).trans <| (j_bi q_232_188 rfl).trans <| (j_cmpneB (t := 196) q_232_190 rfl ww_41).trans (js_ite ((j_goto (t := 78) q_232_193 rfl).trans <| rfl) ((j_aload_n q_232_196 rfl).trans <| (j_bi q_232_197 rfl).trans <| rfl))
theorem k_232_199 {E : js_E} {d : Nat} {σ σ2 : js_S} {x1 x2 x3 x4 x5 x6 x7 z1 : Int} (hd : 1 ≤ d) (hz : js_J E (d - 1) 202 0 [(2, 83), (0, z1)] [] σ = js_r0 E σ2) : js_J E d 232 199 [(2, 83), (0, x1), (0, x2), (0, x3), (0, x4), (0, x5), (0, x6), (0, x7)] [(0, z1), (2, 83)] σ = js_J E d 232 202 [(2, 83), (0, x1), (0, x2), (0, x3), (0, x4), (0, x5), (0, x6), (0, x7)] [] σ2 :=
  j_call0 (m := 0) (js_caV q_232_199 (js_Mo qy_232 qm_12_75)) (js_agV (av := [(0, z1)]) (st := []) rfl rfl js_o83 rfl) rfl rfl (by rw [ql_202]; exact Nat.le_of_ble_eq_true rfl) (Nat.le_of_ble_eq_true rfl) hd hz
theorem b_232_202 {E : js_E} {d : Nat} {σ : js_S} {x1 x2 x3 x4 x5 x6 x7 : Int} : js_J E d 232 202 [(2, 83), (0, x1), (0, x2), (0, x3), (0, x4), (0, x5), (0, x6), (0, x7)] [] σ = (if js_w (σ 83 5) = 41 then js_J E d 232 217 [(2, 83), (0, x1), (0, x2), (0, x3), (0, x4), (0, x5), (0, x6), (0, x7)] [(0, σ 83 6), (0, 1), (2, 83)] σ else js_J E d 232 220 [(2, 83), (0, x1), (0, x2), (0, x3), (0, x4), (0, x5), (0, x6), (0, x7)] [] σ) :=
  (j_aload_n q_232_202 rfl).trans <| (j_get (ji := 5) (v := (0, σ 83 5)) q_232_203 (js_Fo qy_232 qf_12_25) js_o83 rfl rfl rfl rfl).trans <| (j_bi q_232_206 rfl).trans <| (j_cmpneB (t := 220) q_232_208 rfl ww_41).trans (js_ite ((j_aload_n q_232_211 rfl).trans <| (j_iconst q_232_212).trans <| (j_aload_n q_232_213 rfl).trans <| (j_get (ji := 6) (v := (0, σ 83 6)) q_232_214 (js_Fo qy_232 qf_12_35) js_o83 rfl rfl rfl rfl).trans <| rfl) (rfl))
theorem k_232_217 {E : js_E} {d : Nat} {σ σ2 : js_S} {x1 x2 x3 x4 x5 x6 x7 z1 z2 : Int} (hd : 1 ≤ d) (hz : js_J E (d - 1) 199 0 [(2, 83), (0, z1), (0, z2)] [] σ = js_r0 E σ2) : js_J E d 232 217 [(2, 83), (0, x1), (0, x2), (0, x3), (0, x4), (0, x5), (0, x6), (0, x7)] [(0, z2), (0, z1), (2, 83)] σ = js_J E d 232 220 [(2, 83), (0, x1), (0, x2), (0, x3), (0, x4), (0, x5), (0, x6), (0, x7)] [] σ2 :=
  j_call0 (m := 0) (js_caV q_232_217 (js_Mo qy_232 qm_12_65)) (js_agV (av := [(0, z1), (0, z2)]) (st := []) rfl rfl js_o83 rfl) rfl rfl (by rw [ql_199]; exact Nat.le_of_ble_eq_true rfl) (Nat.le_of_ble_eq_true rfl) hd hz
theorem b_232_220 {E : js_E} {d : Nat} {σ : js_S} {x1 x2 x3 x4 x5 x6 x7 : Int} : js_J E d 232 220 [(2, 83), (0, x1), (0, x2), (0, x3), (0, x4), (0, x5), (0, x6), (0, x7)] [] σ = js_J E d 232 78 [(2, 83), (0, x1), (0, x2), (0, x3), (0, x4), (0, x5), (0, x6), (0, x7)] [] σ :=
  (j_goto (t := 78) q_232_220 rfl).trans <| rfl
theorem b_232_223 {E : js_E} {d : Nat} {σ : js_S} {x1 x2 x3 x4 x5 : Int} {ux6 ux7 : js_v} : js_J E d 232 223 [(2, 83), (0, x1), (0, x2), (0, x3), (0, x4), (0, x5), ux6, ux7] [] σ = (if js_w (σ 83 9) = 0 then (if 0 ≤ js_w x1 ∧ js_w x1 < 400 then (if js_w x3 = js_w (σ 91 (js_w x1)) then js_J E d 232 250 [(2, 83), (0, x1), (0, x2), (0, x3), (0, x4), (0, x5), ux6, ux7] [] σ else js_J E d 232 247 [(2, 83), (0, x1), (0, x2), (0, x3), (0, x4), (0, x5), ux6, ux7] [(0, σ 83 6), (0, 9), (2, 83)] σ) else none) else js_J E d 232 250 [(2, 83), (0, x1), (0, x2), (0, x3), (0, x4), (0, x5), ux6, ux7] [] σ) :=
  (j_aload_n q_232_223 rfl).trans <| (j_get (ji := 9) (v := (0, σ 83 9)) q_232_224 (js_Fo qy_232 qf_12_22) js_o83 rfl rfl rfl rfl).trans <| (j_ifne (t := 250) q_232_227 rfl).trans (js_ite ((j_iload_n q_232_230 rfl).trans <| (j_aload_n q_232_231 rfl).trans <| (j_get (ji := 17) (v := (2, 91)) q_232_232 (js_Fo qy_232 qf_12_114) js_o83 rfl rfl rfl rfl).trans <| (j_iload_n q_232_235 rfl).trans <| (j_iaload q_232_236 js_o91).trans <| js_itp fun g0 => (j_cmpeq (t := 250) q_232_237 rfl).trans (js_ite (rfl) ((j_aload_n q_232_240 rfl).trans <| (j_bi q_232_241 rfl).trans <| (j_aload_n q_232_243 rfl).trans <| (j_get (ji := 6) (v := (0, σ 83 6)) q_232_244 (js_Fo qy_232 qf_12_35) js_o83 rfl rfl rfl rfl).trans <| rfl))) (rfl))
theorem k_232_247 {E : js_E} {d : Nat} {σ σ2 : js_S} {x1 x2 x3 x4 x5 z1 z2 : Int} {ux6 ux7 : js_v} (hd : 1 ≤ d) (hz : js_J E (d - 1) 199 0 [(2, 83), (0, z1), (0, z2)] [] σ = js_r0 E σ2) : js_J E d 232 247 [(2, 83), (0, x1), (0, x2), (0, x3), (0, x4), (0, x5), ux6, ux7] [(0, z2), (0, z1), (2, 83)] σ = js_J E d 232 250 [(2, 83), (0, x1), (0, x2), (0, x3), (0, x4), (0, x5), ux6, ux7] [] σ2 :=
  j_call0 (m := 0) (js_caV q_232_247 (js_Mo qy_232 qm_12_65)) (js_agV (av := [(0, z1), (0, z2)]) (st := []) rfl rfl js_o83 rfl) rfl rfl (by rw [ql_199]; exact Nat.le_of_ble_eq_true rfl) (Nat.le_of_ble_eq_true rfl) hd hz
theorem b_232_250 {E : js_E} {d : Nat} {σ : js_S} {x1 x2 x3 x4 x5 : Int} {ux6 ux7 : js_v} : js_J E d 232 250 [(2, 83), (0, x1), (0, x2), (0, x3), (0, x4), (0, x5), ux6, ux7] [] σ = js_J E d 232 253 [(2, 83), (0, x1), (0, x2), (0, x3), (0, x4), (0, x5), ux6, ux7] [(0, 41), (2, 83)] σ :=
  (j_aload_n q_232_250 rfl).trans <| (j_bi q_232_251 rfl).trans <| rfl
theorem k_232_253 {E : js_E} {d : Nat} {σ σ2 : js_S} {x1 x2 x3 x4 x5 z1 : Int} {ux6 ux7 : js_v} (hd : 1 ≤ d) (hz : js_J E (d - 1) 211 0 [(2, 83), (0, z1)] [] σ = js_r0 E σ2) : js_J E d 232 253 [(2, 83), (0, x1), (0, x2), (0, x3), (0, x4), (0, x5), ux6, ux7] [(0, z1), (2, 83)] σ = js_J E d 232 256 [(2, 83), (0, x1), (0, x2), (0, x3), (0, x4), (0, x5), ux6, ux7] [] σ2 :=
  j_call0 (m := 0) (js_caV q_232_253 (js_Mo qy_232 qm_12_162)) (js_agV (av := [(0, z1)]) (st := []) rfl rfl js_o83 rfl) rfl rfl (by rw [ql_211]; exact Nat.le_of_ble_eq_true rfl) (Nat.le_of_ble_eq_true rfl) hd hz
theorem b_232_256 {E : js_E} {d : Nat} {σ : js_S} {x1 x2 x3 x4 x5 : Int} {ux6 ux7 : js_v} : js_J E d 232 256 [(2, 83), (0, x1), (0, x2), (0, x3), (0, x4), (0, x5), ux6, ux7] [] σ = (if 0 ≤ js_w x1 ∧ js_w x1 < 400 then js_J E d 232 283 [(2, 83), (0, x1), (0, x2), (0, x3), (0, x4), (0, x5), ux6, ux7] [(0, 0), (0, x4), (0, x1), (1, js_w (σ 89 (js_w x1))), (1, js_w (σ 88 (js_w x1))), (0, σ 87 (js_w x1)), (0, 10), (2, 83)] σ else none) :=
  (j_aload_n q_232_256 rfl).trans <| (j_bi q_232_257 rfl).trans <| (j_aload_n q_232_259 rfl).trans <| (j_get (ji := 13) (v := (2, 87)) q_232_260 (js_Fo qy_232 qf_12_102) js_o83 rfl rfl rfl rfl).trans <| (j_iload_n q_232_263 rfl).trans <| (j_iaload q_232_264 js_o87).trans <| js_itp fun g0 => (j_aload_n q_232_265 rfl).trans <| (j_get (ji := 14) (v := (2, 88)) q_232_266 (js_Fo qy_232 qf_12_105) js_o83 rfl rfl rfl rfl).trans <| (j_iload_n q_232_269 rfl).trans <| (j_iaload q_232_270 js_o88).trans <| (if_pos g0).trans <| (j_i2l q_232_271).trans <| (j_aload_n q_232_272 rfl).trans <| (j_get (ji := 15) (v := (2, 89)) q_232_273 (js_Fo qy_232 qf_12_108) js_o83 rfl rfl rfl rfl).trans <| (j_iload_n q_232_276 rfl).trans <| (j_iaload q_232_277 js_o89).trans <| (if_pos g0).trans <| (j_i2l q_232_278).trans <| (j_iload_n q_232_279 rfl).trans <| (j_iload q_232_280 rfl).trans <| (j_iconst q_232_282).trans <| rfl
theorem k_232_283 {E : js_E} {d : Nat} {σ σ2 : js_S} {x1 x2 x3 x4 x5 z1 z2 z3 z4 z5 z6 z7 : Int} {ux6 ux7 : js_v} {v : Int} (hd : 1 ≤ d) (hz : js_J E (d - 1) 217 0 [(2, 83), (0, z1), (0, z2), (1, z3), (9, 0), (1, z4), (9, 0), (0, z5), (0, z6), (0, z7), (9, 0)] [] σ = js_r E (0, v) σ2) : js_J E d 232 283 [(2, 83), (0, x1), (0, x2), (0, x3), (0, x4), (0, x5), ux6, ux7] [(0, z7), (0, z6), (0, z5), (1, z4), (1, z3), (0, z2), (0, z1), (2, 83)] σ = js_J E d 232 286 [(2, 83), (0, x1), (0, x2), (0, x3), (0, x4), (0, x5), ux6, ux7] [(0, v)] σ2 :=
  j_call (m := 1) (js_caV q_232_283 (js_Mo qy_232 qm_12_208)) (js_agV (av := [(0, z1), (0, z2), (1, z3), (1, z4), (0, z5), (0, z6), (0, z7)]) (st := []) rfl rfl js_o83 rfl) rfl rfl (by rw [ql_217]; exact Nat.le_of_ble_eq_true rfl) (Nat.le_of_ble_eq_true rfl) hd hz
theorem b_232_286 {E : js_E} {d : Nat} {σ : js_S} {x1 x2 x3 x4 x5 z0 : Int} {ux6 ux7 : js_v} : js_J E d 232 286 [(2, 83), (0, x1), (0, x2), (0, x3), (0, x4), (0, x5), ux6, ux7] [(0, z0)] σ = js_r E (0, z0) σ :=
  j_ireturn q_232_286 qr_232
-- 233: VitalTwinModel.index (I)I
theorem b_233_0 {E : js_E} {d : Nat} {σ : js_S} {x1 : Int} : js_J E d 233 0 [(2, 83), (0, x1), (9, 0)] [] σ = js_J E d 233 3 [(2, 83), (0, x1), (9, 0)] [(0, 91), (2, 83)] σ :=
  (j_aload_n q_233_0 rfl).trans <| (j_bi q_233_1 rfl).trans <| rfl
theorem k_233_3 {E : js_E} {d : Nat} {σ σ2 : js_S} {x1 z1 : Int} (hd : 1 ≤ d) (hz : js_J E (d - 1) 207 0 [(2, 83), (0, z1)] [] σ = js_r0 E σ2) : js_J E d 233 3 [(2, 83), (0, x1), (9, 0)] [(0, z1), (2, 83)] σ = js_J E d 233 6 [(2, 83), (0, x1), (9, 0)] [] σ2 :=
  j_call0 (m := 0) (js_caV q_233_3 (js_Mo qy_233 qm_12_159)) (js_agV (av := [(0, z1)]) (st := []) rfl rfl js_o83 rfl) rfl rfl (by rw [ql_207]; exact Nat.le_of_ble_eq_true rfl) (Nat.le_of_ble_eq_true rfl) hd hz
theorem b_233_6 {E : js_E} {d : Nat} {σ : js_S} {x1 : Int} : js_J E d 233 6 [(2, 83), (0, x1), (9, 0)] [] σ = (if 0 ≤ js_w x1 ∧ js_w x1 < 400 then js_J E d 233 18 [(2, 83), (0, x1), (9, 0)] [(1, js_w ((σ 91 (js_w x1)) - 1)), (1, 0), (0, 0), (2, 83)] σ else none) :=
  (j_aload_n q_233_6 rfl).trans <| (j_iconst q_233_7).trans <| (j_lconst0 q_233_8).trans <| (j_aload_n q_233_9 rfl).trans <| (j_get (ji := 17) (v := (2, 91)) q_233_10 (js_Fo qy_233 qf_12_114) js_o83 rfl rfl rfl rfl).trans <| (j_iload_n q_233_13 rfl).trans <| (j_iaload q_233_14 js_o91).trans <| js_itp fun g0 => (j_iconst q_233_15).trans <| (j_isub q_233_16).trans <| (j_i2l q_233_17).trans <| rfl
theorem k_233_18 {E : js_E} {d : Nat} {σ σ2 : js_S} {x1 z1 z2 z3 : Int} {v : Int} (hd : 1 ≤ d) (hz : js_J E (d - 1) 218 0 [(2, 83), (0, z1), (1, z2), (9, 0), (1, z3), (9, 0), (9, 0), (9, 0)] [] σ = js_r E (0, v) σ2) : js_J E d 233 18 [(2, 83), (0, x1), (9, 0)] [(1, z3), (1, z2), (0, z1), (2, 83)] σ = js_J E d 233 21 [(2, 83), (0, x1), (9, 0)] [(0, v)] σ2 :=
  j_call (m := 2) (js_caV q_233_18 (js_Mo qy_233 qm_12_280)) (js_agV (av := [(0, z1), (1, z2), (1, z3)]) (st := []) rfl rfl js_o83 rfl) rfl rfl (by rw [ql_218]; exact Nat.le_of_ble_eq_true rfl) (Nat.le_of_ble_eq_true rfl) hd hz
theorem b_233_21 {E : js_E} {d : Nat} {σ : js_S} {x1 z0 : Int} : js_J E d 233 21 [(2, 83), (0, x1), (9, 0)] [(0, z0)] σ = js_J E d 233 25 [(2, 83), (0, x1), (0, z0)] [(0, 93), (2, 83)] σ :=
  (j_istore_n (l2 := [(2, 83), (0, x1), (0, z0)]) q_233_21 rfl (Nat.le_of_ble_eq_true rfl)).trans <| (j_aload_n q_233_22 rfl).trans <| (j_bi q_233_23 rfl).trans <| rfl
theorem k_233_25 {E : js_E} {d : Nat} {σ σ2 : js_S} {x1 x2 z1 : Int} (hd : 1 ≤ d) (hz : js_J E (d - 1) 211 0 [(2, 83), (0, z1)] [] σ = js_r0 E σ2) : js_J E d 233 25 [(2, 83), (0, x1), (0, x2)] [(0, z1), (2, 83)] σ = js_J E d 233 28 [(2, 83), (0, x1), (0, x2)] [] σ2 :=
  j_call0 (m := 0) (js_caV q_233_25 (js_Mo qy_233 qm_12_162)) (js_agV (av := [(0, z1)]) (st := []) rfl rfl js_o83 rfl) rfl rfl (by rw [ql_211]; exact Nat.le_of_ble_eq_true rfl) (Nat.le_of_ble_eq_true rfl) hd hz
theorem b_233_28 {E : js_E} {d : Nat} {σ : js_S} {x1 x2 : Int} : js_J E d 233 28 [(2, 83), (0, x1), (0, x2)] [] σ = js_r E (0, x2) σ :=
  (j_iload_n q_233_28 rfl).trans <| j_ireturn q_233_29 qr_233
-- 234: VitalTwinModel.reckoned (IIII)I
theorem b_234_0 {E : js_E} {d : Nat} {σ : js_S} {x1 x2 x3 x4 : Int} : js_J E d 234 0 [(2, 83), (0, x1), (0, x2), (0, x3), (0, x4), (9, 0), (9, 0), (9, 0), (9, 0), (9, 0), (9, 0), (9, 0), (9, 0), (9, 0), (9, 0)] [] σ = (if 0 < js_w (σ 83 9) then js_r E (0, 0) σ else (if 0 ≤ js_w x2 ∧ js_w x2 < 66000 then (if js_w (σ 101 (js_w x2)) = 0 then (if 0 ≤ js_w x3 ∧ js_w x3 < 66000 then (if js_w (σ 101 (js_w x3)) = 0 then (if 8 < js_w x1 then (if 0 < js_l (js_w (σ 105 (js_w x3))) then js_J E d 234 102 [(2, 83), (0, x1), (0, x2), (0, x3), (0, x4), (1, js_w (σ 105 (js_w x2))), (9, 0), (1, js_w (σ 106 (js_w x2))), (9, 0), (1, js_w (σ 105 (js_w x3))), (9, 0), (1, js_w (σ 106 (js_w x3))), (9, 0), (9, 0), (9, 0)] [] σ else (if js_l (js_w (σ 106 (js_w x3))) < 0 then js_J E d 234 102 [(2, 83), (0, x1), (0, x2), (0, x3), (0, x4), (1, js_w (σ 105 (js_w x2))), (9, 0), (1, js_w (σ 106 (js_w x2))), (9, 0), (1, js_w (σ 105 (js_w x3))), (9, 0), (1, js_w (σ 106 (js_w x3))), (9, 0), (9, 0), (9, 0)] [] σ else js_J E d 234 97 [(2, 83), (0, x1), (0, x2), (0, x3), (0, x4), (1, js_w (σ 105 (js_w x2))), (9, 0), (1, js_w (σ 106 (js_w x2))), (9, 0), (1, js_w (σ 105 (js_w x3))), (9, 0), (1, js_w (σ 106 (js_w x3))), (9, 0), (9, 0), (9, 0)] [(0, x4), (0, 7), (2, 83)] σ)) else js_J E d 234 102 [(2, 83), (0, x1), (0, x2), (0, x3), (0, x4), (1, js_w (σ 105 (js_w x2))), (9, 0), (1, js_w (σ 106 (js_w x2))), (9, 0), (1, js_w (σ 105 (js_w x3))), (9, 0), (1, js_w (σ 106 (js_w x3))), (9, 0), (9, 0), (9, 0)] [] σ) else js_J E d 234 27 [(2, 83), (0, x1), (0, x2), (0, x3), (0, x4), (9, 0), (9, 0), (9, 0), (9, 0), (9, 0), (9, 0), (9, 0), (9, 0), (9, 0), (9, 0)] [] σ) else none) else js_J E d 234 27 [(2, 83), (0, x1), (0, x2), (0, x3), (0, x4), (9, 0), (9, 0), (9, 0), (9, 0), (9, 0), (9, 0), (9, 0), (9, 0), (9, 0), (9, 0)] [] σ) else none)) :=
  (j_aload_n q_234_0 rfl).trans <| (j_get (ji := 9) (v := (0, σ 83 9)) q_234_1 (js_Fo qy_234 qf_12_22) js_o83 rfl rfl rfl rfl).trans <| (j_ifle (t := 9) q_234_4 rfl).trans (js_ite ((j_iconst q_234_7).trans <| j_ireturn q_234_8 qr_234) ((j_aload_n q_234_9 rfl).trans <| (j_get (ji := 35) (v := (2, 101)) q_234_10 (js_Fo qy_234 qf_12_172) js_o83 rfl rfl rfl rfl).trans <| (j_iload_n q_234_13 rfl).trans <| (j_iaload q_234_14 js_o101).trans <| js_itp fun g0 => (j_ifne (t := 27) q_234_15 rfl).trans (js_ite ((j_aload_n q_234_18 rfl).trans <| (j_get (ji := 35) (v := (2, 101)) q_234_19 (js_Fo qy_234 qf_12_172) js_o83 rfl rfl rfl rfl).trans <| (j_iload_n q_234_22 rfl).trans <| (j_iaload q_234_23 js_o101).trans <| js_itp fun g1 => (j_ifeq (t := 36) q_234_24 rfl).trans (js_ite ((j_aload_n q_234_36 rfl).trans <| (j_get (ji := 39) (v := (2, 105)) q_234_37 (js_Fo qy_234 qf_12_175) js_o83 rfl rfl rfl rfl).trans <| (j_iload_n q_234_40 rfl).trans <| (j_iaload q_234_41 js_o105).trans <| (if_pos g0).trans <| (j_i2l q_234_42).trans <| (j_lstore (l2 := [(2, 83), (0, x1), (0, x2), (0, x3), (0, x4), (1, js_w (σ 105 (js_w x2))), (9, 0), (9, 0), (9, 0), (9, 0), (9, 0), (9, 0), (9, 0), (9, 0), (9, 0)]) q_234_43 rfl (Nat.le_of_ble_eq_true rfl)).trans <| (j_aload_n q_234_45 rfl).trans <| (j_get (ji := 40) (v := (2, 106)) q_234_46 (js_Fo qy_234 qf_12_178) js_o83 rfl rfl rfl rfl).trans <| (j_iload_n q_234_49 rfl).trans <| (j_iaload q_234_50 js_o106).trans <| (if_pos g0).trans <| (j_i2l q_234_51).trans <| (j_lstore (l2 := [(2, 83), (0, x1), (0, x2), (0, x3), (0, x4), (1, js_w (σ 105 (js_w x2))), (9, 0), (1, js_w (σ 106 (js_w x2))), (9, 0), (9, 0), (9, 0), (9, 0), (9, 0), (9, 0), (9, 0)]) q_234_52 rfl (Nat.le_of_ble_eq_true rfl)).trans <| (j_aload_n q_234_54 rfl).trans <| (j_get (ji := 39) (v := (2, 105)) q_234_55 (js_Fo qy_234 qf_12_175) js_o83 rfl rfl rfl rfl).trans <| (j_iload_n q_234_58 rfl).trans <| (j_iaload q_234_59 js_o105).trans <| (if_pos g1).trans <| (j_i2l q_234_60).trans <| (j_lstore (l2 := [(2, 83), (0, x1), (0, x2), (0, x3), (0, x4), (1, js_w (σ 105 (js_w x2))), (9, 0), (1, js_w (σ 106 (js_w x2))), (9, 0), (1, js_w (σ 105 (js_w x3))), (9, 0), (9, 0), (9, 0), (9, 0), (9, 0)]) q_234_61 rfl (Nat.le_of_ble_eq_true rfl)).trans <| (j_aload_n q_234_63 rfl).trans <| (j_get (ji := 40) (v := (2, 106)) q_234_64 (js_Fo qy_234 qf_12_178) js_o83 rfl rfl rfl rfl).trans <| (j_iload_n q_234_67 rfl).trans <| (j_iaload q_234_68 js_o106).trans <| (if_pos g1).trans <| (j_i2l q_234_69).trans <| (j_lstore (l2 := [(2, 83), (0, x1), (0, x2), (0, x3), (0, x4), (1, js_w (σ 105 (js_w x2))), (9, 0), (1, js_w (σ 106 (js_w x2))), (9, 0), (1, js_w (σ 105 (js_w x3))), (9, 0), (1, js_w (σ 106 (js_w x3))), (9, 0), (9, 0), (9, 0)]) q_234_70 rfl (Nat.le_of_ble_eq_true rfl)).trans <| (j_iload_n q_234_72 rfl).trans <| (j_bi q_234_73 rfl).trans <| (j_cmpleB (t := 102) q_234_75 rfl ww_8).trans (js_ite ((j_lload q_234_78 rfl).trans <| (j_lconst0 q_234_80).trans <| (j_lgtB (t := 102) q_234_81 q_234_82 rfl wl_0).trans (js_ite (rfl) ((j_lload q_234_85 rfl).trans <| (j_lconst0 q_234_87).trans <| (j_lltB (t := 102) q_234_88 q_234_89 rfl wl_0).trans (js_ite (rfl) ((j_aload_n q_234_92 rfl).trans <| (j_bi q_234_93 rfl).trans <| (j_iload q_234_95 rfl).trans <| rfl))))) (rfl))) (rfl))) (rfl))))
theorem b_234_27 {E : js_E} {d : Nat} {σ : js_S} {x1 x2 x3 x4 : Int} : js_J E d 234 27 [(2, 83), (0, x1), (0, x2), (0, x3), (0, x4), (9, 0), (9, 0), (9, 0), (9, 0), (9, 0), (9, 0), (9, 0), (9, 0), (9, 0), (9, 0)] [] σ = js_J E d 234 31 [(2, 83), (0, x1), (0, x2), (0, x3), (0, x4), (9, 0), (9, 0), (9, 0), (9, 0), (9, 0), (9, 0), (9, 0), (9, 0), (9, 0), (9, 0)] [(0, x4), (0, 5), (2, 83)] σ :=
  (j_aload_n q_234_27 rfl).trans <| (j_iconst q_234_28).trans <| (j_iload q_234_29 rfl).trans <| rfl
theorem k_234_31 {E : js_E} {d : Nat} {σ σ2 : js_S} {x1 x2 x3 x4 z1 z2 : Int} (hd : 1 ≤ d) (hz : js_J E (d - 1) 199 0 [(2, 83), (0, z1), (0, z2)] [] σ = js_r0 E σ2) : js_J E d 234 31 [(2, 83), (0, x1), (0, x2), (0, x3), (0, x4), (9, 0), (9, 0), (9, 0), (9, 0), (9, 0), (9, 0), (9, 0), (9, 0), (9, 0), (9, 0)] [(0, z2), (0, z1), (2, 83)] σ = js_J E d 234 34 [(2, 83), (0, x1), (0, x2), (0, x3), (0, x4), (9, 0), (9, 0), (9, 0), (9, 0), (9, 0), (9, 0), (9, 0), (9, 0), (9, 0), (9, 0)] [] σ2 :=
  j_call0 (m := 0) (js_caV q_234_31 (js_Mo qy_234 qm_12_65)) (js_agV (av := [(0, z1), (0, z2)]) (st := []) rfl rfl js_o83 rfl) rfl rfl (by rw [ql_199]; exact Nat.le_of_ble_eq_true rfl) (Nat.le_of_ble_eq_true rfl) hd hz
theorem b_234_34 {E : js_E} {d : Nat} {σ : js_S} {x1 x2 x3 x4 : Int} : js_J E d 234 34 [(2, 83), (0, x1), (0, x2), (0, x3), (0, x4), (9, 0), (9, 0), (9, 0), (9, 0), (9, 0), (9, 0), (9, 0), (9, 0), (9, 0), (9, 0)] [] σ = js_r E (0, 0) σ :=
  (j_iconst q_234_34).trans <| j_ireturn q_234_35 qr_234
theorem k_234_97 {E : js_E} {d : Nat} {σ σ2 : js_S} {x1 x2 x3 x4 x5 x7 x9 x11 z1 z2 : Int} (hd : 1 ≤ d) (hz : js_J E (d - 1) 199 0 [(2, 83), (0, z1), (0, z2)] [] σ = js_r0 E σ2) : js_J E d 234 97 [(2, 83), (0, x1), (0, x2), (0, x3), (0, x4), (1, x5), (9, 0), (1, x7), (9, 0), (1, x9), (9, 0), (1, x11), (9, 0), (9, 0), (9, 0)] [(0, z2), (0, z1), (2, 83)] σ = js_J E d 234 100 [(2, 83), (0, x1), (0, x2), (0, x3), (0, x4), (1, x5), (9, 0), (1, x7), (9, 0), (1, x9), (9, 0), (1, x11), (9, 0), (9, 0), (9, 0)] [] σ2 :=
  j_call0 (m := 0) (js_caV q_234_97 (js_Mo qy_234 qm_12_65)) (js_agV (av := [(0, z1), (0, z2)]) (st := []) rfl rfl js_o83 rfl) rfl rfl (by rw [ql_199]; exact Nat.le_of_ble_eq_true rfl) (Nat.le_of_ble_eq_true rfl) hd hz
theorem b_234_100 {E : js_E} {d : Nat} {σ : js_S} {x1 x2 x3 x4 x5 x7 x9 x11 : Int} : js_J E d 234 100 [(2, 83), (0, x1), (0, x2), (0, x3), (0, x4), (1, x5), (9, 0), (1, x7), (9, 0), (1, x9), (9, 0), (1, x11), (9, 0), (9, 0), (9, 0)] [] σ = js_r E (0, 0) σ :=
  (j_iconst q_234_100).trans <| j_ireturn q_234_101 qr_234
theorem b_234_102 {E : js_E} {d : Nat} {σ : js_S} {x1 x2 x3 x4 x5 x7 x9 x11 : Int} (hd : 4 ≤ d) : js_J E d 234 102 [(2, 83), (0, x1), (0, x2), (0, x3), (0, x4), (1, x5), (9, 0), (1, x7), (9, 0), (1, x9), (9, 0), (1, x11), (9, 0), (9, 0), (9, 0)] [] σ = (if js_w x1 = 6 then js_J E d 234 129 [(2, 83), (0, x1), (0, x2), (0, x3), (0, x4), (1, x5), (9, 0), (1, x7), (9, 0), (1, x9), (9, 0), (1, x11), (9, 0), (9, 0), (9, 0)] [(1, x7 + x9), (1, x5 + x11), (1, x7 + x11), (1, x5 + x9), (2, 83)] σ else (if js_w x1 = 7 then js_J E d 234 162 [(2, 83), (0, x1), (0, x2), (0, x3), (0, x4), (1, x5), (9, 0), (1, x7), (9, 0), (1, x9), (9, 0), (1, x11), (9, 0), (9, 0), (9, 0)] [(1, x7 - x9), (1, x5 - x11), (1, x7 - x11), (1, x5 - x9), (2, 83)] σ else (if js_w x1 = 8 then js_J E d 234 195 [(2, 83), (0, x1), (0, x2), (0, x3), (0, x4), (1, x5), (9, 0), (1, x7), (9, 0), (1, x9), (9, 0), (1, x11), (9, 0), (9, 0), (9, 0)] [(1, x7 * x11), (1, x7 * x9), (1, x5 * x11), (1, x5 * x9), (2, 83)] σ else (if js_w x1 = 9 then (if js_l x9 = 0 then none else (if js_l x11 = 0 then none else (if js_l x9 = 0 then none else (if js_l x11 = 0 then none else js_J E d 234 228 [(2, 83), (0, x1), (0, x2), (0, x3), (0, x4), (1, x5), (9, 0), (1, x7), (9, 0), (1, x9), (9, 0), (1, x11), (9, 0), (9, 0), (9, 0)] [(1, (js_l x7).tdiv (js_l x11)), (1, (js_l x7).tdiv (js_l x9)), (1, (js_l x5).tdiv (js_l x11)), (1, (js_l x5).tdiv (js_l x9)), (2, 83)] σ)))) else (if js_l x5 < 0 then js_J E d 234 272 [(2, 83), (0, x1), (0, x2), (0, x3), (0, x4), (1, x5), (9, 0), (1, x7), (9, 0), (1, x9), (9, 0), (1, x11), (9, 0), (1, (if js_l (if 0 < js_l x11 then x11 else -x11) < js_l (if 0 < js_l x9 then x9 else -x9) then (if 0 < js_l x9 then x9 else -x9) else (if 0 < js_l x11 then x11 else -x11)) - 1), (9, 0)] [(1, -(if js_l (-x5) < js_l ((if js_l (if 0 < js_l x11 then x11 else -x11) < js_l (if 0 < js_l x9 then x9 else -x9) then (if 0 < js_l x9 then x9 else -x9) else (if 0 < js_l x11 then x11 else -x11)) - 1) then (-x5) else ((if js_l (if 0 < js_l x11 then x11 else -x11) < js_l (if 0 < js_l x9 then x9 else -x9) then (if 0 < js_l x9 then x9 else -x9) else (if 0 < js_l x11 then x11 else -x11)) - 1))), (2, 83)] σ else js_J E d 234 272 [(2, 83), (0, x1), (0, x2), (0, x3), (0, x4), (1, x5), (9, 0), (1, x7), (9, 0), (1, x9), (9, 0), (1, x11), (9, 0), (1, (if js_l (if 0 < js_l x11 then x11 else -x11) < js_l (if 0 < js_l x9 then x9 else -x9) then (if 0 < js_l x9 then x9 else -x9) else (if 0 < js_l x11 then x11 else -x11)) - 1), (9, 0)] [(1, 0), (2, 83)] σ))))) :=
  (j_iload_n q_234_102 rfl).trans <| (j_bi q_234_103 rfl).trans <| (j_cmpneB (t := 135) q_234_105 rfl ww_6).trans (js_ite ((j_aload_n q_234_108 rfl).trans <| (j_lload q_234_109 rfl).trans <| (j_lload q_234_111 rfl).trans <| (j_ladd q_234_113).trans <| (j_lload q_234_114 rfl).trans <| (j_lload q_234_116 rfl).trans <| (j_ladd q_234_118).trans <| (j_lload q_234_119 rfl).trans <| (j_lload q_234_121 rfl).trans <| (j_ladd q_234_123).trans <| (j_lload q_234_124 rfl).trans <| (j_lload q_234_126 rfl).trans <| (j_ladd q_234_128).trans <| rfl) ((j_iload_n q_234_135 rfl).trans <| (j_bi q_234_136 rfl).trans <| (j_cmpneB (t := 168) q_234_138 rfl ww_7).trans (js_ite ((j_aload_n q_234_141 rfl).trans <| (j_lload q_234_142 rfl).trans <| (j_lload q_234_144 rfl).trans <| (j_lsub q_234_146).trans <| (j_lload q_234_147 rfl).trans <| (j_lload q_234_149 rfl).trans <| (j_lsub q_234_151).trans <| (j_lload q_234_152 rfl).trans <| (j_lload q_234_154 rfl).trans <| (j_lsub q_234_156).trans <| (j_lload q_234_157 rfl).trans <| (j_lload q_234_159 rfl).trans <| (j_lsub q_234_161).trans <| rfl) ((j_iload_n q_234_168 rfl).trans <| (j_bi q_234_169 rfl).trans <| (j_cmpneB (t := 201) q_234_171 rfl ww_8).trans (js_ite ((j_aload_n q_234_174 rfl).trans <| (j_lload q_234_175 rfl).trans <| (j_lload q_234_177 rfl).trans <| (j_lmul q_234_179).trans <| (j_lload q_234_180 rfl).trans <| (j_lload q_234_182 rfl).trans <| (j_lmul q_234_184).trans <| (j_lload q_234_185 rfl).trans <| (j_lload q_234_187 rfl).trans <| (j_lmul q_234_189).trans <| (j_lload q_234_190 rfl).trans <| (j_lload q_234_192 rfl).trans <| (j_lmul q_234_194).trans <| rfl) ((j_iload_n q_234_201 rfl).trans <| (j_bi q_234_202 rfl).trans <| (j_cmpneB (t := 234) q_234_204 rfl ww_9).trans (js_ite ((j_aload_n q_234_207 rfl).trans <| (j_lload q_234_208 rfl).trans <| (j_lload q_234_210 rfl).trans <| (j_ldiv q_234_212).trans <| js_ite rfl <| (j_lload q_234_213 rfl).trans <| (j_lload q_234_215 rfl).trans <| (j_ldiv q_234_217).trans <| js_ite rfl <| (j_lload q_234_218 rfl).trans <| (j_lload q_234_220 rfl).trans <| (j_ldiv q_234_222).trans <| js_ite rfl <| (j_lload q_234_223 rfl).trans <| (j_lload q_234_225 rfl).trans <| (j_ldiv q_234_227).trans <| js_ite rfl <| rfl) ((j_lload q_234_234 rfl).trans <| (j_labs (js_clS q_234_236 (js_Mo qy_234 qm_12_250)) (Nat.le_of_ble_eq_true rfl) hd).trans <| (j_lload q_234_239 rfl).trans <| (j_labs (js_clS q_234_241 (js_Mo qy_234 qm_12_250)) (Nat.le_of_ble_eq_true rfl) hd).trans <| (j_lmax (js_clS q_234_244 (js_Mo qy_234 qm_12_241)) (Nat.le_of_ble_eq_true rfl) hd).trans <| (j_lconst1 q_234_247).trans <| (j_lsub q_234_248).trans <| (j_lstore (l2 := [(2, 83), (0, x1), (0, x2), (0, x3), (0, x4), (1, x5), (9, 0), (1, x7), (9, 0), (1, x9), (9, 0), (1, x11), (9, 0), (1, (if js_l (if 0 < js_l x11 then x11 else -x11) < js_l (if 0 < js_l x9 then x9 else -x9) then (if 0 < js_l x9 then x9 else -x9) else (if 0 < js_l x11 then x11 else -x11)) - 1), (9, 0)]) q_234_249 rfl (Nat.le_of_ble_eq_true rfl)).trans <| (j_aload_n q_234_251 rfl).trans <| (j_lload q_234_252 rfl).trans <| (j_lconst0 q_234_254).trans <| (j_lgeB (t := 271) q_234_255 q_234_256 rfl wl_0).trans (js_ite ((j_lload q_234_259 rfl).trans <| (j_lload q_234_261 rfl).trans <| (j_lneg q_234_263).trans <| (j_lmin (js_clS q_234_264 (js_Mo qy_234 qm_12_234)) (Nat.le_of_ble_eq_true rfl) hd).trans <| (j_lneg q_234_267).trans <| (j_goto (t := 272) q_234_268 rfl).trans <| rfl) ((j_lconst0 q_234_271).trans <| rfl))))))))))
theorem k_234_129 {E : js_E} {d : Nat} {σ σ2 : js_S} {x1 x2 x3 x4 x5 x7 x9 x11 z1 z2 z3 z4 : Int} (hd : 1 ≤ d) (hz : js_J E (d - 1) 235 0 [(2, 83), (1, z1), (9, 0), (1, z2), (9, 0), (1, z3), (9, 0), (1, z4), (9, 0)] [] σ = js_r0 E σ2) : js_J E d 234 129 [(2, 83), (0, x1), (0, x2), (0, x3), (0, x4), (1, x5), (9, 0), (1, x7), (9, 0), (1, x9), (9, 0), (1, x11), (9, 0), (9, 0), (9, 0)] [(1, z4), (1, z3), (1, z2), (1, z1), (2, 83)] σ = js_J E d 234 132 [(2, 83), (0, x1), (0, x2), (0, x3), (0, x4), (1, x5), (9, 0), (1, x7), (9, 0), (1, x9), (9, 0), (1, x11), (9, 0), (9, 0), (9, 0)] [] σ2 :=
  j_call0 (m := 0) (js_caV q_234_129 (js_Mo qy_234 qm_12_246)) (js_agV (av := [(1, z1), (1, z2), (1, z3), (1, z4)]) (st := []) rfl rfl js_o83 rfl) rfl rfl (by rw [ql_235]; exact Nat.le_of_ble_eq_true rfl) (Nat.le_of_ble_eq_true rfl) hd hz
theorem b_234_132 {E : js_E} {d : Nat} {σ : js_S} {x1 x2 x3 x4 x5 x7 x9 x11 : Int} : js_J E d 234 132 [(2, 83), (0, x1), (0, x2), (0, x3), (0, x4), (1, x5), (9, 0), (1, x7), (9, 0), (1, x9), (9, 0), (1, x11), (9, 0), (9, 0), (9, 0)] [] σ = js_J E d 234 297 [(2, 83), (0, x1), (0, x2), (0, x3), (0, x4), (1, x5), (9, 0), (1, x7), (9, 0), (1, x9), (9, 0), (1, x11), (9, 0), (9, 0), (9, 0)] [] σ :=
  (j_goto (t := 297) q_234_132 rfl).trans <| rfl
theorem k_234_162 {E : js_E} {d : Nat} {σ σ2 : js_S} {x1 x2 x3 x4 x5 x7 x9 x11 z1 z2 z3 z4 : Int} (hd : 1 ≤ d) (hz : js_J E (d - 1) 235 0 [(2, 83), (1, z1), (9, 0), (1, z2), (9, 0), (1, z3), (9, 0), (1, z4), (9, 0)] [] σ = js_r0 E σ2) : js_J E d 234 162 [(2, 83), (0, x1), (0, x2), (0, x3), (0, x4), (1, x5), (9, 0), (1, x7), (9, 0), (1, x9), (9, 0), (1, x11), (9, 0), (9, 0), (9, 0)] [(1, z4), (1, z3), (1, z2), (1, z1), (2, 83)] σ = js_J E d 234 165 [(2, 83), (0, x1), (0, x2), (0, x3), (0, x4), (1, x5), (9, 0), (1, x7), (9, 0), (1, x9), (9, 0), (1, x11), (9, 0), (9, 0), (9, 0)] [] σ2 :=
  j_call0 (m := 0) (js_caV q_234_162 (js_Mo qy_234 qm_12_246)) (js_agV (av := [(1, z1), (1, z2), (1, z3), (1, z4)]) (st := []) rfl rfl js_o83 rfl) rfl rfl (by rw [ql_235]; exact Nat.le_of_ble_eq_true rfl) (Nat.le_of_ble_eq_true rfl) hd hz
theorem b_234_165 {E : js_E} {d : Nat} {σ : js_S} {x1 x2 x3 x4 x5 x7 x9 x11 : Int} : js_J E d 234 165 [(2, 83), (0, x1), (0, x2), (0, x3), (0, x4), (1, x5), (9, 0), (1, x7), (9, 0), (1, x9), (9, 0), (1, x11), (9, 0), (9, 0), (9, 0)] [] σ = js_J E d 234 297 [(2, 83), (0, x1), (0, x2), (0, x3), (0, x4), (1, x5), (9, 0), (1, x7), (9, 0), (1, x9), (9, 0), (1, x11), (9, 0), (9, 0), (9, 0)] [] σ :=
  (j_goto (t := 297) q_234_165 rfl).trans <| rfl
theorem k_234_195 {E : js_E} {d : Nat} {σ σ2 : js_S} {x1 x2 x3 x4 x5 x7 x9 x11 z1 z2 z3 z4 : Int} (hd : 1 ≤ d) (hz : js_J E (d - 1) 235 0 [(2, 83), (1, z1), (9, 0), (1, z2), (9, 0), (1, z3), (9, 0), (1, z4), (9, 0)] [] σ = js_r0 E σ2) : js_J E d 234 195 [(2, 83), (0, x1), (0, x2), (0, x3), (0, x4), (1, x5), (9, 0), (1, x7), (9, 0), (1, x9), (9, 0), (1, x11), (9, 0), (9, 0), (9, 0)] [(1, z4), (1, z3), (1, z2), (1, z1), (2, 83)] σ = js_J E d 234 198 [(2, 83), (0, x1), (0, x2), (0, x3), (0, x4), (1, x5), (9, 0), (1, x7), (9, 0), (1, x9), (9, 0), (1, x11), (9, 0), (9, 0), (9, 0)] [] σ2 :=
  j_call0 (m := 0) (js_caV q_234_195 (js_Mo qy_234 qm_12_246)) (js_agV (av := [(1, z1), (1, z2), (1, z3), (1, z4)]) (st := []) rfl rfl js_o83 rfl) rfl rfl (by rw [ql_235]; exact Nat.le_of_ble_eq_true rfl) (Nat.le_of_ble_eq_true rfl) hd hz
theorem b_234_198 {E : js_E} {d : Nat} {σ : js_S} {x1 x2 x3 x4 x5 x7 x9 x11 : Int} : js_J E d 234 198 [(2, 83), (0, x1), (0, x2), (0, x3), (0, x4), (1, x5), (9, 0), (1, x7), (9, 0), (1, x9), (9, 0), (1, x11), (9, 0), (9, 0), (9, 0)] [] σ = js_J E d 234 297 [(2, 83), (0, x1), (0, x2), (0, x3), (0, x4), (1, x5), (9, 0), (1, x7), (9, 0), (1, x9), (9, 0), (1, x11), (9, 0), (9, 0), (9, 0)] [] σ :=
  (j_goto (t := 297) q_234_198 rfl).trans <| rfl
theorem k_234_228 {E : js_E} {d : Nat} {σ σ2 : js_S} {x1 x2 x3 x4 x5 x7 x9 x11 z1 z2 z3 z4 : Int} (hd : 1 ≤ d) (hz : js_J E (d - 1) 235 0 [(2, 83), (1, z1), (9, 0), (1, z2), (9, 0), (1, z3), (9, 0), (1, z4), (9, 0)] [] σ = js_r0 E σ2) : js_J E d 234 228 [(2, 83), (0, x1), (0, x2), (0, x3), (0, x4), (1, x5), (9, 0), (1, x7), (9, 0), (1, x9), (9, 0), (1, x11), (9, 0), (9, 0), (9, 0)] [(1, z4), (1, z3), (1, z2), (1, z1), (2, 83)] σ = js_J E d 234 231 [(2, 83), (0, x1), (0, x2), (0, x3), (0, x4), (1, x5), (9, 0), (1, x7), (9, 0), (1, x9), (9, 0), (1, x11), (9, 0), (9, 0), (9, 0)] [] σ2 :=
  j_call0 (m := 0) (js_caV q_234_228 (js_Mo qy_234 qm_12_246)) (js_agV (av := [(1, z1), (1, z2), (1, z3), (1, z4)]) (st := []) rfl rfl js_o83 rfl) rfl rfl (by rw [ql_235]; exact Nat.le_of_ble_eq_true rfl) (Nat.le_of_ble_eq_true rfl) hd hz
theorem b_234_231 {E : js_E} {d : Nat} {σ : js_S} {x1 x2 x3 x4 x5 x7 x9 x11 : Int} : js_J E d 234 231 [(2, 83), (0, x1), (0, x2), (0, x3), (0, x4), (1, x5), (9, 0), (1, x7), (9, 0), (1, x9), (9, 0), (1, x11), (9, 0), (9, 0), (9, 0)] [] σ = js_J E d 234 297 [(2, 83), (0, x1), (0, x2), (0, x3), (0, x4), (1, x5), (9, 0), (1, x7), (9, 0), (1, x9), (9, 0), (1, x11), (9, 0), (9, 0), (9, 0)] [] σ :=
  (j_goto (t := 297) q_234_231 rfl).trans <| rfl
theorem b_234_272 {E : js_E} {d : Nat} {σ : js_S} {x1 x2 x3 x4 x5 x7 x9 x11 x13 z1 : Int} (hd : 4 ≤ d) : js_J E d 234 272 [(2, 83), (0, x1), (0, x2), (0, x3), (0, x4), (1, x5), (9, 0), (1, x7), (9, 0), (1, x9), (9, 0), (1, x11), (9, 0), (1, x13), (9, 0)] [(1, z1), (2, 83)] σ = (if 0 < js_l x7 then js_J E d 234 294 [(2, 83), (0, x1), (0, x2), (0, x3), (0, x4), (1, x5), (9, 0), (1, x7), (9, 0), (1, x9), (9, 0), (1, x11), (9, 0), (1, x13), (9, 0)] [(1, if js_l x7 < js_l x13 then x7 else x13), (2, 83)] (js_up σ 83 42 z1) else js_J E d 234 294 [(2, 83), (0, x1), (0, x2), (0, x3), (0, x4), (1, x5), (9, 0), (1, x7), (9, 0), (1, x9), (9, 0), (1, x11), (9, 0), (1, x13), (9, 0)] [(1, 0), (2, 83)] (js_up σ 83 42 z1)) :=
  (j_putL (ji := 42) q_234_272 (js_Fo qy_234 qf_12_237) rfl js_o83 rfl rfl rfl).trans <| (j_aload_n q_234_275 rfl).trans <| (j_lload q_234_276 rfl).trans <| (j_lconst0 q_234_278).trans <| (j_lleB (t := 293) q_234_279 q_234_280 rfl wl_0).trans (js_ite ((j_lload q_234_283 rfl).trans <| (j_lload q_234_285 rfl).trans <| (j_lmin (js_clS q_234_287 (js_Mo qy_234 qm_12_234)) (Nat.le_of_ble_eq_true rfl) hd).trans <| (j_goto (t := 294) q_234_290 rfl).trans <| rfl) ((j_lconst0 q_234_293).trans <| rfl))
theorem b_234_294 {E : js_E} {d : Nat} {σ : js_S} {x1 x2 x3 x4 x5 x7 x9 x11 x13 z1 : Int} : js_J E d 234 294 [(2, 83), (0, x1), (0, x2), (0, x3), (0, x4), (1, x5), (9, 0), (1, x7), (9, 0), (1, x9), (9, 0), (1, x11), (9, 0), (1, x13), (9, 0)] [(1, z1), (2, 83)] σ = js_J E d 234 297 [(2, 83), (0, x1), (0, x2), (0, x3), (0, x4), (1, x5), (9, 0), (1, x7), (9, 0), (1, x9), (9, 0), (1, x11), (9, 0), (1, x13), (9, 0)] [] (js_up σ 83 43 z1) :=
  (j_putL (ji := 43) q_234_294 (js_Fo qy_234 qf_12_243) rfl js_o83 rfl rfl rfl).trans <| rfl
theorem b_234_297 {E : js_E} {d : Nat} {σ : js_S} {x1 x2 x3 x4 x5 x7 x9 x11 : Int} {ux13 : js_v} : js_J E d 234 297 [(2, 83), (0, x1), (0, x2), (0, x3), (0, x4), (1, x5), (9, 0), (1, x7), (9, 0), (1, x9), (9, 0), (1, x11), (9, 0), ux13, (9, 0)] [] σ = (if js_l (σ 83 42) < (-2000000000) then js_J E d 234 319 [(2, 83), (0, x1), (0, x2), (0, x3), (0, x4), (1, x5), (9, 0), (1, x7), (9, 0), (1, x9), (9, 0), (1, x11), (9, 0), ux13, (9, 0)] [] σ else (if 2000000000 < js_l (σ 83 43) then js_J E d 234 319 [(2, 83), (0, x1), (0, x2), (0, x3), (0, x4), (1, x5), (9, 0), (1, x7), (9, 0), (1, x9), (9, 0), (1, x11), (9, 0), ux13, (9, 0)] [] σ else js_J E d 234 327 [(2, 83), (0, x1), (0, x2), (0, x3), (0, x4), (1, x5), (9, 0), (1, x7), (9, 0), (1, x9), (9, 0), (1, x11), (9, 0), ux13, (9, 0)] [] σ)) :=
  (j_aload_n q_234_297 rfl).trans <| (j_get (ji := 42) (v := (1, σ 83 42)) q_234_298 (js_Fo qy_234 qf_12_237) js_o83 rfl rfl rfl rfl).trans <| (j_ldc2 (v := (1, (-2000000000))) q_234_301 (js_Co qy_234 qc_12_254)).trans <| (j_lltB (t := 319) q_234_304 q_234_305 rfl wl_m2000000000).trans (js_ite (rfl) ((j_aload_n q_234_308 rfl).trans <| (j_get (ji := 43) (v := (1, σ 83 43)) q_234_309 (js_Fo qy_234 qf_12_243) js_o83 rfl rfl rfl rfl).trans <| (j_ldc2 (v := (1, 2000000000)) q_234_312 (js_Co qy_234 qc_12_56)).trans <| (j_lleB (t := 327) q_234_315 q_234_316 rfl wl_2000000000).trans (js_ite (rfl) (rfl))))
theorem b_234_319 {E : js_E} {d : Nat} {σ : js_S} {x1 x2 x3 x4 x5 x7 x9 x11 : Int} {ux13 : js_v} : js_J E d 234 319 [(2, 83), (0, x1), (0, x2), (0, x3), (0, x4), (1, x5), (9, 0), (1, x7), (9, 0), (1, x9), (9, 0), (1, x11), (9, 0), ux13, (9, 0)] [] σ = js_J E d 234 324 [(2, 83), (0, x1), (0, x2), (0, x3), (0, x4), (1, x5), (9, 0), (1, x7), (9, 0), (1, x9), (9, 0), (1, x11), (9, 0), ux13, (9, 0)] [(0, x4), (0, 8), (2, 83)] σ :=
  (j_aload_n q_234_319 rfl).trans <| (j_bi q_234_320 rfl).trans <| (j_iload q_234_322 rfl).trans <| rfl
theorem k_234_324 {E : js_E} {d : Nat} {σ σ2 : js_S} {x1 x2 x3 x4 x5 x7 x9 x11 z1 z2 : Int} {ux13 : js_v} (hd : 1 ≤ d) (hz : js_J E (d - 1) 199 0 [(2, 83), (0, z1), (0, z2)] [] σ = js_r0 E σ2) : js_J E d 234 324 [(2, 83), (0, x1), (0, x2), (0, x3), (0, x4), (1, x5), (9, 0), (1, x7), (9, 0), (1, x9), (9, 0), (1, x11), (9, 0), ux13, (9, 0)] [(0, z2), (0, z1), (2, 83)] σ = js_J E d 234 327 [(2, 83), (0, x1), (0, x2), (0, x3), (0, x4), (1, x5), (9, 0), (1, x7), (9, 0), (1, x9), (9, 0), (1, x11), (9, 0), ux13, (9, 0)] [] σ2 :=
  j_call0 (m := 0) (js_caV q_234_324 (js_Mo qy_234 qm_12_65)) (js_agV (av := [(0, z1), (0, z2)]) (st := []) rfl rfl js_o83 rfl) rfl rfl (by rw [ql_199]; exact Nat.le_of_ble_eq_true rfl) (Nat.le_of_ble_eq_true rfl) hd hz
theorem b_234_327 {E : js_E} {d : Nat} {σ : js_S} {x1 x2 x3 x4 x5 x7 x9 x11 : Int} {ux13 : js_v} : js_J E d 234 327 [(2, 83), (0, x1), (0, x2), (0, x3), (0, x4), (1, x5), (9, 0), (1, x7), (9, 0), (1, x9), (9, 0), (1, x11), (9, 0), ux13, (9, 0)] [] σ = js_J E d 234 341 [(2, 83), (0, x1), (0, x2), (0, x3), (0, x4), (1, x5), (9, 0), (1, x7), (9, 0), (1, x9), (9, 0), (1, x11), (9, 0), ux13, (9, 0)] [(0, x1), (0, x3), (0, x2), (1, σ 83 43), (1, σ 83 42), (0, 0), (0, 4), (2, 83)] σ :=
  (j_aload_n q_234_327 rfl).trans <| (j_iconst q_234_328).trans <| (j_iconst q_234_329).trans <| (j_aload_n q_234_330 rfl).trans <| (j_get (ji := 42) (v := (1, σ 83 42)) q_234_331 (js_Fo qy_234 qf_12_237) js_o83 rfl rfl rfl rfl).trans <| (j_aload_n q_234_334 rfl).trans <| (j_get (ji := 43) (v := (1, σ 83 43)) q_234_335 (js_Fo qy_234 qf_12_243) js_o83 rfl rfl rfl rfl).trans <| (j_iload_n q_234_338 rfl).trans <| (j_iload_n q_234_339 rfl).trans <| (j_iload_n q_234_340 rfl).trans <| rfl
theorem k_234_341 {E : js_E} {d : Nat} {σ σ2 : js_S} {x1 x2 x3 x4 x5 x7 x9 x11 z1 z2 z3 z4 z5 z6 z7 : Int} {ux13 : js_v} {v : Int} (hd : 1 ≤ d) (hz : js_J E (d - 1) 217 0 [(2, 83), (0, z1), (0, z2), (1, z3), (9, 0), (1, z4), (9, 0), (0, z5), (0, z6), (0, z7), (9, 0)] [] σ = js_r E (0, v) σ2) : js_J E d 234 341 [(2, 83), (0, x1), (0, x2), (0, x3), (0, x4), (1, x5), (9, 0), (1, x7), (9, 0), (1, x9), (9, 0), (1, x11), (9, 0), ux13, (9, 0)] [(0, z7), (0, z6), (0, z5), (1, z4), (1, z3), (0, z2), (0, z1), (2, 83)] σ = js_J E d 234 344 [(2, 83), (0, x1), (0, x2), (0, x3), (0, x4), (1, x5), (9, 0), (1, x7), (9, 0), (1, x9), (9, 0), (1, x11), (9, 0), ux13, (9, 0)] [(0, v)] σ2 :=
  j_call (m := 1) (js_caV q_234_341 (js_Mo qy_234 qm_12_208)) (js_agV (av := [(0, z1), (0, z2), (1, z3), (1, z4), (0, z5), (0, z6), (0, z7)]) (st := []) rfl rfl js_o83 rfl) rfl rfl (by rw [ql_217]; exact Nat.le_of_ble_eq_true rfl) (Nat.le_of_ble_eq_true rfl) hd hz
theorem b_234_344 {E : js_E} {d : Nat} {σ : js_S} {x1 x2 x3 x4 x5 x7 x9 x11 z0 : Int} {ux13 : js_v} : js_J E d 234 344 [(2, 83), (0, x1), (0, x2), (0, x3), (0, x4), (1, x5), (9, 0), (1, x7), (9, 0), (1, x9), (9, 0), (1, x11), (9, 0), ux13, (9, 0)] [(0, z0)] σ = js_r E (0, z0) σ :=
  j_ireturn q_234_344 qr_234
-- 235: VitalTwinModel.ends (JJJJ)V
theorem b_235_0 {E : js_E} {d : Nat} {σ : js_S} {x1 x3 x5 x7 : Int} (hd : 4 ≤ d) : js_J E d 235 0 [(2, 83), (1, x1), (9, 0), (1, x3), (9, 0), (1, x5), (9, 0), (1, x7), (9, 0)] [] σ = js_r0 E (js_up (js_up σ 83 42 (if js_l (if js_l x7 < js_l x5 then x7 else x5) < js_l (if js_l x3 < js_l x1 then x3 else x1) then (if js_l x7 < js_l x5 then x7 else x5) else (if js_l x3 < js_l x1 then x3 else x1))) 83 43 (if js_l (if js_l x7 < js_l x5 then x5 else x7) < js_l (if js_l x3 < js_l x1 then x1 else x3) then (if js_l x3 < js_l x1 then x1 else x3) else (if js_l x7 < js_l x5 then x5 else x7))) :=
  (j_aload_n q_235_0 rfl).trans <| (j_lload_n q_235_1 rfl).trans <| (j_lload_n q_235_2 rfl).trans <| (j_lmin (js_clS q_235_3 (js_Mo qy_235 qm_12_234)) (Nat.le_of_ble_eq_true rfl) hd).trans <| (j_lload q_235_6 rfl).trans <| (j_lload q_235_8 rfl).trans <| (j_lmin (js_clS q_235_10 (js_Mo qy_235 qm_12_234)) (Nat.le_of_ble_eq_true rfl) hd).trans <| (j_lmin (js_clS q_235_13 (js_Mo qy_235 qm_12_234)) (Nat.le_of_ble_eq_true rfl) hd).trans <| (j_putL (ji := 42) q_235_16 (js_Fo qy_235 qf_12_237) rfl js_o83 rfl rfl rfl).trans <| (j_aload_n q_235_19 rfl).trans <| (j_lload_n q_235_20 rfl).trans <| (j_lload_n q_235_21 rfl).trans <| (j_lmax (js_clS q_235_22 (js_Mo qy_235 qm_12_241)) (Nat.le_of_ble_eq_true rfl) hd).trans <| (j_lload q_235_25 rfl).trans <| (j_lload q_235_27 rfl).trans <| (j_lmax (js_clS q_235_29 (js_Mo qy_235 qm_12_241)) (Nat.le_of_ble_eq_true rfl) hd).trans <| (j_lmax (js_clS q_235_32 (js_Mo qy_235 qm_12_241)) (Nat.le_of_ble_eq_true rfl) hd).trans <| (j_putL (ji := 43) q_235_35 (js_Fo qy_235 qf_12_243) rfl js_o83 rfl rfl rfl).trans <| j_return q_235_38 qr_235
-- 236: VitalTwinModel.logic (IIII)I
theorem b_236_0 {E : js_E} {d : Nat} {σ : js_S} {x1 x2 x3 x4 : Int} : js_J E d 236 0 [(2, 83), (0, x1), (0, x2), (0, x3), (0, x4)] [] σ = (if 0 < js_w (σ 83 9) then js_r E (0, 0) σ else (if 0 ≤ js_w x2 ∧ js_w x2 < 66000 then (if js_w (σ 101 (js_w x2)) = 1 then (if 0 ≤ js_w x3 ∧ js_w x3 < 66000 then (if js_w (σ 101 (js_w x3)) = 1 then js_J E d 236 36 [(2, 83), (0, x1), (0, x2), (0, x3), (0, x4)] [] σ else js_J E d 236 29 [(2, 83), (0, x1), (0, x2), (0, x3), (0, x4)] [] σ) else none) else js_J E d 236 29 [(2, 83), (0, x1), (0, x2), (0, x3), (0, x4)] [] σ) else none)) :=
  (j_aload_n q_236_0 rfl).trans <| (j_get (ji := 9) (v := (0, σ 83 9)) q_236_1 (js_Fo qy_236 qf_12_22) js_o83 rfl rfl rfl rfl).trans <| (j_ifle (t := 9) q_236_4 rfl).trans (js_ite ((j_iconst q_236_7).trans <| j_ireturn q_236_8 qr_236) ((j_aload_n q_236_9 rfl).trans <| (j_get (ji := 35) (v := (2, 101)) q_236_10 (js_Fo qy_236 qf_12_172) js_o83 rfl rfl rfl rfl).trans <| (j_iload_n q_236_13 rfl).trans <| (j_iaload q_236_14 js_o101).trans <| js_itp fun g0 => (j_iconst q_236_15).trans <| (j_cmpneB (t := 29) q_236_16 rfl ww_1).trans (js_ite ((j_aload_n q_236_19 rfl).trans <| (j_get (ji := 35) (v := (2, 101)) q_236_20 (js_Fo qy_236 qf_12_172) js_o83 rfl rfl rfl rfl).trans <| (j_iload_n q_236_23 rfl).trans <| (j_iaload q_236_24 js_o101).trans <| js_itp fun g1 => (j_iconst q_236_25).trans <| (j_cmpeqB (t := 36) q_236_26 rfl ww_1).trans (js_ite (rfl) (rfl))) (rfl))))
theorem b_236_29 {E : js_E} {d : Nat} {σ : js_S} {x1 x2 x3 x4 : Int} : js_J E d 236 29 [(2, 83), (0, x1), (0, x2), (0, x3), (0, x4)] [] σ = js_J E d 236 33 [(2, 83), (0, x1), (0, x2), (0, x3), (0, x4)] [(0, x4), (0, 5), (2, 83)] σ :=
  (j_aload_n q_236_29 rfl).trans <| (j_iconst q_236_30).trans <| (j_iload q_236_31 rfl).trans <| rfl
theorem k_236_33 {E : js_E} {d : Nat} {σ σ2 : js_S} {x1 x2 x3 x4 z1 z2 : Int} (hd : 1 ≤ d) (hz : js_J E (d - 1) 199 0 [(2, 83), (0, z1), (0, z2)] [] σ = js_r0 E σ2) : js_J E d 236 33 [(2, 83), (0, x1), (0, x2), (0, x3), (0, x4)] [(0, z2), (0, z1), (2, 83)] σ = js_J E d 236 36 [(2, 83), (0, x1), (0, x2), (0, x3), (0, x4)] [] σ2 :=
  j_call0 (m := 0) (js_caV q_236_33 (js_Mo qy_236 qm_12_65)) (js_agV (av := [(0, z1), (0, z2)]) (st := []) rfl rfl js_o83 rfl) rfl rfl (by rw [ql_199]; exact Nat.le_of_ble_eq_true rfl) (Nat.le_of_ble_eq_true rfl) hd hz
theorem b_236_36 {E : js_E} {d : Nat} {σ : js_S} {x1 x2 x3 x4 : Int} : js_J E d 236 36 [(2, 83), (0, x1), (0, x2), (0, x3), (0, x4)] [] σ = js_J E d 236 44 [(2, 83), (0, x1), (0, x2), (0, x3), (0, x4)] [(0, 0), (0, x3), (0, x2), (1, 1), (1, 0), (0, 1), (0, x1), (2, 83)] σ :=
  (j_aload_n q_236_36 rfl).trans <| (j_iload_n q_236_37 rfl).trans <| (j_iconst q_236_38).trans <| (j_lconst0 q_236_39).trans <| (j_lconst1 q_236_40).trans <| (j_iload_n q_236_41 rfl).trans <| (j_iload_n q_236_42 rfl).trans <| (j_iconst q_236_43).trans <| rfl
theorem k_236_44 {E : js_E} {d : Nat} {σ σ2 : js_S} {x1 x2 x3 x4 z1 z2 z3 z4 z5 z6 z7 : Int} {v : Int} (hd : 1 ≤ d) (hz : js_J E (d - 1) 217 0 [(2, 83), (0, z1), (0, z2), (1, z3), (9, 0), (1, z4), (9, 0), (0, z5), (0, z6), (0, z7), (9, 0)] [] σ = js_r E (0, v) σ2) : js_J E d 236 44 [(2, 83), (0, x1), (0, x2), (0, x3), (0, x4)] [(0, z7), (0, z6), (0, z5), (1, z4), (1, z3), (0, z2), (0, z1), (2, 83)] σ = js_J E d 236 47 [(2, 83), (0, x1), (0, x2), (0, x3), (0, x4)] [(0, v)] σ2 :=
  j_call (m := 1) (js_caV q_236_44 (js_Mo qy_236 qm_12_208)) (js_agV (av := [(0, z1), (0, z2), (1, z3), (1, z4), (0, z5), (0, z6), (0, z7)]) (st := []) rfl rfl js_o83 rfl) rfl rfl (by rw [ql_217]; exact Nat.le_of_ble_eq_true rfl) (Nat.le_of_ble_eq_true rfl) hd hz
theorem b_236_47 {E : js_E} {d : Nat} {σ : js_S} {x1 x2 x3 x4 z0 : Int} : js_J E d 236 47 [(2, 83), (0, x1), (0, x2), (0, x3), (0, x4)] [(0, z0)] σ = js_r E (0, z0) σ :=
  j_ireturn q_236_47 qr_236
-- 237: VitalTwinModel.truth ()I
theorem b_237_0 {E : js_E} {d : Nat} {σ : js_S} : js_J E d 237 0 [(2, 83), (9, 0), (9, 0)] [] σ = js_J E d 237 6 [(2, 83), (0, σ 83 6), (9, 0)] [(2, 83)] σ :=
  (j_aload_n q_237_0 rfl).trans <| (j_get (ji := 6) (v := (0, σ 83 6)) q_237_1 (js_Fo qy_237 qf_12_35) js_o83 rfl rfl rfl rfl).trans <| (j_istore_n (l2 := [(2, 83), (0, σ 83 6), (9, 0)]) q_237_4 rfl (Nat.le_of_ble_eq_true rfl)).trans <| (j_aload_n q_237_5 rfl).trans <| rfl
theorem k_237_6 {E : js_E} {d : Nat} {σ σ2 : js_S} {x1 : Int} {v : Int} (hd : 1 ≤ d) (hz : js_J E (d - 1) 219 0 [(2, 83), (9, 0), (9, 0), (9, 0), (9, 0)] [] σ = js_r E (0, v) σ2) : js_J E d 237 6 [(2, 83), (0, x1), (9, 0)] [(2, 83)] σ = js_J E d 237 9 [(2, 83), (0, x1), (9, 0)] [(0, v)] σ2 :=
  j_call (m := 4) (js_caV q_237_6 (js_Mo qy_237 qm_12_193)) (js_agV (av := []) (st := []) rfl rfl js_o83 rfl) rfl rfl (by rw [ql_219]; exact Nat.le_of_ble_eq_true rfl) (Nat.le_of_ble_eq_true rfl) hd hz
theorem b_237_9 {E : js_E} {d : Nat} {σ : js_S} {x1 z0 : Int} : js_J E d 237 9 [(2, 83), (0, x1), (9, 0)] [(0, z0)] σ = (if js_w (σ 83 9) = 0 then (if 0 ≤ js_w z0 ∧ js_w z0 < 66000 then (if js_w (σ 101 (js_w z0)) = 1 then js_J E d 237 33 [(2, 83), (0, x1), (0, z0)] [] σ else js_J E d 237 30 [(2, 83), (0, x1), (0, z0)] [(0, x1), (0, 5), (2, 83)] σ) else none) else js_J E d 237 33 [(2, 83), (0, x1), (0, z0)] [] σ) :=
  (j_istore_n (l2 := [(2, 83), (0, x1), (0, z0)]) q_237_9 rfl (Nat.le_of_ble_eq_true rfl)).trans <| (j_aload_n q_237_10 rfl).trans <| (j_get (ji := 9) (v := (0, σ 83 9)) q_237_11 (js_Fo qy_237 qf_12_22) js_o83 rfl rfl rfl rfl).trans <| (j_ifne (t := 33) q_237_14 rfl).trans (js_ite ((j_aload_n q_237_17 rfl).trans <| (j_get (ji := 35) (v := (2, 101)) q_237_18 (js_Fo qy_237 qf_12_172) js_o83 rfl rfl rfl rfl).trans <| (j_iload_n q_237_21 rfl).trans <| (j_iaload q_237_22 js_o101).trans <| js_itp fun g0 => (j_iconst q_237_23).trans <| (j_cmpeqB (t := 33) q_237_24 rfl ww_1).trans (js_ite (rfl) ((j_aload_n q_237_27 rfl).trans <| (j_iconst q_237_28).trans <| (j_iload_n q_237_29 rfl).trans <| rfl))) (rfl))
theorem k_237_30 {E : js_E} {d : Nat} {σ σ2 : js_S} {x1 x2 z1 z2 : Int} (hd : 1 ≤ d) (hz : js_J E (d - 1) 199 0 [(2, 83), (0, z1), (0, z2)] [] σ = js_r0 E σ2) : js_J E d 237 30 [(2, 83), (0, x1), (0, x2)] [(0, z2), (0, z1), (2, 83)] σ = js_J E d 237 33 [(2, 83), (0, x1), (0, x2)] [] σ2 :=
  j_call0 (m := 0) (js_caV q_237_30 (js_Mo qy_237 qm_12_65)) (js_agV (av := [(0, z1), (0, z2)]) (st := []) rfl rfl js_o83 rfl) rfl rfl (by rw [ql_199]; exact Nat.le_of_ble_eq_true rfl) (Nat.le_of_ble_eq_true rfl) hd hz
theorem b_237_33 {E : js_E} {d : Nat} {σ : js_S} {x1 x2 : Int} : js_J E d 237 33 [(2, 83), (0, x1), (0, x2)] [] σ = js_r E (0, x2) σ :=
  (j_iload_n q_237_33 rfl).trans <| j_ireturn q_237_34 qr_237
-- 238: VitalTwinModel.choices ()I
theorem b_238_0 {E : js_E} {d : Nat} {σ : js_S} : js_J E d 238 0 [(2, 83), (9, 0), (9, 0), (9, 0), (9, 0), (9, 0), (9, 0), (9, 0), (9, 0)] [] σ = js_J E d 238 1 [(2, 83), (9, 0), (9, 0), (9, 0), (9, 0), (9, 0), (9, 0), (9, 0), (9, 0)] [(2, 83)] σ :=
  (j_aload_n q_238_0 rfl).trans <| rfl
theorem k_238_1 {E : js_E} {d : Nat} {σ σ2 : js_S} (hd : 1 ≤ d) (hz : js_J E (d - 1) 191 0 [(2, 83), (9, 0), (9, 0), (9, 0), (9, 0), (9, 0)] [] σ = js_r0 E σ2) : js_J E d 238 1 [(2, 83), (9, 0), (9, 0), (9, 0), (9, 0), (9, 0), (9, 0), (9, 0), (9, 0)] [(2, 83)] σ = js_J E d 238 4 [(2, 83), (9, 0), (9, 0), (9, 0), (9, 0), (9, 0), (9, 0), (9, 0), (9, 0)] [] σ2 :=
  j_call0 (m := 5) (js_caV q_238_1 (js_Mo qy_238 qm_12_68)) (js_agV (av := []) (st := []) rfl rfl js_o83 rfl) rfl rfl (by rw [ql_191]; exact Nat.le_of_ble_eq_true rfl) (Nat.le_of_ble_eq_true rfl) hd hz
theorem b_238_4 {E : js_E} {d : Nat} {σ : js_S} : js_J E d 238 4 [(2, 83), (9, 0), (9, 0), (9, 0), (9, 0), (9, 0), (9, 0), (9, 0), (9, 0)] [] σ = js_J E d 238 7 [(2, 83), (9, 0), (9, 0), (9, 0), (9, 0), (9, 0), (9, 0), (9, 0), (9, 0)] [(0, 40), (2, 83)] σ :=
  (j_aload_n q_238_4 rfl).trans <| (j_bi q_238_5 rfl).trans <| rfl
theorem k_238_7 {E : js_E} {d : Nat} {σ σ2 : js_S} {z1 : Int} (hd : 1 ≤ d) (hz : js_J E (d - 1) 207 0 [(2, 83), (0, z1)] [] σ = js_r0 E σ2) : js_J E d 238 7 [(2, 83), (9, 0), (9, 0), (9, 0), (9, 0), (9, 0), (9, 0), (9, 0), (9, 0)] [(0, z1), (2, 83)] σ = js_J E d 238 10 [(2, 83), (9, 0), (9, 0), (9, 0), (9, 0), (9, 0), (9, 0), (9, 0), (9, 0)] [] σ2 :=
  j_call0 (m := 0) (js_caV q_238_7 (js_Mo qy_238 qm_12_159)) (js_agV (av := [(0, z1)]) (st := []) rfl rfl js_o83 rfl) rfl rfl (by rw [ql_207]; exact Nat.le_of_ble_eq_true rfl) (Nat.le_of_ble_eq_true rfl) hd hz
theorem b_238_10 {E : js_E} {d : Nat} {σ : js_S} : js_J E d 238 10 [(2, 83), (9, 0), (9, 0), (9, 0), (9, 0), (9, 0), (9, 0), (9, 0), (9, 0)] [] σ = js_J E d 238 16 [(2, 83), (0, σ 83 6), (9, 0), (9, 0), (9, 0), (9, 0), (9, 0), (9, 0), (9, 0)] [(2, 83)] σ :=
  (j_aload_n q_238_10 rfl).trans <| (j_get (ji := 6) (v := (0, σ 83 6)) q_238_11 (js_Fo qy_238 qf_12_35) js_o83 rfl rfl rfl rfl).trans <| (j_istore_n (l2 := [(2, 83), (0, σ 83 6), (9, 0), (9, 0), (9, 0), (9, 0), (9, 0), (9, 0), (9, 0)]) q_238_14 rfl (Nat.le_of_ble_eq_true rfl)).trans <| (j_aload_n q_238_15 rfl).trans <| rfl
theorem k_238_16 {E : js_E} {d : Nat} {σ σ2 : js_S} {x1 : Int} {v : Int} (hd : 1 ≤ d) (hz : js_J E (d - 1) 219 0 [(2, 83), (9, 0), (9, 0), (9, 0), (9, 0)] [] σ = js_r E (0, v) σ2) : js_J E d 238 16 [(2, 83), (0, x1), (9, 0), (9, 0), (9, 0), (9, 0), (9, 0), (9, 0), (9, 0)] [(2, 83)] σ = js_J E d 238 19 [(2, 83), (0, x1), (9, 0), (9, 0), (9, 0), (9, 0), (9, 0), (9, 0), (9, 0)] [(0, v)] σ2 :=
  j_call (m := 4) (js_caV q_238_16 (js_Mo qy_238 qm_12_193)) (js_agV (av := []) (st := []) rfl rfl js_o83 rfl) rfl rfl (by rw [ql_219]; exact Nat.le_of_ble_eq_true rfl) (Nat.le_of_ble_eq_true rfl) hd hz
theorem b_238_19 {E : js_E} {d : Nat} {σ : js_S} {x1 z0 : Int} : js_J E d 238 19 [(2, 83), (0, x1), (9, 0), (9, 0), (9, 0), (9, 0), (9, 0), (9, 0), (9, 0)] [(0, z0)] σ = (if js_w (σ 83 9) = 0 then (if 0 ≤ js_w z0 ∧ js_w z0 < 66000 then (if js_w (σ 101 (js_w z0)) = 1 then js_J E d 238 47 [(2, 83), (0, x1), (0, z0), (9, 0), (9, 0), (9, 0), (9, 0), (9, 0), (9, 0)] [] σ else (if js_w (σ 101 (js_w z0)) = 2 then js_J E d 238 47 [(2, 83), (0, x1), (0, z0), (9, 0), (9, 0), (9, 0), (9, 0), (9, 0), (9, 0)] [] σ else js_J E d 238 53 [(2, 83), (0, x1), (0, z0), (9, 0), (9, 0), (9, 0), (9, 0), (9, 0), (9, 0)] [] σ)) else none) else js_J E d 238 53 [(2, 83), (0, x1), (0, z0), (9, 0), (9, 0), (9, 0), (9, 0), (9, 0), (9, 0)] [] σ) :=
  (j_istore_n (l2 := [(2, 83), (0, x1), (0, z0), (9, 0), (9, 0), (9, 0), (9, 0), (9, 0), (9, 0)]) q_238_19 rfl (Nat.le_of_ble_eq_true rfl)).trans <| (j_aload_n q_238_20 rfl).trans <| (j_get (ji := 9) (v := (0, σ 83 9)) q_238_21 (js_Fo qy_238 qf_12_22) js_o83 rfl rfl rfl rfl).trans <| (j_ifne (t := 53) q_238_24 rfl).trans (js_ite ((j_aload_n q_238_27 rfl).trans <| (j_get (ji := 35) (v := (2, 101)) q_238_28 (js_Fo qy_238 qf_12_172) js_o83 rfl rfl rfl rfl).trans <| (j_iload_n q_238_31 rfl).trans <| (j_iaload q_238_32 js_o101).trans <| js_itp fun g0 => (j_iconst q_238_33).trans <| (j_cmpeqB (t := 47) q_238_34 rfl ww_1).trans (js_ite (rfl) ((j_aload_n q_238_37 rfl).trans <| (j_get (ji := 35) (v := (2, 101)) q_238_38 (js_Fo qy_238 qf_12_172) js_o83 rfl rfl rfl rfl).trans <| (j_iload_n q_238_41 rfl).trans <| (j_iaload q_238_42 js_o101).trans <| (if_pos g0).trans <| (j_iconst q_238_43).trans <| (j_cmpneB (t := 53) q_238_44 rfl ww_2).trans (js_ite (rfl) (rfl))))) (rfl))
theorem b_238_47 {E : js_E} {d : Nat} {σ : js_S} {x1 x2 : Int} : js_J E d 238 47 [(2, 83), (0, x1), (0, x2), (9, 0), (9, 0), (9, 0), (9, 0), (9, 0), (9, 0)] [] σ = js_J E d 238 50 [(2, 83), (0, x1), (0, x2), (9, 0), (9, 0), (9, 0), (9, 0), (9, 0), (9, 0)] [(0, x1), (0, 5), (2, 83)] σ :=
  (j_aload_n q_238_47 rfl).trans <| (j_iconst q_238_48).trans <| (j_iload_n q_238_49 rfl).trans <| rfl
theorem k_238_50 {E : js_E} {d : Nat} {σ σ2 : js_S} {x1 x2 z1 z2 : Int} (hd : 1 ≤ d) (hz : js_J E (d - 1) 199 0 [(2, 83), (0, z1), (0, z2)] [] σ = js_r0 E σ2) : js_J E d 238 50 [(2, 83), (0, x1), (0, x2), (9, 0), (9, 0), (9, 0), (9, 0), (9, 0), (9, 0)] [(0, z2), (0, z1), (2, 83)] σ = js_J E d 238 53 [(2, 83), (0, x1), (0, x2), (9, 0), (9, 0), (9, 0), (9, 0), (9, 0), (9, 0)] [] σ2 :=
  j_call0 (m := 0) (js_caV q_238_50 (js_Mo qy_238 qm_12_65)) (js_agV (av := [(0, z1), (0, z2)]) (st := []) rfl rfl js_o83 rfl) rfl rfl (by rw [ql_199]; exact Nat.le_of_ble_eq_true rfl) (Nat.le_of_ble_eq_true rfl) hd hz
theorem b_238_53 {E : js_E} {d : Nat} {σ : js_S} {x1 x2 : Int} : js_J E d 238 53 [(2, 83), (0, x1), (0, x2), (9, 0), (9, 0), (9, 0), (9, 0), (9, 0), (9, 0)] [] σ = js_J E d 238 56 [(2, 83), (0, x1), (0, x2), (9, 0), (9, 0), (9, 0), (9, 0), (9, 0), (9, 0)] [(0, 41), (2, 83)] σ :=
  (j_aload_n q_238_53 rfl).trans <| (j_bi q_238_54 rfl).trans <| rfl
theorem k_238_56 {E : js_E} {d : Nat} {σ σ2 : js_S} {x1 x2 z1 : Int} (hd : 1 ≤ d) (hz : js_J E (d - 1) 211 0 [(2, 83), (0, z1)] [] σ = js_r0 E σ2) : js_J E d 238 56 [(2, 83), (0, x1), (0, x2), (9, 0), (9, 0), (9, 0), (9, 0), (9, 0), (9, 0)] [(0, z1), (2, 83)] σ = js_J E d 238 59 [(2, 83), (0, x1), (0, x2), (9, 0), (9, 0), (9, 0), (9, 0), (9, 0), (9, 0)] [] σ2 :=
  j_call0 (m := 0) (js_caV q_238_56 (js_Mo qy_238 qm_12_162)) (js_agV (av := [(0, z1)]) (st := []) rfl rfl js_o83 rfl) rfl rfl (by rw [ql_211]; exact Nat.le_of_ble_eq_true rfl) (Nat.le_of_ble_eq_true rfl) hd hz
theorem b_238_59 {E : js_E} {d : Nat} {σ : js_S} {x1 x2 : Int} : js_J E d 238 59 [(2, 83), (0, x1), (0, x2), (9, 0), (9, 0), (9, 0), (9, 0), (9, 0), (9, 0)] [] σ = js_J E d 238 62 [(2, 83), (0, x1), (0, x2), (9, 0), (9, 0), (9, 0), (9, 0), (9, 0), (9, 0)] [(0, 123), (2, 83)] σ :=
  (j_aload_n q_238_59 rfl).trans <| (j_bi q_238_60 rfl).trans <| rfl
theorem k_238_62 {E : js_E} {d : Nat} {σ σ2 : js_S} {x1 x2 z1 : Int} (hd : 1 ≤ d) (hz : js_J E (d - 1) 207 0 [(2, 83), (0, z1)] [] σ = js_r0 E σ2) : js_J E d 238 62 [(2, 83), (0, x1), (0, x2), (9, 0), (9, 0), (9, 0), (9, 0), (9, 0), (9, 0)] [(0, z1), (2, 83)] σ = js_J E d 238 65 [(2, 83), (0, x1), (0, x2), (9, 0), (9, 0), (9, 0), (9, 0), (9, 0), (9, 0)] [] σ2 :=
  j_call0 (m := 0) (js_caV q_238_62 (js_Mo qy_238 qm_12_159)) (js_agV (av := [(0, z1)]) (st := []) rfl rfl js_o83 rfl) rfl rfl (by rw [ql_207]; exact Nat.le_of_ble_eq_true rfl) (Nat.le_of_ble_eq_true rfl) hd hz
theorem b_238_65 {E : js_E} {d : Nat} {σ : js_S} {x1 x2 : Int} : js_J E d 238 65 [(2, 83), (0, x1), (0, x2), (9, 0), (9, 0), (9, 0), (9, 0), (9, 0), (9, 0)] [] σ = js_J E d 238 70 [(2, 83), (0, x1), (0, x2), (0, (-1)), (0, (-1)), (9, 0), (9, 0), (9, 0), (9, 0)] [] σ :=
  (j_iconst q_238_65).trans <| (j_istore_n (l2 := [(2, 83), (0, x1), (0, x2), (0, (-1)), (9, 0), (9, 0), (9, 0), (9, 0), (9, 0)]) q_238_66 rfl (Nat.le_of_ble_eq_true rfl)).trans <| (j_iconst q_238_67).trans <| (j_istore (l2 := [(2, 83), (0, x1), (0, x2), (0, (-1)), (0, (-1)), (9, 0), (9, 0), (9, 0), (9, 0)]) q_238_68 rfl (Nat.le_of_ble_eq_true rfl)).trans <| rfl
theorem b_238_70 {E : js_E} {d : Nat} {σ : js_S} {x1 x2 x3 x4 : Int} {ux5 ux6 ux7 ux8 : js_v} : js_J E d 238 70 [(2, 83), (0, x1), (0, x2), (0, x3), (0, x4), ux5, ux6, ux7, ux8] [] σ = (if js_w (σ 83 9) = 0 then (if js_w (σ 83 5) = 125 then js_J E d 238 274 [(2, 83), (0, x1), (0, x2), (0, x3), (0, x4), ux5, ux6, ux7, ux8] [] σ else (if js_w (σ 83 5) = 308 then js_J E d 238 274 [(2, 83), (0, x1), (0, x2), (0, x3), (0, x4), ux5, ux6, ux7, ux8] [] σ else (if 0 ≤ js_w x2 ∧ js_w x2 < 66000 then js_J E d 238 103 [(2, 83), (0, x1), (0, x2), (0, x3), (0, x4), ux5, ux6, ux7, ux8] [(0, σ 101 (js_w x2)), (2, 83)] σ else none))) else js_J E d 238 274 [(2, 83), (0, x1), (0, x2), (0, x3), (0, x4), ux5, ux6, ux7, ux8] [] σ) :=
  (j_aload_n q_238_70 rfl).trans <| (j_get (ji := 9) (v := (0, σ 83 9)) q_238_71 (js_Fo qy_238 qf_12_22) js_o83 rfl rfl rfl rfl).trans <| (j_ifne (t := 274) q_238_74 rfl).trans (js_ite ((j_aload_n q_238_77 rfl).trans <| (j_get (ji := 5) (v := (0, σ 83 5)) q_238_78 (js_Fo qy_238 qf_12_25) js_o83 rfl rfl rfl rfl).trans <| (j_bi q_238_81 rfl).trans <| (j_cmpeqB (t := 274) q_238_83 rfl ww_125).trans (js_ite (rfl) ((j_aload_n q_238_86 rfl).trans <| (j_get (ji := 5) (v := (0, σ 83 5)) q_238_87 (js_Fo qy_238 qf_12_25) js_o83 rfl rfl rfl rfl).trans <| (j_si q_238_90 rfl).trans <| (j_cmpeqB (t := 274) q_238_93 rfl ww_308).trans (js_ite (rfl) ((j_aload_n q_238_96 rfl).trans <| (j_aload_n q_238_97 rfl).trans <| (j_get (ji := 35) (v := (2, 101)) q_238_98 (js_Fo qy_238 qf_12_172) js_o83 rfl rfl rfl rfl).trans <| (j_iload_n q_238_101 rfl).trans <| (j_iaload q_238_102 js_o101).trans <| js_itp fun g0 => rfl))))) (rfl))
theorem k_238_103 {E : js_E} {d : Nat} {σ σ2 : js_S} {x1 x2 x3 x4 z1 : Int} {ux5 ux6 ux7 ux8 : js_v} (hd : 1 ≤ d) (hz : js_J E (d - 1) 209 0 [(2, 83), (0, z1)] [] σ = js_r0 E σ2) : js_J E d 238 103 [(2, 83), (0, x1), (0, x2), (0, x3), (0, x4), ux5, ux6, ux7, ux8] [(0, z1), (2, 83)] σ = js_J E d 238 106 [(2, 83), (0, x1), (0, x2), (0, x3), (0, x4), ux5, ux6, ux7, ux8] [] σ2 :=
  j_call0 (m := 0) (js_caV q_238_103 (js_Mo qy_238 qm_12_156)) (js_agV (av := [(0, z1)]) (st := []) rfl rfl js_o83 rfl) rfl rfl (by rw [ql_209]; exact Nat.le_of_ble_eq_true rfl) (Nat.le_of_ble_eq_true rfl) hd hz
theorem b_238_106 {E : js_E} {d : Nat} {σ : js_S} {x1 x2 x3 x4 : Int} {ux5 ux6 ux7 ux8 : js_v} : js_J E d 238 106 [(2, 83), (0, x1), (0, x2), (0, x3), (0, x4), ux5, ux6, ux7, ux8] [] σ = js_J E d 238 113 [(2, 83), (0, x1), (0, x2), (0, x3), (0, x4), (0, σ 83 28), ux6, ux7, ux8] [(2, 83)] σ :=
  (j_aload_n q_238_106 rfl).trans <| (j_get (ji := 28) (v := (0, σ 83 28)) q_238_107 (js_Fo qy_238 qf_12_141) js_o83 rfl rfl rfl rfl).trans <| (j_istore (l2 := [(2, 83), (0, x1), (0, x2), (0, x3), (0, x4), (0, σ 83 28), ux6, ux7, ux8]) q_238_110 rfl (Nat.le_of_ble_eq_true rfl)).trans <| (j_aload_n q_238_112 rfl).trans <| rfl
theorem k_238_113 {E : js_E} {d : Nat} {σ σ2 : js_S} {x1 x2 x3 x4 x5 : Int} {ux6 ux7 ux8 : js_v} (hd : 1 ≤ d) (hz : js_J E (d - 1) 191 0 [(2, 83), (9, 0), (9, 0), (9, 0), (9, 0), (9, 0)] [] σ = js_r0 E σ2) : js_J E d 238 113 [(2, 83), (0, x1), (0, x2), (0, x3), (0, x4), (0, x5), ux6, ux7, ux8] [(2, 83)] σ = js_J E d 238 116 [(2, 83), (0, x1), (0, x2), (0, x3), (0, x4), (0, x5), ux6, ux7, ux8] [] σ2 :=
  j_call0 (m := 5) (js_caV q_238_113 (js_Mo qy_238 qm_12_68)) (js_agV (av := []) (st := []) rfl rfl js_o83 rfl) rfl rfl (by rw [ql_191]; exact Nat.le_of_ble_eq_true rfl) (Nat.le_of_ble_eq_true rfl) hd hz
theorem b_238_116 {E : js_E} {d : Nat} {σ : js_S} {x1 x2 x3 x4 x5 : Int} {ux6 ux7 ux8 : js_v} : js_J E d 238 116 [(2, 83), (0, x1), (0, x2), (0, x3), (0, x4), (0, x5), ux6, ux7, ux8] [] σ = (if js_w (σ 83 5) = 200 then js_J E d 238 135 [(2, 83), (0, x1), (0, x2), (0, x3), (0, x4), (0, x5), (0, x5), ux7, ux8] [(0, 1)] σ else js_J E d 238 135 [(2, 83), (0, x1), (0, x2), (0, x3), (0, x4), (0, x5), (0, x5), ux7, ux8] [(0, 0)] σ) :=
  (j_iload q_238_116 rfl).trans <| (j_istore (l2 := [(2, 83), (0, x1), (0, x2), (0, x3), (0, x4), (0, x5), (0, x5), ux7, ux8]) q_238_118 rfl (Nat.le_of_ble_eq_true rfl)).trans <| (j_aload_n q_238_120 rfl).trans <| (j_get (ji := 5) (v := (0, σ 83 5)) q_238_121 (js_Fo qy_238 qf_12_25) js_o83 rfl rfl rfl rfl).trans <| (j_si q_238_124 rfl).trans <| (j_cmpneB (t := 134) q_238_127 rfl ww_200).trans (js_ite ((j_iconst q_238_130).trans <| (j_goto (t := 135) q_238_131 rfl).trans <| rfl) ((j_iconst q_238_134).trans <| rfl))
theorem b_238_135 {E : js_E} {d : Nat} {σ : js_S} {x1 x2 x3 x4 x5 x6 z0 : Int} {ux7 ux8 : js_v} : js_J E d 238 135 [(2, 83), (0, x1), (0, x2), (0, x3), (0, x4), (0, x5), (0, x6), ux7, ux8] [(0, z0)] σ = (if js_w z0 = 0 then js_J E d 238 202 [(2, 83), (0, x1), (0, x2), (0, x3), (0, x4), (0, x5), (0, x6), (0, z0), ux8] [] σ else (if 0 ≤ js_w x2 ∧ js_w x2 < 66000 then (if js_w (σ 101 (js_w x2)) = 0 then js_J E d 238 160 [(2, 83), (0, x1), (0, x2), (0, x3), (0, x4), (0, x5), (0, x6), (0, z0), ux8] [] σ else js_J E d 238 157 [(2, 83), (0, x1), (0, x2), (0, x3), (0, x4), (0, x5), (0, x6), (0, z0), ux8] [(0, σ 83 6), (0, 4), (2, 83)] σ) else none)) :=
  (j_istore (l2 := [(2, 83), (0, x1), (0, x2), (0, x3), (0, x4), (0, x5), (0, x6), (0, z0), ux8]) q_238_135 rfl (Nat.le_of_ble_eq_true rfl)).trans <| (j_iload q_238_137 rfl).trans <| (j_ifeq (t := 202) q_238_139 rfl).trans (js_ite (rfl) ((j_aload_n q_238_142 rfl).trans <| (j_get (ji := 35) (v := (2, 101)) q_238_143 (js_Fo qy_238 qf_12_172) js_o83 rfl rfl rfl rfl).trans <| (j_iload_n q_238_146 rfl).trans <| (j_iaload q_238_147 js_o101).trans <| js_itp fun g0 => (j_ifeq (t := 160) q_238_148 rfl).trans (js_ite (rfl) ((j_aload_n q_238_151 rfl).trans <| (j_iconst q_238_152).trans <| (j_aload_n q_238_153 rfl).trans <| (j_get (ji := 6) (v := (0, σ 83 6)) q_238_154 (js_Fo qy_238 qf_12_35) js_o83 rfl rfl rfl rfl).trans <| rfl))))
theorem k_238_157 {E : js_E} {d : Nat} {σ σ2 : js_S} {x1 x2 x3 x4 x5 x6 x7 z1 z2 : Int} {ux8 : js_v} (hd : 1 ≤ d) (hz : js_J E (d - 1) 199 0 [(2, 83), (0, z1), (0, z2)] [] σ = js_r0 E σ2) : js_J E d 238 157 [(2, 83), (0, x1), (0, x2), (0, x3), (0, x4), (0, x5), (0, x6), (0, x7), ux8] [(0, z2), (0, z1), (2, 83)] σ = js_J E d 238 160 [(2, 83), (0, x1), (0, x2), (0, x3), (0, x4), (0, x5), (0, x6), (0, x7), ux8] [] σ2 :=
  j_call0 (m := 0) (js_caV q_238_157 (js_Mo qy_238 qm_12_65)) (js_agV (av := [(0, z1), (0, z2)]) (st := []) rfl rfl js_o83 rfl) rfl rfl (by rw [ql_199]; exact Nat.le_of_ble_eq_true rfl) (Nat.le_of_ble_eq_true rfl) hd hz
theorem b_238_160 {E : js_E} {d : Nat} {σ : js_S} {x1 x2 x3 x4 x5 x6 x7 : Int} {ux8 : js_v} : js_J E d 238 160 [(2, 83), (0, x1), (0, x2), (0, x3), (0, x4), (0, x5), (0, x6), (0, x7), ux8] [] σ = js_J E d 238 161 [(2, 83), (0, x1), (0, x2), (0, x3), (0, x4), (0, x5), (0, x6), (0, x7), ux8] [(2, 83)] σ :=
  (j_aload_n q_238_160 rfl).trans <| rfl
theorem k_238_161 {E : js_E} {d : Nat} {σ σ2 : js_S} {x1 x2 x3 x4 x5 x6 x7 : Int} {ux8 : js_v} (hd : 1 ≤ d) (hz : js_J E (d - 1) 191 0 [(2, 83), (9, 0), (9, 0), (9, 0), (9, 0), (9, 0)] [] σ = js_r0 E σ2) : js_J E d 238 161 [(2, 83), (0, x1), (0, x2), (0, x3), (0, x4), (0, x5), (0, x6), (0, x7), ux8] [(2, 83)] σ = js_J E d 238 164 [(2, 83), (0, x1), (0, x2), (0, x3), (0, x4), (0, x5), (0, x6), (0, x7), ux8] [] σ2 :=
  j_call0 (m := 5) (js_caV q_238_161 (js_Mo qy_238 qm_12_68)) (js_agV (av := []) (st := []) rfl rfl js_o83 rfl) rfl rfl (by rw [ql_191]; exact Nat.le_of_ble_eq_true rfl) (Nat.le_of_ble_eq_true rfl) hd hz
theorem b_238_164 {E : js_E} {d : Nat} {σ : js_S} {x1 x2 x3 x4 x5 x6 x7 : Int} {ux8 : js_v} : js_J E d 238 164 [(2, 83), (0, x1), (0, x2), (0, x3), (0, x4), (0, x5), (0, x6), (0, x7), ux8] [] σ = js_J E d 238 166 [(2, 83), (0, x1), (0, x2), (0, x3), (0, x4), (0, x5), (0, x6), (0, x7), ux8] [(0, 0), (2, 83)] σ :=
  (j_aload_n q_238_164 rfl).trans <| (j_iconst q_238_165).trans <| rfl
theorem k_238_166 {E : js_E} {d : Nat} {σ σ2 : js_S} {x1 x2 x3 x4 x5 x6 x7 z1 : Int} {ux8 : js_v} (hd : 1 ≤ d) (hz : js_J E (d - 1) 209 0 [(2, 83), (0, z1)] [] σ = js_r0 E σ2) : js_J E d 238 166 [(2, 83), (0, x1), (0, x2), (0, x3), (0, x4), (0, x5), (0, x6), (0, x7), ux8] [(0, z1), (2, 83)] σ = js_J E d 238 169 [(2, 83), (0, x1), (0, x2), (0, x3), (0, x4), (0, x5), (0, x6), (0, x7), ux8] [] σ2 :=
  j_call0 (m := 0) (js_caV q_238_166 (js_Mo qy_238 qm_12_156)) (js_agV (av := [(0, z1)]) (st := []) rfl rfl js_o83 rfl) rfl rfl (by rw [ql_209]; exact Nat.le_of_ble_eq_true rfl) (Nat.le_of_ble_eq_true rfl) hd hz
theorem b_238_169 {E : js_E} {d : Nat} {σ : js_S} {x1 x2 x3 x4 x5 x6 x7 : Int} {ux8 : js_v} : js_J E d 238 169 [(2, 83), (0, x1), (0, x2), (0, x3), (0, x4), (0, x5), (0, x6), (0, x7), ux8] [] σ = (if js_w (σ 83 9) = 0 then (if js_w (σ 83 28) < js_w x5 then js_J E d 238 195 [(2, 83), (0, x1), (0, x2), (0, x3), (0, x4), (0, x5), (0, σ 83 28), (0, x7), ux8] [(0, σ 83 29), (0, 4), (2, 83)] σ else js_J E d 238 198 [(2, 83), (0, x1), (0, x2), (0, x3), (0, x4), (0, x5), (0, σ 83 28), (0, x7), ux8] [] σ) else js_J E d 238 198 [(2, 83), (0, x1), (0, x2), (0, x3), (0, x4), (0, x5), (0, σ 83 28), (0, x7), ux8] [] σ) :=
  (j_aload_n q_238_169 rfl).trans <| (j_get (ji := 28) (v := (0, σ 83 28)) q_238_170 (js_Fo qy_238 qf_12_141) js_o83 rfl rfl rfl rfl).trans <| (j_istore (l2 := [(2, 83), (0, x1), (0, x2), (0, x3), (0, x4), (0, x5), (0, σ 83 28), (0, x7), ux8]) q_238_173 rfl (Nat.le_of_ble_eq_true rfl)).trans <| (j_aload_n q_238_175 rfl).trans <| (j_get (ji := 9) (v := (0, σ 83 9)) q_238_176 (js_Fo qy_238 qf_12_22) js_o83 rfl rfl rfl rfl).trans <| (j_ifne (t := 198) q_238_179 rfl).trans (js_ite ((j_iload q_238_182 rfl).trans <| (j_iload q_238_184 rfl).trans <| (j_cmpge (t := 198) q_238_186 rfl).trans (js_ite ((j_aload_n q_238_189 rfl).trans <| (j_iconst q_238_190).trans <| (j_aload_n q_238_191 rfl).trans <| (j_get (ji := 29) (v := (0, σ 83 29)) q_238_192 (js_Fo qy_238 qf_12_135) js_o83 rfl rfl rfl rfl).trans <| rfl) (rfl))) (rfl))
theorem k_238_195 {E : js_E} {d : Nat} {σ σ2 : js_S} {x1 x2 x3 x4 x5 x6 x7 z1 z2 : Int} {ux8 : js_v} (hd : 1 ≤ d) (hz : js_J E (d - 1) 199 0 [(2, 83), (0, z1), (0, z2)] [] σ = js_r0 E σ2) : js_J E d 238 195 [(2, 83), (0, x1), (0, x2), (0, x3), (0, x4), (0, x5), (0, x6), (0, x7), ux8] [(0, z2), (0, z1), (2, 83)] σ = js_J E d 238 198 [(2, 83), (0, x1), (0, x2), (0, x3), (0, x4), (0, x5), (0, x6), (0, x7), ux8] [] σ2 :=
  j_call0 (m := 0) (js_caV q_238_195 (js_Mo qy_238 qm_12_65)) (js_agV (av := [(0, z1), (0, z2)]) (st := []) rfl rfl js_o83 rfl) rfl rfl (by rw [ql_199]; exact Nat.le_of_ble_eq_true rfl) (Nat.le_of_ble_eq_true rfl) hd hz
theorem b_238_198 {E : js_E} {d : Nat} {σ : js_S} {x1 x2 x3 x4 x5 x6 x7 : Int} {ux8 : js_v} : js_J E d 238 198 [(2, 83), (0, x1), (0, x2), (0, x3), (0, x4), (0, x5), (0, x6), (0, x7), ux8] [] σ = js_J E d 238 199 [(2, 83), (0, x1), (0, x2), (0, x3), (0, x4), (0, x5), (0, x6), (0, x7), ux8] [(2, 83)] σ :=
  (j_aload_n q_238_198 rfl).trans <| rfl
theorem k_238_199 {E : js_E} {d : Nat} {σ σ2 : js_S} {x1 x2 x3 x4 x5 x6 x7 : Int} {ux8 : js_v} (hd : 1 ≤ d) (hz : js_J E (d - 1) 191 0 [(2, 83), (9, 0), (9, 0), (9, 0), (9, 0), (9, 0)] [] σ = js_r0 E σ2) : js_J E d 238 199 [(2, 83), (0, x1), (0, x2), (0, x3), (0, x4), (0, x5), (0, x6), (0, x7), ux8] [(2, 83)] σ = js_J E d 238 202 [(2, 83), (0, x1), (0, x2), (0, x3), (0, x4), (0, x5), (0, x6), (0, x7), ux8] [] σ2 :=
  j_call0 (m := 5) (js_caV q_238_199 (js_Mo qy_238 qm_12_68)) (js_agV (av := []) (st := []) rfl rfl js_o83 rfl) rfl rfl (by rw [ql_191]; exact Nat.le_of_ble_eq_true rfl) (Nat.le_of_ble_eq_true rfl) hd hz
theorem b_238_202 {E : js_E} {d : Nat} {σ : js_S} {x1 x2 x3 x4 x5 x6 x7 : Int} {ux8 : js_v} : js_J E d 238 202 [(2, 83), (0, x1), (0, x2), (0, x3), (0, x4), (0, x5), (0, x6), (0, x7), ux8] [] σ = js_J E d 238 205 [(2, 83), (0, x1), (0, x2), (0, x3), (0, x4), (0, x5), (0, x6), (0, x7), ux8] [(0, 58), (2, 83)] σ :=
  (j_aload_n q_238_202 rfl).trans <| (j_bi q_238_203 rfl).trans <| rfl
theorem k_238_205 {E : js_E} {d : Nat} {σ σ2 : js_S} {x1 x2 x3 x4 x5 x6 x7 z1 : Int} {ux8 : js_v} (hd : 1 ≤ d) (hz : js_J E (d - 1) 202 0 [(2, 83), (0, z1)] [] σ = js_r0 E σ2) : js_J E d 238 205 [(2, 83), (0, x1), (0, x2), (0, x3), (0, x4), (0, x5), (0, x6), (0, x7), ux8] [(0, z1), (2, 83)] σ = js_J E d 238 208 [(2, 83), (0, x1), (0, x2), (0, x3), (0, x4), (0, x5), (0, x6), (0, x7), ux8] [] σ2 :=
  j_call0 (m := 0) (js_caV q_238_205 (js_Mo qy_238 qm_12_75)) (js_agV (av := [(0, z1)]) (st := []) rfl rfl js_o83 rfl) rfl rfl (by rw [ql_202]; exact Nat.le_of_ble_eq_true rfl) (Nat.le_of_ble_eq_true rfl) hd hz
theorem b_238_208 {E : js_E} {d : Nat} {σ : js_S} {x1 x2 x3 x4 x5 x6 x7 : Int} {ux8 : js_v} : js_J E d 238 208 [(2, 83), (0, x1), (0, x2), (0, x3), (0, x4), (0, x5), (0, x6), (0, x7), ux8] [] σ = (if js_w x7 = 0 then js_J E d 238 221 [(2, 83), (0, x1), (0, x2), (0, x3), (0, x4), (0, x5), (0, x6), (0, x7), ux8] [(0, 0), (0, 25), (2, 83)] σ else js_J E d 238 221 [(2, 83), (0, x1), (0, x2), (0, x3), (0, x4), (0, x5), (0, x6), (0, x7), ux8] [(0, 1), (0, 25), (2, 83)] σ) :=
  (j_aload_n q_238_208 rfl).trans <| (j_bi q_238_209 rfl).trans <| (j_iload q_238_211 rfl).trans <| (j_ifeq (t := 220) q_238_213 rfl).trans (js_ite ((j_iconst q_238_220).trans <| rfl) ((j_iconst q_238_216).trans <| (j_goto (t := 221) q_238_217 rfl).trans <| rfl))
theorem b_238_221 {E : js_E} {d : Nat} {σ : js_S} {x1 x2 x3 x4 x5 x6 x7 z1 z2 : Int} {ux8 : js_v} : js_J E d 238 221 [(2, 83), (0, x1), (0, x2), (0, x3), (0, x4), (0, x5), (0, x6), (0, x7), ux8] [(0, z2), (0, z1), (2, 83)] σ = js_J E d 238 228 [(2, 83), (0, x1), (0, x2), (0, x3), (0, x4), (0, x5), (0, x6), (0, x7), ux8] [(2, 83), (1, js_w x6), (1, js_w x5), (0, z2), (0, z1), (2, 83)] σ :=
  (j_iload q_238_221 rfl).trans <| (j_i2l q_238_223).trans <| (j_iload q_238_224 rfl).trans <| (j_i2l q_238_226).trans <| (j_aload_n q_238_227 rfl).trans <| rfl
theorem k_238_228 {E : js_E} {d : Nat} {σ σ2 : js_S} {x1 x2 x3 x4 x5 x6 x7 z1 z2 z3 z4 : Int} {ux8 : js_v} {v : Int} (hd : 1 ≤ d) (hz : js_J E (d - 1) 239 0 [(2, 83), (9, 0), (9, 0)] [] σ = js_r E (0, v) σ2) : js_J E d 238 228 [(2, 83), (0, x1), (0, x2), (0, x3), (0, x4), (0, x5), (0, x6), (0, x7), ux8] [(2, 83), (1, z4), (1, z3), (0, z2), (0, z1), (2, 83)] σ = js_J E d 238 231 [(2, 83), (0, x1), (0, x2), (0, x3), (0, x4), (0, x5), (0, x6), (0, x7), ux8] [(0, v), (1, z4), (1, z3), (0, z2), (0, z1), (2, 83)] σ2 :=
  j_call (m := 2) (js_caV q_238_228 (js_Mo qy_238 qm_12_329)) (js_agV (av := []) (st := [(1, z4), (1, z3), (0, z2), (0, z1), (2, 83)]) rfl rfl js_o83 rfl) rfl rfl (by rw [ql_239]; exact Nat.le_of_ble_eq_true rfl) (Nat.le_of_ble_eq_true rfl) hd hz
theorem b_238_231 {E : js_E} {d : Nat} {σ : js_S} {x1 x2 x3 x4 x5 x6 x7 z1 z2 z3 z4 z5 : Int} {ux8 : js_v} : js_J E d 238 231 [(2, 83), (0, x1), (0, x2), (0, x3), (0, x4), (0, x5), (0, x6), (0, x7), ux8] [(0, z5), (1, z4), (1, z3), (0, z2), (0, z1), (2, 83)] σ = js_J E d 238 233 [(2, 83), (0, x1), (0, x2), (0, x3), (0, x4), (0, x5), (0, x6), (0, x7), ux8] [(0, 0), (0, 0), (0, z5), (1, z4), (1, z3), (0, z2), (0, z1), (2, 83)] σ :=
  (j_iconst q_238_231).trans <| (j_iconst q_238_232).trans <| rfl
theorem k_238_233 {E : js_E} {d : Nat} {σ σ2 : js_S} {x1 x2 x3 x4 x5 x6 x7 z1 z2 z3 z4 z5 z6 z7 : Int} {ux8 : js_v} {v : Int} (hd : 1 ≤ d) (hz : js_J E (d - 1) 217 0 [(2, 83), (0, z1), (0, z2), (1, z3), (9, 0), (1, z4), (9, 0), (0, z5), (0, z6), (0, z7), (9, 0)] [] σ = js_r E (0, v) σ2) : js_J E d 238 233 [(2, 83), (0, x1), (0, x2), (0, x3), (0, x4), (0, x5), (0, x6), (0, x7), ux8] [(0, z7), (0, z6), (0, z5), (1, z4), (1, z3), (0, z2), (0, z1), (2, 83)] σ = js_J E d 238 236 [(2, 83), (0, x1), (0, x2), (0, x3), (0, x4), (0, x5), (0, x6), (0, x7), ux8] [(0, v)] σ2 :=
  j_call (m := 1) (js_caV q_238_233 (js_Mo qy_238 qm_12_208)) (js_agV (av := [(0, z1), (0, z2), (1, z3), (1, z4), (0, z5), (0, z6), (0, z7)]) (st := []) rfl rfl js_o83 rfl) rfl rfl (by rw [ql_217]; exact Nat.le_of_ble_eq_true rfl) (Nat.le_of_ble_eq_true rfl) hd hz
theorem b_238_236 {E : js_E} {d : Nat} {σ : js_S} {x1 x2 x3 x4 x5 x6 x7 z0 : Int} {ux8 : js_v} : js_J E d 238 236 [(2, 83), (0, x1), (0, x2), (0, x3), (0, x4), (0, x5), (0, x6), (0, x7), ux8] [(0, z0)] σ = (if 0 < js_w (σ 83 9) then js_r E (0, (-1)) σ else (if js_w x4 < 0 then js_J E d 238 267 [(2, 83), (0, x1), (0, x2), (0, z0), (0, x4), (0, x5), (0, x6), (0, x7), (0, z0)] [] σ else (if 0 ≤ js_w x4 ∧ js_w x4 < 66000 then js_J E d 238 267 [(2, 83), (0, x1), (0, x2), (0, x3), (0, x4), (0, x5), (0, x6), (0, x7), (0, z0)] [] (js_up σ 107 (js_w x4) z0) else none))) :=
  (j_istore (l2 := [(2, 83), (0, x1), (0, x2), (0, x3), (0, x4), (0, x5), (0, x6), (0, x7), (0, z0)]) q_238_236 rfl (Nat.le_of_ble_eq_true rfl)).trans <| (j_aload_n q_238_238 rfl).trans <| (j_get (ji := 9) (v := (0, σ 83 9)) q_238_239 (js_Fo qy_238 qf_12_22) js_o83 rfl rfl rfl rfl).trans <| (j_ifle (t := 247) q_238_242 rfl).trans (js_ite ((j_iconst q_238_245).trans <| j_ireturn q_238_246 qr_238) ((j_iload q_238_247 rfl).trans <| (j_ifge (t := 258) q_238_249 rfl).trans (js_ite ((j_iload q_238_252 rfl).trans <| (j_istore_n (l2 := [(2, 83), (0, x1), (0, x2), (0, z0), (0, x4), (0, x5), (0, x6), (0, x7), (0, z0)]) q_238_254 rfl (Nat.le_of_ble_eq_true rfl)).trans <| (j_goto (t := 267) q_238_255 rfl).trans <| rfl) ((j_aload_n q_238_258 rfl).trans <| (j_get (ji := 41) (v := (2, 107)) q_238_259 (js_Fo qy_238 qf_12_190) js_o83 rfl rfl rfl rfl).trans <| (j_iload q_238_262 rfl).trans <| (j_iload q_238_264 rfl).trans <| (j_iastore q_238_266 js_o107).trans <| js_itp fun g0 => rfl))))
theorem b_238_267 {E : js_E} {d : Nat} {σ : js_S} {x1 x2 x3 x4 x5 x6 x7 x8 : Int} : js_J E d 238 267 [(2, 83), (0, x1), (0, x2), (0, x3), (0, x4), (0, x5), (0, x6), (0, x7), (0, x8)] [] σ = js_J E d 238 70 [(2, 83), (0, x1), (0, x2), (0, x3), (0, x8), (0, x5), (0, x6), (0, x7), (0, x8)] [] σ :=
  (j_iload q_238_267 rfl).trans <| (j_istore (l2 := [(2, 83), (0, x1), (0, x2), (0, x3), (0, x8), (0, x5), (0, x6), (0, x7), (0, x8)]) q_238_269 rfl (Nat.le_of_ble_eq_true rfl)).trans <| (j_goto (t := 70) q_238_271 rfl).trans <| rfl
theorem b_238_274 {E : js_E} {d : Nat} {σ : js_S} {x1 x2 x3 x4 : Int} {ux5 ux6 ux7 ux8 : js_v} : js_J E d 238 274 [(2, 83), (0, x1), (0, x2), (0, x3), (0, x4), ux5, ux6, ux7, ux8] [] σ = (if js_w (σ 83 5) = 308 then js_J E d 238 292 [(2, 83), (0, x1), (0, x2), (0, x3), (0, x4), (0, (-1)), ux6, ux7, ux8] [(0, 1)] σ else js_J E d 238 292 [(2, 83), (0, x1), (0, x2), (0, x3), (0, x4), (0, (-1)), ux6, ux7, ux8] [(0, 0)] σ) :=
  (j_iconst q_238_274).trans <| (j_istore (l2 := [(2, 83), (0, x1), (0, x2), (0, x3), (0, x4), (0, (-1)), ux6, ux7, ux8]) q_238_275 rfl (Nat.le_of_ble_eq_true rfl)).trans <| (j_aload_n q_238_277 rfl).trans <| (j_get (ji := 5) (v := (0, σ 83 5)) q_238_278 (js_Fo qy_238 qf_12_25) js_o83 rfl rfl rfl rfl).trans <| (j_si q_238_281 rfl).trans <| (j_cmpneB (t := 291) q_238_284 rfl ww_308).trans (js_ite ((j_iconst q_238_287).trans <| (j_goto (t := 292) q_238_288 rfl).trans <| rfl) ((j_iconst q_238_291).trans <| rfl))
theorem b_238_292 {E : js_E} {d : Nat} {σ : js_S} {x1 x2 x3 x4 x5 z0 : Int} {ux6 ux7 ux8 : js_v} : js_J E d 238 292 [(2, 83), (0, x1), (0, x2), (0, x3), (0, x4), (0, x5), ux6, ux7, ux8] [(0, z0)] σ = (if js_w z0 = 0 then js_J E d 238 309 [(2, 83), (0, x1), (0, x2), (0, x3), (0, x4), (0, x5), (0, z0), ux7, ux8] [] σ else js_J E d 238 300 [(2, 83), (0, x1), (0, x2), (0, x3), (0, x4), (0, x5), (0, z0), ux7, ux8] [(2, 83)] σ) :=
  (j_istore (l2 := [(2, 83), (0, x1), (0, x2), (0, x3), (0, x4), (0, x5), (0, z0), ux7, ux8]) q_238_292 rfl (Nat.le_of_ble_eq_true rfl)).trans <| (j_iload q_238_294 rfl).trans <| (j_ifeq (t := 309) q_238_296 rfl).trans (js_ite (rfl) ((j_aload_n q_238_299 rfl).trans <| rfl))
theorem k_238_300 {E : js_E} {d : Nat} {σ σ2 : js_S} {x1 x2 x3 x4 x5 x6 : Int} {ux7 ux8 : js_v} (hd : 1 ≤ d) (hz : js_J E (d - 1) 191 0 [(2, 83), (9, 0), (9, 0), (9, 0), (9, 0), (9, 0)] [] σ = js_r0 E σ2) : js_J E d 238 300 [(2, 83), (0, x1), (0, x2), (0, x3), (0, x4), (0, x5), (0, x6), ux7, ux8] [(2, 83)] σ = js_J E d 238 303 [(2, 83), (0, x1), (0, x2), (0, x3), (0, x4), (0, x5), (0, x6), ux7, ux8] [] σ2 :=
  j_call0 (m := 5) (js_caV q_238_300 (js_Mo qy_238 qm_12_68)) (js_agV (av := []) (st := []) rfl rfl js_o83 rfl) rfl rfl (by rw [ql_191]; exact Nat.le_of_ble_eq_true rfl) (Nat.le_of_ble_eq_true rfl) hd hz
theorem b_238_303 {E : js_E} {d : Nat} {σ : js_S} {x1 x2 x3 x4 x5 x6 : Int} {ux7 ux8 : js_v} : js_J E d 238 303 [(2, 83), (0, x1), (0, x2), (0, x3), (0, x4), (0, x5), (0, x6), ux7, ux8] [] σ = js_J E d 238 304 [(2, 83), (0, x1), (0, x2), (0, x3), (0, x4), (0, x5), (0, x6), ux7, ux8] [(2, 83)] σ :=
  (j_aload_n q_238_303 rfl).trans <| rfl
theorem k_238_304 {E : js_E} {d : Nat} {σ σ2 : js_S} {x1 x2 x3 x4 x5 x6 : Int} {ux7 ux8 : js_v} {v : Int} (hd : 1 ≤ d) (hz : js_J E (d - 1) 239 0 [(2, 83), (9, 0), (9, 0)] [] σ = js_r E (0, v) σ2) : js_J E d 238 304 [(2, 83), (0, x1), (0, x2), (0, x3), (0, x4), (0, x5), (0, x6), ux7, ux8] [(2, 83)] σ = js_J E d 238 307 [(2, 83), (0, x1), (0, x2), (0, x3), (0, x4), (0, x5), (0, x6), ux7, ux8] [(0, v)] σ2 :=
  j_call (m := 2) (js_caV q_238_304 (js_Mo qy_238 qm_12_329)) (js_agV (av := []) (st := []) rfl rfl js_o83 rfl) rfl rfl (by rw [ql_239]; exact Nat.le_of_ble_eq_true rfl) (Nat.le_of_ble_eq_true rfl) hd hz
theorem b_238_307 {E : js_E} {d : Nat} {σ : js_S} {x1 x2 x3 x4 x5 x6 z0 : Int} {ux7 ux8 : js_v} : js_J E d 238 307 [(2, 83), (0, x1), (0, x2), (0, x3), (0, x4), (0, x5), (0, x6), ux7, ux8] [(0, z0)] σ = js_J E d 238 309 [(2, 83), (0, x1), (0, x2), (0, x3), (0, x4), (0, z0), (0, x6), ux7, ux8] [] σ :=
  (j_istore (l2 := [(2, 83), (0, x1), (0, x2), (0, x3), (0, x4), (0, z0), (0, x6), ux7, ux8]) q_238_307 rfl (Nat.le_of_ble_eq_true rfl)).trans <| rfl
theorem b_238_309 {E : js_E} {d : Nat} {σ : js_S} {x1 x2 x3 x4 x5 x6 : Int} {ux7 ux8 : js_v} : js_J E d 238 309 [(2, 83), (0, x1), (0, x2), (0, x3), (0, x4), (0, x5), (0, x6), ux7, ux8] [] σ = js_J E d 238 312 [(2, 83), (0, x1), (0, x2), (0, x3), (0, x4), (0, x5), (0, x6), ux7, ux8] [(0, 125), (2, 83)] σ :=
  (j_aload_n q_238_309 rfl).trans <| (j_bi q_238_310 rfl).trans <| rfl
theorem k_238_312 {E : js_E} {d : Nat} {σ σ2 : js_S} {x1 x2 x3 x4 x5 x6 z1 : Int} {ux7 ux8 : js_v} (hd : 1 ≤ d) (hz : js_J E (d - 1) 211 0 [(2, 83), (0, z1)] [] σ = js_r0 E σ2) : js_J E d 238 312 [(2, 83), (0, x1), (0, x2), (0, x3), (0, x4), (0, x5), (0, x6), ux7, ux8] [(0, z1), (2, 83)] σ = js_J E d 238 315 [(2, 83), (0, x1), (0, x2), (0, x3), (0, x4), (0, x5), (0, x6), ux7, ux8] [] σ2 :=
  j_call0 (m := 0) (js_caV q_238_312 (js_Mo qy_238 qm_12_162)) (js_agV (av := [(0, z1)]) (st := []) rfl rfl js_o83 rfl) rfl rfl (by rw [ql_211]; exact Nat.le_of_ble_eq_true rfl) (Nat.le_of_ble_eq_true rfl) hd hz
theorem b_238_315 {E : js_E} {d : Nat} {σ : js_S} {x1 x2 x3 x4 x5 x6 : Int} {ux7 ux8 : js_v} : js_J E d 238 315 [(2, 83), (0, x1), (0, x2), (0, x3), (0, x4), (0, x5), (0, x6), ux7, ux8] [] σ = (if js_w x6 = 0 then js_J E d 238 328 [(2, 83), (0, x1), (0, x2), (0, x3), (0, x4), (0, x5), (0, x6), ux7, ux8] [(0, 0), (0, 24), (2, 83)] σ else js_J E d 238 328 [(2, 83), (0, x1), (0, x2), (0, x3), (0, x4), (0, x5), (0, x6), ux7, ux8] [(0, 1), (0, 24), (2, 83)] σ) :=
  (j_aload_n q_238_315 rfl).trans <| (j_bi q_238_316 rfl).trans <| (j_iload q_238_318 rfl).trans <| (j_ifeq (t := 327) q_238_320 rfl).trans (js_ite ((j_iconst q_238_327).trans <| rfl) ((j_iconst q_238_323).trans <| (j_goto (t := 328) q_238_324 rfl).trans <| rfl))
theorem b_238_328 {E : js_E} {d : Nat} {σ : js_S} {x1 x2 x3 x4 x5 x6 z1 z2 : Int} {ux7 ux8 : js_v} : js_J E d 238 328 [(2, 83), (0, x1), (0, x2), (0, x3), (0, x4), (0, x5), (0, x6), ux7, ux8] [(0, z2), (0, z1), (2, 83)] σ = js_J E d 238 334 [(2, 83), (0, x1), (0, x2), (0, x3), (0, x4), (0, x5), (0, x6), ux7, ux8] [(0, x5), (0, x3), (0, x2), (1, 0), (1, 0), (0, z2), (0, z1), (2, 83)] σ :=
  (j_lconst0 q_238_328).trans <| (j_lconst0 q_238_329).trans <| (j_iload_n q_238_330 rfl).trans <| (j_iload_n q_238_331 rfl).trans <| (j_iload q_238_332 rfl).trans <| rfl
theorem k_238_334 {E : js_E} {d : Nat} {σ σ2 : js_S} {x1 x2 x3 x4 x5 x6 z1 z2 z3 z4 z5 z6 z7 : Int} {ux7 ux8 : js_v} {v : Int} (hd : 1 ≤ d) (hz : js_J E (d - 1) 217 0 [(2, 83), (0, z1), (0, z2), (1, z3), (9, 0), (1, z4), (9, 0), (0, z5), (0, z6), (0, z7), (9, 0)] [] σ = js_r E (0, v) σ2) : js_J E d 238 334 [(2, 83), (0, x1), (0, x2), (0, x3), (0, x4), (0, x5), (0, x6), ux7, ux8] [(0, z7), (0, z6), (0, z5), (1, z4), (1, z3), (0, z2), (0, z1), (2, 83)] σ = js_J E d 238 337 [(2, 83), (0, x1), (0, x2), (0, x3), (0, x4), (0, x5), (0, x6), ux7, ux8] [(0, v)] σ2 :=
  j_call (m := 1) (js_caV q_238_334 (js_Mo qy_238 qm_12_208)) (js_agV (av := [(0, z1), (0, z2), (1, z3), (1, z4), (0, z5), (0, z6), (0, z7)]) (st := []) rfl rfl js_o83 rfl) rfl rfl (by rw [ql_217]; exact Nat.le_of_ble_eq_true rfl) (Nat.le_of_ble_eq_true rfl) hd hz
theorem b_238_337 {E : js_E} {d : Nat} {σ : js_S} {x1 x2 x3 x4 x5 x6 z0 : Int} {ux7 ux8 : js_v} : js_J E d 238 337 [(2, 83), (0, x1), (0, x2), (0, x3), (0, x4), (0, x5), (0, x6), ux7, ux8] [(0, z0)] σ = js_r E (0, z0) σ :=
  j_ireturn q_238_337 qr_238
-- 239: VitalTwinModel.block ()I
theorem b_239_0 {E : js_E} {d : Nat} {σ : js_S} : js_J E d 239 0 [(2, 83), (9, 0), (9, 0)] [] σ = js_J E d 239 8 [(2, 83), (0, σ 83 11), (9, 0)] [(0, 123), (2, 83)] σ :=
  (j_aload_n q_239_0 rfl).trans <| (j_get (ji := 11) (v := (0, σ 83 11)) q_239_1 (js_Fo qy_239 qf_12_86) js_o83 rfl rfl rfl rfl).trans <| (j_istore_n (l2 := [(2, 83), (0, σ 83 11), (9, 0)]) q_239_4 rfl (Nat.le_of_ble_eq_true rfl)).trans <| (j_aload_n q_239_5 rfl).trans <| (j_bi q_239_6 rfl).trans <| rfl
theorem k_239_8 {E : js_E} {d : Nat} {σ σ2 : js_S} {x1 z1 : Int} (hd : 1 ≤ d) (hz : js_J E (d - 1) 207 0 [(2, 83), (0, z1)] [] σ = js_r0 E σ2) : js_J E d 239 8 [(2, 83), (0, x1), (9, 0)] [(0, z1), (2, 83)] σ = js_J E d 239 11 [(2, 83), (0, x1), (9, 0)] [] σ2 :=
  j_call0 (m := 0) (js_caV q_239_8 (js_Mo qy_239 qm_12_159)) (js_agV (av := [(0, z1)]) (st := []) rfl rfl js_o83 rfl) rfl rfl (by rw [ql_207]; exact Nat.le_of_ble_eq_true rfl) (Nat.le_of_ble_eq_true rfl) hd hz
theorem b_239_11 {E : js_E} {d : Nat} {σ : js_S} {x1 : Int} : js_J E d 239 11 [(2, 83), (0, x1), (9, 0)] [] σ = js_J E d 239 12 [(2, 83), (0, x1), (9, 0)] [(2, 83)] σ :=
  (j_aload_n q_239_11 rfl).trans <| rfl
theorem k_239_12 {E : js_E} {d : Nat} {σ σ2 : js_S} {x1 : Int} {v : Int} (hd : 1 ≤ d) (hz : js_J E (d - 1) 212 0 [(2, 83), (9, 0), (9, 0), (9, 0)] [] σ = js_r E (0, v) σ2) : js_J E d 239 12 [(2, 83), (0, x1), (9, 0)] [(2, 83)] σ = js_J E d 239 15 [(2, 83), (0, x1), (9, 0)] [(0, v)] σ2 :=
  j_call (m := 3) (js_caV q_239_12 (js_Mo qy_239 qm_12_290)) (js_agV (av := []) (st := []) rfl rfl js_o83 rfl) rfl rfl (by rw [ql_212]; exact Nat.le_of_ble_eq_true rfl) (Nat.le_of_ble_eq_true rfl) hd hz
theorem b_239_15 {E : js_E} {d : Nat} {σ : js_S} {x1 z0 : Int} : js_J E d 239 15 [(2, 83), (0, x1), (9, 0)] [(0, z0)] σ = js_J E d 239 19 [(2, 83), (0, x1), (0, z0)] [(0, 125), (2, 83)] σ :=
  (j_istore_n (l2 := [(2, 83), (0, x1), (0, z0)]) q_239_15 rfl (Nat.le_of_ble_eq_true rfl)).trans <| (j_aload_n q_239_16 rfl).trans <| (j_bi q_239_17 rfl).trans <| rfl
theorem k_239_19 {E : js_E} {d : Nat} {σ σ2 : js_S} {x1 x2 z1 : Int} (hd : 1 ≤ d) (hz : js_J E (d - 1) 211 0 [(2, 83), (0, z1)] [] σ = js_r0 E σ2) : js_J E d 239 19 [(2, 83), (0, x1), (0, x2)] [(0, z1), (2, 83)] σ = js_J E d 239 22 [(2, 83), (0, x1), (0, x2)] [] σ2 :=
  j_call0 (m := 0) (js_caV q_239_19 (js_Mo qy_239 qm_12_162)) (js_agV (av := [(0, z1)]) (st := []) rfl rfl js_o83 rfl) rfl rfl (by rw [ql_211]; exact Nat.le_of_ble_eq_true rfl) (Nat.le_of_ble_eq_true rfl) hd hz
theorem b_239_22 {E : js_E} {d : Nat} {σ : js_S} {x1 x2 : Int} : js_J E d 239 22 [(2, 83), (0, x1), (0, x2)] [] σ = js_J E d 239 24 [(2, 83), (0, x1), (0, x2)] [(0, x1), (2, 83)] σ :=
  (j_aload_n q_239_22 rfl).trans <| (j_iload_n q_239_23 rfl).trans <| rfl
theorem k_239_24 {E : js_E} {d : Nat} {σ σ2 : js_S} {x1 x2 z1 : Int} (hd : 1 ≤ d) (hz : js_J E (d - 1) 240 0 [(2, 83), (0, z1), (9, 0)] [] σ = js_r0 E σ2) : js_J E d 239 24 [(2, 83), (0, x1), (0, x2)] [(0, z1), (2, 83)] σ = js_J E d 239 27 [(2, 83), (0, x1), (0, x2)] [] σ2 :=
  j_call0 (m := 1) (js_caV q_239_24 (js_Mo qy_239 qm_12_293)) (js_agV (av := [(0, z1)]) (st := []) rfl rfl js_o83 rfl) rfl rfl (by rw [ql_240]; exact Nat.le_of_ble_eq_true rfl) (Nat.le_of_ble_eq_true rfl) hd hz
theorem b_239_27 {E : js_E} {d : Nat} {σ : js_S} {x1 x2 : Int} : js_J E d 239 27 [(2, 83), (0, x1), (0, x2)] [] σ = js_r E (0, x2) σ :=
  (j_iload_n q_239_27 rfl).trans <| j_ireturn q_239_28 qr_239
-- 240: VitalTwinModel.hide (I)V
theorem b_240_0 {E : js_E} {d : Nat} {σ : js_S} {x1 : Int} : js_J E d 240 0 [(2, 83), (0, x1), (9, 0)] [] σ = js_J E d 240 2 [(2, 83), (0, x1), (0, x1)] [] σ :=
  (j_iload_n q_240_0 rfl).trans <| (j_istore_n (l2 := [(2, 83), (0, x1), (0, x1)]) q_240_1 rfl (Nat.le_of_ble_eq_true rfl)).trans <| rfl
theorem b_240_2 {E : js_E} {d : Nat} {σ : js_S} {x1 x2 : Int} : js_J E d 240 2 [(2, 83), (0, x1), (0, x2)] [] σ = (if js_w x2 < js_w (σ 83 11) then (if 0 ≤ js_w x2 ∧ js_w x2 < 400 then js_J E d 240 2 [(2, 83), (0, x1), (0, x2 + 1)] [] (js_up σ 99 (js_w x2) (js_iand 0 1)) else none) else js_r0 E σ) :=
  (j_iload_n q_240_2 rfl).trans <| (j_aload_n q_240_3 rfl).trans <| (j_get (ji := 11) (v := (0, σ 83 11)) q_240_4 (js_Fo qy_240 qf_12_86) js_o83 rfl rfl rfl rfl).trans <| (j_cmpge (t := 23) q_240_7 rfl).trans (js_ite ((j_aload_n q_240_10 rfl).trans <| (j_get (ji := 25) (v := (2, 99)) q_240_11 (js_Fo qy_240 qf_12_89) js_o83 rfl rfl rfl rfl).trans <| (j_iload_n q_240_14 rfl).trans <| (j_iconst q_240_15).trans <| (j_zastore q_240_16 js_o99).trans <| js_itp fun g0 => (j_iinc (l2 := [(2, 83), (0, x1), (0, x2 + 1)]) q_240_17 rfl rfl).trans <| (j_goto (t := 2) q_240_20 rfl).trans <| rfl) (j_return q_240_23 qr_240))
