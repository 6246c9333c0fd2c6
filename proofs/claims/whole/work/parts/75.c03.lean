/-! part 75.c03: block equations of the class's (and the law's helpers') methods 61 to 71 (printed by wip/whole/tools/gen71.py) -/
theorem qy_62 : vt_O 62 = 5 := by decide +kernel
theorem qr_62 : vt_rc.getD 62 0 = 0 := by decide +kernel
theorem ql_62 : vt_ml.getD 62 0 = 2 := by decide +kernel
theorem qy_64 : vt_O 64 = 5 := by decide +kernel
theorem qr_64 : vt_rc.getD 64 0 = 0 := by decide +kernel
theorem ql_64 : vt_ml.getD 64 0 = 3 := by decide +kernel
theorem qy_79 : vt_O 79 = 5 := by decide +kernel
theorem qr_79 : vt_rc.getD 79 0 = 0 := by decide +kernel
theorem ql_79 : vt_ml.getD 79 0 = 2 := by decide +kernel
theorem qy_85 : vt_O 85 = 5 := by decide +kernel
theorem qr_85 : vt_rc.getD 85 0 = 1 := by decide +kernel
theorem ql_85 : vt_ml.getD 85 0 = 4 := by decide +kernel
theorem qy_87 : vt_O 87 = 5 := by decide +kernel
theorem qr_87 : vt_rc.getD 87 0 = 0 := by decide +kernel
theorem ql_87 : vt_ml.getD 87 0 = 3 := by decide +kernel
theorem qy_91 : vt_O 91 = 1 := by decide +kernel
theorem qr_91 : vt_rc.getD 91 0 = 0 := by decide +kernel
theorem ql_91 : vt_ml.getD 91 0 = 2 := by decide +kernel
theorem qy_93 : vt_O 93 = 5 := by decide +kernel
theorem qr_93 : vt_rc.getD 93 0 = 1 := by decide +kernel
theorem ql_93 : vt_ml.getD 93 0 = 2 := by decide +kernel
theorem qy_82 : vt_O 82 = 1 := by decide +kernel
theorem qr_82 : vt_rc.getD 82 0 = 0 := by decide +kernel
theorem ql_82 : vt_ml.getD 82 0 = 4 := by decide +kernel
theorem qy_94 : vt_O 94 = 5 := by decide +kernel
theorem qr_94 : vt_rc.getD 94 0 = 0 := by decide +kernel
theorem ql_94 : vt_ml.getD 94 0 = 3 := by decide +kernel
theorem qy_96 : vt_O 96 = 5 := by decide +kernel
theorem qr_96 : vt_rc.getD 96 0 = 0 := by decide +kernel
theorem ql_96 : vt_ml.getD 96 0 = 10 := by decide +kernel
theorem qy_63 : vt_O 63 = 5 := by decide +kernel
theorem qr_63 : vt_rc.getD 63 0 = 0 := by decide +kernel
theorem ql_63 : vt_ml.getD 63 0 = 3 := by decide +kernel
theorem qy_65 : vt_O 65 = 5 := by decide +kernel
theorem qr_65 : vt_rc.getD 65 0 = 0 := by decide +kernel
theorem ql_65 : vt_ml.getD 65 0 = 5 := by decide +kernel
theorem qy_76 : vt_O 76 = 5 := by decide +kernel
theorem qr_76 : vt_rc.getD 76 0 = 0 := by decide +kernel
theorem ql_76 : vt_ml.getD 76 0 = 2 := by decide +kernel
theorem qy_75 : vt_O 75 = 5 := by decide +kernel
theorem qr_75 : vt_rc.getD 75 0 = 0 := by decide +kernel
theorem ql_75 : vt_ml.getD 75 0 = 4 := by decide +kernel
theorem qy_77 : vt_O 77 = 1 := by decide +kernel
theorem qr_77 : vt_rc.getD 77 0 = 0 := by decide +kernel
theorem ql_77 : vt_ml.getD 77 0 = 2 := by decide +kernel
theorem qy_78 : vt_O 78 = 1 := by decide +kernel
theorem qr_78 : vt_rc.getD 78 0 = 0 := by decide +kernel
theorem ql_78 : vt_ml.getD 78 0 = 4 := by decide +kernel
theorem qy_67 : vt_O 67 = 7 := by decide +kernel
theorem qr_67 : vt_rc.getD 67 0 = 4 := by decide +kernel
theorem ql_67 : vt_ml.getD 67 0 = 2 := by decide +kernel
theorem qy_69 : vt_O 69 = 1 := by decide +kernel
theorem qr_69 : vt_rc.getD 69 0 = 1 := by decide +kernel
theorem ql_69 : vt_ml.getD 69 0 = 4 := by decide +kernel
theorem qy_71 : vt_O 71 = 1 := by decide +kernel
theorem qr_71 : vt_rc.getD 71 0 = 0 := by decide +kernel
theorem ql_71 : vt_ml.getD 71 0 = 4 := by decide +kernel
theorem qy_73 : vt_O 73 = 1 := by decide +kernel
theorem qr_73 : vt_rc.getD 73 0 = 0 := by decide +kernel
theorem ql_73 : vt_ml.getD 73 0 = 2 := by decide +kernel
theorem qy_70 : vt_O 70 = 1 := by decide +kernel
theorem qr_70 : vt_rc.getD 70 0 = 1 := by decide +kernel
theorem ql_70 : vt_ml.getD 70 0 = 1 := by decide +kernel
theorem qy_72 : vt_O 72 = 1 := by decide +kernel
theorem qr_72 : vt_rc.getD 72 0 = 1 := by decide +kernel
theorem ql_72 : vt_ml.getD 72 0 = 1 := by decide +kernel
theorem q_61_0 : js_I 61 0 = some (.aload_n 0, 1) := by decide +kernel
theorem q_61_1 : js_I 61 1 = some (.getfield 33, 3) := by decide +kernel
theorem q_61_4 : js_I 61 4 = some (.getfield 56, 3) := by decide +kernel
theorem q_61_7 : js_I 61 7 = some (.istore_n 1, 1) := by decide +kernel
theorem q_61_8 : js_I 61 8 = some (.aload_n 0, 1) := by decide +kernel
theorem q_61_9 : js_I 61 9 = some (.getfield 52, 3) := by decide +kernel
theorem q_61_12 : js_I 61 12 = some (.istore_n 2, 1) := by decide +kernel
theorem q_61_13 : js_I 61 13 = some (.iconst 1, 1) := by decide +kernel
theorem q_61_14 : js_I 61 14 = some (.istore_n 3, 1) := by decide +kernel
theorem q_61_15 : js_I 61 15 = some (.iconst 0, 1) := by decide +kernel
theorem q_61_16 : js_I 61 16 = some (.istore 4, 2) := by decide +kernel
theorem q_61_18 : js_I 61 18 = some (.iload 4, 2) := by decide +kernel
theorem q_61_20 : js_I 61 20 = some (.ldc 61, 2) := by decide +kernel
theorem q_61_22 : js_I 61 22 = some (.if_icmp .ge 241, 3) := by decide +kernel
theorem q_61_25 : js_I 61 25 = some (.iload_n 3, 1) := by decide +kernel
theorem q_61_26 : js_I 61 26 = some (.ifCond .eq 237, 3) := by decide +kernel
theorem q_61_29 : js_I 61 29 = some (.aload_n 0, 1) := by decide +kernel
theorem q_61_30 : js_I 61 30 = some (.invokevirtual 62, 3) := by decide +kernel
theorem q_61_33 : js_I 61 33 = some (.aload_n 0, 1) := by decide +kernel
theorem q_61_34 : js_I 61 34 = some (.getfield 33, 3) := by decide +kernel
theorem q_61_37 : js_I 61 37 = some (.getfield 65, 3) := by decide +kernel
theorem q_61_40 : js_I 61 40 = some (.iconst 2, 1) := by decide +kernel
theorem q_61_41 : js_I 61 41 = some (.if_icmp .ne 10, 3) := by decide +kernel
theorem q_61_44 : js_I 61 44 = some (.aload_n 0, 1) := by decide +kernel
theorem q_61_45 : js_I 61 45 = some (.invokevirtual 68, 3) := by decide +kernel
theorem q_61_51 : js_I 61 51 = some (.aload_n 0, 1) := by decide +kernel
theorem q_61_52 : js_I 61 52 = some (.invokevirtual 71, 3) := by decide +kernel
theorem q_61_48 : js_I 61 48 = some (.goto 7, 3) := by decide +kernel
theorem q_61_55 : js_I 61 55 = some (.aload_n 0, 1) := by decide +kernel
theorem q_61_56 : js_I 61 56 = some (.iload_n 2, 1) := by decide +kernel
theorem q_61_57 : js_I 61 57 = some (.invokevirtual 74, 3) := by decide +kernel
theorem q_61_60 : js_I 61 60 = some (.istore 5, 2) := by decide +kernel
theorem q_61_62 : js_I 61 62 = some (.iconst 0, 1) := by decide +kernel
theorem q_61_63 : js_I 61 63 = some (.istore 6, 2) := by decide +kernel
theorem q_61_65 : js_I 61 65 = some (.iload 6, 2) := by decide +kernel
theorem q_61_67 : js_I 61 67 = some (.sipush 512, 3) := by decide +kernel
theorem q_61_70 : js_I 61 70 = some (.if_icmp .ge 166, 3) := by decide +kernel
theorem q_61_73 : js_I 61 73 = some (.aload_n 0, 1) := by decide +kernel
theorem q_61_74 : js_I 61 74 = some (.getfield 52, 3) := by decide +kernel
theorem q_61_77 : js_I 61 77 = some (.iload_n 2, 1) := by decide +kernel
theorem q_61_78 : js_I 61 78 = some (.if_icmp .le 158, 3) := by decide +kernel
theorem q_61_81 : js_I 61 81 = some (.aload_n 0, 1) := by decide +kernel
theorem q_61_82 : js_I 61 82 = some (.getfield 15, 3) := by decide +kernel
theorem q_61_85 : js_I 61 85 = some (.aload_n 0, 1) := by decide +kernel
theorem q_61_86 : js_I 61 86 = some (.getfield 52, 3) := by decide +kernel
theorem q_61_89 : js_I 61 89 = some (.iconst 1, 1) := by decide +kernel
theorem q_61_90 : js_I 61 90 = some (.isub, 1) := by decide +kernel
theorem q_61_91 : js_I 61 91 = some (.iaload, 1) := by decide +kernel
theorem q_61_92 : js_I 61 92 = some (.iload 5, 2) := by decide +kernel
theorem q_61_94 : js_I 61 94 = some (.if_icmp .lt 142, 3) := by decide +kernel
theorem q_61_97 : js_I 61 97 = some (.aload_n 0, 1) := by decide +kernel
theorem q_61_98 : js_I 61 98 = some (.dup, 1) := by decide +kernel
theorem q_61_99 : js_I 61 99 = some (.getfield 52, 3) := by decide +kernel
theorem q_61_102 : js_I 61 102 = some (.iconst 1, 1) := by decide +kernel
theorem q_61_103 : js_I 61 103 = some (.isub, 1) := by decide +kernel
theorem q_61_104 : js_I 61 104 = some (.putfield 52, 3) := by decide +kernel
theorem q_61_107 : js_I 61 107 = some (.aload_n 0, 1) := by decide +kernel
theorem q_61_108 : js_I 61 108 = some (.invokevirtual 78, 3) := by decide +kernel
theorem q_61_111 : js_I 61 111 = some (.aload_n 0, 1) := by decide +kernel
theorem q_61_112 : js_I 61 112 = some (.getfield 15, 3) := by decide +kernel
theorem q_61_115 : js_I 61 115 = some (.aload_n 0, 1) := by decide +kernel
theorem q_61_116 : js_I 61 116 = some (.getfield 52, 3) := by decide +kernel
theorem q_61_119 : js_I 61 119 = some (.iaload, 1) := by decide +kernel
theorem q_61_120 : js_I 61 120 = some (.iconst 2, 1) := by decide +kernel
theorem q_61_121 : js_I 61 121 = some (.if_icmp .gt 22, 3) := by decide +kernel
theorem q_61_143 : js_I 61 143 = some (.aload_n 0, 1) := by decide +kernel
theorem q_61_144 : js_I 61 144 = some (.getfield 15, 3) := by decide +kernel
theorem q_61_147 : js_I 61 147 = some (.aload_n 0, 1) := by decide +kernel
theorem q_61_148 : js_I 61 148 = some (.getfield 52, 3) := by decide +kernel
theorem q_61_151 : js_I 61 151 = some (.iaload, 1) := by decide +kernel
theorem q_61_152 : js_I 61 152 = some (.bipush 6, 2) := by decide +kernel
theorem q_61_154 : js_I 61 154 = some (.if_icmp .ne 48, 3) := by decide +kernel
theorem q_61_157 : js_I 61 157 = some (.aload_n 0, 1) := by decide +kernel
theorem q_61_158 : js_I 61 158 = some (.getfield 33, 3) := by decide +kernel
theorem q_61_161 : js_I 61 161 = some (.dup, 1) := by decide +kernel
theorem q_61_162 : js_I 61 162 = some (.getfield 87, 3) := by decide +kernel
theorem q_61_165 : js_I 61 165 = some (.iconst 1, 1) := by decide +kernel
theorem q_61_166 : js_I 61 166 = some (.isub, 1) := by decide +kernel
theorem q_61_167 : js_I 61 167 = some (.putfield 87, 3) := by decide +kernel
theorem q_61_170 : js_I 61 170 = some (.aload_n 0, 1) := by decide +kernel
theorem q_61_171 : js_I 61 171 = some (.getfield 47, 3) := by decide +kernel
theorem q_61_174 : js_I 61 174 = some (.aload_n 0, 1) := by decide +kernel
theorem q_61_175 : js_I 61 175 = some (.getfield 11, 3) := by decide +kernel
theorem q_61_178 : js_I 61 178 = some (.aload_n 0, 1) := by decide +kernel
theorem q_61_179 : js_I 61 179 = some (.getfield 52, 3) := by decide +kernel
theorem q_61_182 : js_I 61 182 = some (.iaload, 1) := by decide +kernel
theorem q_61_183 : js_I 61 183 = some (.iconst 1, 1) := by decide +kernel
theorem q_61_184 : js_I 61 184 = some (.invokestatic 90, 3) := by decide +kernel
theorem q_61_202 : js_I 61 202 = some (.aload_n 0, 1) := by decide +kernel
theorem q_61_203 : js_I 61 203 = some (.getfield 47, 3) := by decide +kernel
theorem q_61_206 : js_I 61 206 = some (.aload_n 0, 1) := by decide +kernel
theorem q_61_207 : js_I 61 207 = some (.getfield 11, 3) := by decide +kernel
theorem q_61_210 : js_I 61 210 = some (.aload_n 0, 1) := by decide +kernel
theorem q_61_211 : js_I 61 211 = some (.getfield 52, 3) := by decide +kernel
theorem q_61_214 : js_I 61 214 = some (.iaload, 1) := by decide +kernel
theorem q_61_215 : js_I 61 215 = some (.iconst 0, 1) := by decide +kernel
theorem q_61_216 : js_I 61 216 = some (.invokestatic 90, 3) := by decide +kernel
theorem q_61_124 : js_I 61 124 = some (.aload_n 0, 1) := by decide +kernel
theorem q_61_125 : js_I 61 125 = some (.getfield 47, 3) := by decide +kernel
theorem q_61_128 : js_I 61 128 = some (.aload_n 0, 1) := by decide +kernel
theorem q_61_129 : js_I 61 129 = some (.getfield 30, 3) := by decide +kernel
theorem q_61_132 : js_I 61 132 = some (.aload_n 0, 1) := by decide +kernel
theorem q_61_133 : js_I 61 133 = some (.getfield 52, 3) := by decide +kernel
theorem q_61_136 : js_I 61 136 = some (.iaload, 1) := by decide +kernel
theorem q_61_137 : js_I 61 137 = some (.invokevirtual 81, 3) := by decide +kernel
theorem q_61_140 : js_I 61 140 = some (.goto 90, 3) := by decide +kernel
theorem q_61_187 : js_I 61 187 = some (.iconst 0, 1) := by decide +kernel
theorem q_61_188 : js_I 61 188 = some (.aload_n 0, 1) := by decide +kernel
theorem q_61_189 : js_I 61 189 = some (.getfield 94, 3) := by decide +kernel
theorem q_61_192 : js_I 61 192 = some (.aload_n 0, 1) := by decide +kernel
theorem q_61_193 : js_I 61 193 = some (.getfield 97, 3) := by decide +kernel
theorem q_61_196 : js_I 61 196 = some (.invokevirtual 100, 3) := by decide +kernel
theorem q_61_199 : js_I 61 199 = some (.goto 31, 3) := by decide +kernel
theorem q_61_219 : js_I 61 219 = some (.aload_n 0, 1) := by decide +kernel
theorem q_61_220 : js_I 61 220 = some (.getfield 94, 3) := by decide +kernel
theorem q_61_223 : js_I 61 223 = some (.aload_n 0, 1) := by decide +kernel
theorem q_61_224 : js_I 61 224 = some (.getfield 97, 3) := by decide +kernel
theorem q_61_227 : js_I 61 227 = some (.invokevirtual 104, 3) := by decide +kernel
theorem q_61_230 : js_I 61 230 = some (.iinc 6 1, 3) := by decide +kernel
theorem q_61_233 : js_I 61 233 = some (.goto (-168), 3) := by decide +kernel
theorem q_61_236 : js_I 61 236 = some (.iload 5, 2) := by decide +kernel
theorem q_61_238 : js_I 61 238 = some (.ifCond .le 7, 3) := by decide +kernel
theorem q_61_241 : js_I 61 241 = some (.iconst 1, 1) := by decide +kernel
theorem q_61_242 : js_I 61 242 = some (.goto 4, 3) := by decide +kernel
theorem q_61_245 : js_I 61 245 = some (.iconst 0, 1) := by decide +kernel
theorem q_61_246 : js_I 61 246 = some (.istore_n 3, 1) := by decide +kernel
theorem q_61_247 : js_I 61 247 = some (.iload_n 3, 1) := by decide +kernel
theorem q_61_248 : js_I 61 248 = some (.ifCond .eq 9, 3) := by decide +kernel
theorem q_61_251 : js_I 61 251 = some (.aload_n 0, 1) := by decide +kernel
theorem q_61_252 : js_I 61 252 = some (.iload 5, 2) := by decide +kernel
theorem q_61_254 : js_I 61 254 = some (.invokevirtual 108, 3) := by decide +kernel
theorem q_61_257 : js_I 61 257 = some (.iinc 4 1, 3) := by decide +kernel
theorem q_61_260 : js_I 61 260 = some (.goto (-242), 3) := by decide +kernel
theorem q_61_263 : js_I 61 263 = some (.aload_n 0, 1) := by decide +kernel
theorem q_61_264 : js_I 61 264 = some (.getfield 33, 3) := by decide +kernel
theorem q_61_267 : js_I 61 267 = some (.getfield 65, 3) := by decide +kernel
theorem q_61_270 : js_I 61 270 = some (.bipush 63, 2) := by decide +kernel
theorem q_61_272 : js_I 61 272 = some (.if_icmp .ne 7, 3) := by decide +kernel
theorem q_61_275 : js_I 61 275 = some (.aload_n 0, 1) := by decide +kernel
theorem q_61_276 : js_I 61 276 = some (.invokevirtual 111, 3) := by decide +kernel
theorem q_61_279 : js_I 61 279 = some (.aload_n 0, 1) := by decide +kernel
theorem q_61_280 : js_I 61 280 = some (.iload_n 1, 1) := by decide +kernel
theorem q_61_281 : js_I 61 281 = some (.putfield 114, 3) := by decide +kernel
theorem q_61_284 : js_I 61 284 = some (.return_, 1) := by decide +kernel
theorem q_62_0 : js_I 62 0 = some (.iconst 0, 1) := by decide +kernel
theorem q_62_1 : js_I 62 1 = some (.istore_n 1, 1) := by decide +kernel
theorem q_62_2 : js_I 62 2 = some (.iload_n 1, 1) := by decide +kernel
theorem q_62_3 : js_I 62 3 = some (.ldc 61, 2) := by decide +kernel
theorem q_62_5 : js_I 62 5 = some (.if_icmp .ge 54, 3) := by decide +kernel
theorem q_62_8 : js_I 62 8 = some (.aload_n 0, 1) := by decide +kernel
theorem q_62_9 : js_I 62 9 = some (.getfield 33, 3) := by decide +kernel
theorem q_62_12 : js_I 62 12 = some (.getfield 65, 3) := by decide +kernel
theorem q_62_15 : js_I 62 15 = some (.bipush 45, 2) := by decide +kernel
theorem q_62_17 : js_I 62 17 = some (.if_icmp .eq 15, 3) := by decide +kernel
theorem q_62_20 : js_I 62 20 = some (.aload_n 0, 1) := by decide +kernel
theorem q_62_21 : js_I 62 21 = some (.getfield 33, 3) := by decide +kernel
theorem q_62_24 : js_I 62 24 = some (.getfield 65, 3) := by decide +kernel
theorem q_62_27 : js_I 62 27 = some (.bipush 33, 2) := by decide +kernel
theorem q_62_29 : js_I 62 29 = some (.if_icmp .ne 30, 3) := by decide +kernel
theorem q_62_59 : js_I 62 59 = some (.return_, 1) := by decide +kernel
theorem q_62_32 : js_I 62 32 = some (.aload_n 0, 1) := by decide +kernel
theorem q_62_33 : js_I 62 33 = some (.bipush 6, 2) := by decide +kernel
theorem q_62_35 : js_I 62 35 = some (.iconst (-1), 1) := by decide +kernel
theorem q_62_36 : js_I 62 36 = some (.invokevirtual 120, 3) := by decide +kernel
theorem q_62_39 : js_I 62 39 = some (.aload_n 0, 1) := by decide +kernel
theorem q_62_40 : js_I 62 40 = some (.getfield 33, 3) := by decide +kernel
theorem q_62_43 : js_I 62 43 = some (.aload_n 0, 1) := by decide +kernel
theorem q_62_44 : js_I 62 44 = some (.getfield 33, 3) := by decide +kernel
theorem q_62_47 : js_I 62 47 = some (.getfield 65, 3) := by decide +kernel
theorem q_62_50 : js_I 62 50 = some (.invokevirtual 124, 3) := by decide +kernel
theorem q_62_53 : js_I 62 53 = some (.iinc 1 1, 3) := by decide +kernel
theorem q_62_56 : js_I 62 56 = some (.goto (-54), 3) := by decide +kernel
theorem q_63_0 : js_I 63 0 = some (.aload_n 0, 1) := by decide +kernel
theorem q_63_1 : js_I 63 1 = some (.getfield 52, 3) := by decide +kernel
theorem q_63_4 : js_I 63 4 = some (.sipush 512, 3) := by decide +kernel
theorem q_63_7 : js_I 63 7 = some (.if_icmp .lt 19, 3) := by decide +kernel
theorem q_63_10 : js_I 63 10 = some (.aload_n 0, 1) := by decide +kernel
theorem q_63_11 : js_I 63 11 = some (.getfield 33, 3) := by decide +kernel
theorem q_63_14 : js_I 63 14 = some (.bipush 10, 2) := by decide +kernel
theorem q_63_16 : js_I 63 16 = some (.aload_n 0, 1) := by decide +kernel
theorem q_63_17 : js_I 63 17 = some (.getfield 33, 3) := by decide +kernel
theorem q_63_20 : js_I 63 20 = some (.getfield 56, 3) := by decide +kernel
theorem q_63_23 : js_I 63 23 = some (.invokevirtual 127, 3) := by decide +kernel
theorem q_63_26 : js_I 63 26 = some (.aload_n 0, 1) := by decide +kernel
theorem q_63_27 : js_I 63 27 = some (.getfield 11, 3) := by decide +kernel
theorem q_63_30 : js_I 63 30 = some (.aload_n 0, 1) := by decide +kernel
theorem q_63_31 : js_I 63 31 = some (.getfield 52, 3) := by decide +kernel
theorem q_63_34 : js_I 63 34 = some (.aload_n 0, 1) := by decide +kernel
theorem q_63_35 : js_I 63 35 = some (.getfield 33, 3) := by decide +kernel
theorem q_63_38 : js_I 63 38 = some (.getfield 65, 3) := by decide +kernel
theorem q_63_41 : js_I 63 41 = some (.iastore, 1) := by decide +kernel
theorem q_63_42 : js_I 63 42 = some (.aload_n 0, 1) := by decide +kernel
theorem q_63_43 : js_I 63 43 = some (.getfield 15, 3) := by decide +kernel
theorem q_63_46 : js_I 63 46 = some (.aload_n 0, 1) := by decide +kernel
theorem q_63_47 : js_I 63 47 = some (.getfield 52, 3) := by decide +kernel
theorem q_63_50 : js_I 63 50 = some (.iload_n 1, 1) := by decide +kernel
theorem q_63_51 : js_I 63 51 = some (.iastore, 1) := by decide +kernel
theorem q_63_52 : js_I 63 52 = some (.aload_n 0, 1) := by decide +kernel
theorem q_63_53 : js_I 63 53 = some (.getfield 18, 3) := by decide +kernel
theorem q_63_56 : js_I 63 56 = some (.aload_n 0, 1) := by decide +kernel
theorem q_63_57 : js_I 63 57 = some (.getfield 52, 3) := by decide +kernel
theorem q_63_60 : js_I 63 60 = some (.aload_n 0, 1) := by decide +kernel
theorem q_63_61 : js_I 63 61 = some (.getfield 33, 3) := by decide +kernel
theorem q_63_64 : js_I 63 64 = some (.getfield 56, 3) := by decide +kernel
theorem q_63_67 : js_I 63 67 = some (.iastore, 1) := by decide +kernel
theorem q_63_68 : js_I 63 68 = some (.aload_n 0, 1) := by decide +kernel
theorem q_63_69 : js_I 63 69 = some (.getfield 21, 3) := by decide +kernel
theorem q_63_72 : js_I 63 72 = some (.aload_n 0, 1) := by decide +kernel
theorem q_63_73 : js_I 63 73 = some (.getfield 52, 3) := by decide +kernel
theorem q_63_76 : js_I 63 76 = some (.aload_n 0, 1) := by decide +kernel
theorem q_63_77 : js_I 63 77 = some (.getfield 130, 3) := by decide +kernel
theorem q_63_80 : js_I 63 80 = some (.iastore, 1) := by decide +kernel
theorem q_63_81 : js_I 63 81 = some (.aload_n 0, 1) := by decide +kernel
theorem q_63_82 : js_I 63 82 = some (.getfield 24, 3) := by decide +kernel
theorem q_63_85 : js_I 63 85 = some (.aload_n 0, 1) := by decide +kernel
theorem q_63_86 : js_I 63 86 = some (.getfield 52, 3) := by decide +kernel
theorem q_63_89 : js_I 63 89 = some (.aload_n 0, 1) := by decide +kernel
theorem q_63_90 : js_I 63 90 = some (.getfield 94, 3) := by decide +kernel
theorem q_63_93 : js_I 63 93 = some (.iastore, 1) := by decide +kernel
theorem q_63_94 : js_I 63 94 = some (.aload_n 0, 1) := by decide +kernel
theorem q_63_95 : js_I 63 95 = some (.getfield 27, 3) := by decide +kernel
theorem q_63_98 : js_I 63 98 = some (.aload_n 0, 1) := by decide +kernel
theorem q_63_99 : js_I 63 99 = some (.getfield 52, 3) := by decide +kernel
theorem q_63_102 : js_I 63 102 = some (.aload_n 0, 1) := by decide +kernel
theorem q_63_103 : js_I 63 103 = some (.getfield 97, 3) := by decide +kernel
theorem q_63_106 : js_I 63 106 = some (.iastore, 1) := by decide +kernel
theorem q_63_107 : js_I 63 107 = some (.aload_n 0, 1) := by decide +kernel
theorem q_63_108 : js_I 63 108 = some (.getfield 30, 3) := by decide +kernel
theorem q_63_111 : js_I 63 111 = some (.aload_n 0, 1) := by decide +kernel
theorem q_63_112 : js_I 63 112 = some (.getfield 52, 3) := by decide +kernel
theorem q_63_115 : js_I 63 115 = some (.iload_n 2, 1) := by decide +kernel
theorem q_63_116 : js_I 63 116 = some (.iastore, 1) := by decide +kernel
theorem q_63_117 : js_I 63 117 = some (.aload_n 0, 1) := by decide +kernel
theorem q_63_118 : js_I 63 118 = some (.dup, 1) := by decide +kernel
theorem q_63_119 : js_I 63 119 = some (.getfield 52, 3) := by decide +kernel
theorem q_63_122 : js_I 63 122 = some (.iconst 1, 1) := by decide +kernel
theorem q_63_123 : js_I 63 123 = some (.iadd, 1) := by decide +kernel
theorem q_63_124 : js_I 63 124 = some (.putfield 52, 3) := by decide +kernel
theorem q_63_127 : js_I 63 127 = some (.return_, 1) := by decide +kernel
theorem q_64_0 : js_I 64 0 = some (.aload_n 0, 1) := by decide +kernel
theorem q_64_1 : js_I 64 1 = some (.getfield 33, 3) := by decide +kernel
theorem q_64_4 : js_I 64 4 = some (.getfield 56, 3) := by decide +kernel
theorem q_64_7 : js_I 64 7 = some (.istore_n 1, 1) := by decide +kernel
theorem q_64_8 : js_I 64 8 = some (.aload_n 0, 1) := by decide +kernel
theorem q_64_9 : js_I 64 9 = some (.getfield 37, 3) := by decide +kernel
theorem q_64_12 : js_I 64 12 = some (.aload_n 0, 1) := by decide +kernel
theorem q_64_13 : js_I 64 13 = some (.getfield 33, 3) := by decide +kernel
theorem q_64_16 : js_I 64 16 = some (.invokevirtual 216, 3) := by decide +kernel
theorem q_64_19 : js_I 64 19 = some (.astore_n 2, 1) := by decide +kernel
theorem q_64_20 : js_I 64 20 = some (.aload_n 2, 1) := by decide +kernel
theorem q_64_21 : js_I 64 21 = some (.ifnull 12, 3) := by decide +kernel
theorem q_64_24 : js_I 64 24 = some (.aload_n 2, 1) := by decide +kernel
theorem q_64_25 : js_I 64 25 = some (.getfield 220, 3) := by decide +kernel
theorem q_64_28 : js_I 64 28 = some (.bipush 8, 2) := by decide +kernel
theorem q_64_30 : js_I 64 30 = some (.if_icmp .ne 13, 3) := by decide +kernel
theorem q_64_43 : js_I 64 43 = some (.aload_n 0, 1) := by decide +kernel
theorem q_64_44 : js_I 64 44 = some (.getfield 33, 3) := by decide +kernel
theorem q_64_47 : js_I 64 47 = some (.invokevirtual 140, 3) := by decide +kernel
theorem q_64_33 : js_I 64 33 = some (.aload_n 0, 1) := by decide +kernel
theorem q_64_34 : js_I 64 34 = some (.getfield 33, 3) := by decide +kernel
theorem q_64_37 : js_I 64 37 = some (.iconst 3, 1) := by decide +kernel
theorem q_64_38 : js_I 64 38 = some (.iload_n 1, 1) := by decide +kernel
theorem q_64_39 : js_I 64 39 = some (.invokevirtual 127, 3) := by decide +kernel
theorem q_64_42 : js_I 64 42 = some (.return_, 1) := by decide +kernel
theorem q_64_50 : js_I 64 50 = some (.aload_n 0, 1) := by decide +kernel
theorem q_64_51 : js_I 64 51 = some (.aload_n 2, 1) := by decide +kernel
theorem q_64_52 : js_I 64 52 = some (.iload_n 1, 1) := by decide +kernel
theorem q_64_53 : js_I 64 53 = some (.invokevirtual 225, 3) := by decide +kernel
theorem q_64_56 : js_I 64 56 = some (.aload_n 2, 1) := by decide +kernel
theorem q_64_57 : js_I 64 57 = some (.getfield 220, 3) := by decide +kernel
theorem q_64_60 : js_I 64 60 = some (.iconst 4, 1) := by decide +kernel
theorem q_64_61 : js_I 64 61 = some (.if_icmp .ne 29, 3) := by decide +kernel
theorem q_64_64 : js_I 64 64 = some (.aload_n 2, 1) := by decide +kernel
theorem q_64_65 : js_I 64 65 = some (.getfield 229, 3) := by decide +kernel
theorem q_64_68 : js_I 64 68 = some (.iconst 2, 1) := by decide +kernel
theorem q_64_69 : js_I 64 69 = some (.if_icmp .ne 12, 3) := by decide +kernel
theorem q_64_72 : js_I 64 72 = some (.aload_n 0, 1) := by decide +kernel
theorem q_64_73 : js_I 64 73 = some (.getfield 33, 3) := by decide +kernel
theorem q_64_76 : js_I 64 76 = some (.iconst 5, 1) := by decide +kernel
theorem q_64_77 : js_I 64 77 = some (.iload_n 1, 1) := by decide +kernel
theorem q_64_78 : js_I 64 78 = some (.invokevirtual 127, 3) := by decide +kernel
theorem q_64_90 : js_I 64 90 = some (.aload_n 2, 1) := by decide +kernel
theorem q_64_91 : js_I 64 91 = some (.getfield 233, 3) := by decide +kernel
theorem q_64_94 : js_I 64 94 = some (.ifCond .eq 35, 3) := by decide +kernel
theorem q_64_129 : js_I 64 129 = some (.aload_n 2, 1) := by decide +kernel
theorem q_64_130 : js_I 64 130 = some (.getfield 220, 3) := by decide +kernel
theorem q_64_133 : js_I 64 133 = some (.ifCond .eq 12, 3) := by decide +kernel
theorem q_64_136 : js_I 64 136 = some (.aload_n 2, 1) := by decide +kernel
theorem q_64_137 : js_I 64 137 = some (.getfield 220, 3) := by decide +kernel
theorem q_64_140 : js_I 64 140 = some (.bipush 9, 2) := by decide +kernel
theorem q_64_142 : js_I 64 142 = some (.if_icmp .ne 64, 3) := by decide +kernel
theorem q_64_206 : js_I 64 206 = some (.aload_n 0, 1) := by decide +kernel
theorem q_64_207 : js_I 64 207 = some (.aload_n 2, 1) := by decide +kernel
theorem q_64_208 : js_I 64 208 = some (.getfield 229, 3) := by decide +kernel
theorem q_64_211 : js_I 64 211 = some (.aload_n 2, 1) := by decide +kernel
theorem q_64_212 : js_I 64 212 = some (.getfield 241, 3) := by decide +kernel
theorem q_64_215 : js_I 64 215 = some (.aload_n 2, 1) := by decide +kernel
theorem q_64_216 : js_I 64 216 = some (.getfield 242, 3) := by decide +kernel
theorem q_64_219 : js_I 64 219 = some (.invokevirtual 147, 3) := by decide +kernel
theorem q_64_97 : js_I 64 97 = some (.aload_n 0, 1) := by decide +kernel
theorem q_64_98 : js_I 64 98 = some (.aload_n 2, 1) := by decide +kernel
theorem q_64_99 : js_I 64 99 = some (.invokevirtual 237, 3) := by decide +kernel
theorem q_64_81 : js_I 64 81 = some (.aload_n 0, 1) := by decide +kernel
theorem q_64_82 : js_I 64 82 = some (.aload_n 2, 1) := by decide +kernel
theorem q_64_83 : js_I 64 83 = some (.iload_n 1, 1) := by decide +kernel
theorem q_64_84 : js_I 64 84 = some (.invokevirtual 230, 3) := by decide +kernel
theorem q_64_87 : js_I 64 87 = some (.goto 151, 3) := by decide +kernel
theorem q_64_102 : js_I 64 102 = some (.aload_n 0, 1) := by decide +kernel
theorem q_64_103 : js_I 64 103 = some (.aload_n 2, 1) := by decide +kernel
theorem q_64_104 : js_I 64 104 = some (.getfield 229, 3) := by decide +kernel
theorem q_64_107 : js_I 64 107 = some (.aload_n 2, 1) := by decide +kernel
theorem q_64_108 : js_I 64 108 = some (.getfield 241, 3) := by decide +kernel
theorem q_64_111 : js_I 64 111 = some (.aload_n 2, 1) := by decide +kernel
theorem q_64_112 : js_I 64 112 = some (.getfield 242, 3) := by decide +kernel
theorem q_64_115 : js_I 64 115 = some (.invokevirtual 147, 3) := by decide +kernel
theorem q_64_118 : js_I 64 118 = some (.aload_n 0, 1) := by decide +kernel
theorem q_64_119 : js_I 64 119 = some (.getfield 47, 3) := by decide +kernel
theorem q_64_122 : js_I 64 122 = some (.aload_n 2, 1) := by decide +kernel
theorem q_64_123 : js_I 64 123 = some (.invokevirtual 243, 3) := by decide +kernel
theorem q_64_126 : js_I 64 126 = some (.goto 112, 3) := by decide +kernel
theorem q_64_145 : js_I 64 145 = some (.aload_n 0, 1) := by decide +kernel
theorem q_64_146 : js_I 64 146 = some (.aload_n 2, 1) := by decide +kernel
theorem q_64_147 : js_I 64 147 = some (.getfield 229, 3) := by decide +kernel
theorem q_64_150 : js_I 64 150 = some (.aload_n 2, 1) := by decide +kernel
theorem q_64_151 : js_I 64 151 = some (.getfield 229, 3) := by decide +kernel
theorem q_64_154 : js_I 64 154 = some (.ifCond .ne 10, 3) := by decide +kernel
theorem q_64_157 : js_I 64 157 = some (.aload_n 2, 1) := by decide +kernel
theorem q_64_158 : js_I 64 158 = some (.getfield 246, 3) := by decide +kernel
theorem q_64_161 : js_I 64 161 = some (.goto 4, 3) := by decide +kernel
theorem q_64_164 : js_I 64 164 = some (.iconst 0, 1) := by decide +kernel
theorem q_64_165 : js_I 64 165 = some (.aload_n 0, 1) := by decide +kernel
theorem q_64_166 : js_I 64 166 = some (.getfield 37, 3) := by decide +kernel
theorem q_64_169 : js_I 64 169 = some (.aload_n 2, 1) := by decide +kernel
theorem q_64_170 : js_I 64 170 = some (.getfield 229, 3) := by decide +kernel
theorem q_64_173 : js_I 64 173 = some (.aload_n 2, 1) := by decide +kernel
theorem q_64_174 : js_I 64 174 = some (.getfield 246, 3) := by decide +kernel
theorem q_64_177 : js_I 64 177 = some (.invokevirtual 249, 3) := by decide +kernel
theorem q_64_180 : js_I 64 180 = some (.invokevirtual 147, 3) := by decide +kernel
theorem q_64_183 : js_I 64 183 = some (.aload_n 0, 1) := by decide +kernel
theorem q_64_184 : js_I 64 184 = some (.getfield 47, 3) := by decide +kernel
theorem q_64_187 : js_I 64 187 = some (.iconst 0, 1) := by decide +kernel
theorem q_64_188 : js_I 64 188 = some (.aload_n 2, 1) := by decide +kernel
theorem q_64_189 : js_I 64 189 = some (.getfield 246, 3) := by decide +kernel
theorem q_64_192 : js_I 64 192 = some (.aload_n 0, 1) := by decide +kernel
theorem q_64_193 : js_I 64 193 = some (.getfield 94, 3) := by decide +kernel
theorem q_64_196 : js_I 64 196 = some (.aload_n 0, 1) := by decide +kernel
theorem q_64_197 : js_I 64 197 = some (.getfield 97, 3) := by decide +kernel
theorem q_64_200 : js_I 64 200 = some (.invokevirtual 100, 3) := by decide +kernel
theorem q_64_203 : js_I 64 203 = some (.goto 35, 3) := by decide +kernel
theorem q_64_222 : js_I 64 222 = some (.aload_n 0, 1) := by decide +kernel
theorem q_64_223 : js_I 64 223 = some (.getfield 47, 3) := by decide +kernel
theorem q_64_226 : js_I 64 226 = some (.aload_n 2, 1) := by decide +kernel
theorem q_64_227 : js_I 64 227 = some (.aload_n 0, 1) := by decide +kernel
theorem q_64_228 : js_I 64 228 = some (.getfield 94, 3) := by decide +kernel
theorem q_64_231 : js_I 64 231 = some (.aload_n 0, 1) := by decide +kernel
theorem q_64_232 : js_I 64 232 = some (.getfield 97, 3) := by decide +kernel
theorem q_64_235 : js_I 64 235 = some (.invokevirtual 252, 3) := by decide +kernel
theorem q_64_238 : js_I 64 238 = some (.return_, 1) := by decide +kernel
theorem q_65_0 : js_I 65 0 = some (.aload_n 0, 1) := by decide +kernel
theorem q_65_1 : js_I 65 1 = some (.getfield 33, 3) := by decide +kernel
theorem q_65_4 : js_I 65 4 = some (.getfield 65, 3) := by decide +kernel
theorem q_65_7 : js_I 65 7 = some (.bipush 40, 2) := by decide +kernel
theorem q_65_9 : js_I 65 9 = some (.if_icmp .ne 7, 3) := by decide +kernel
theorem q_65_12 : js_I 65 12 = some (.iconst 1, 1) := by decide +kernel
theorem q_65_13 : js_I 65 13 = some (.goto 4, 3) := by decide +kernel
theorem q_65_16 : js_I 65 16 = some (.iconst 0, 1) := by decide +kernel
theorem q_65_17 : js_I 65 17 = some (.istore_n 3, 1) := by decide +kernel
theorem q_65_18 : js_I 65 18 = some (.aload_n 0, 1) := by decide +kernel
theorem q_65_19 : js_I 65 19 = some (.getfield 33, 3) := by decide +kernel
theorem q_65_22 : js_I 65 22 = some (.getfield 65, 3) := by decide +kernel
theorem q_65_25 : js_I 65 25 = some (.bipush 91, 2) := by decide +kernel
theorem q_65_27 : js_I 65 27 = some (.if_icmp .ne 7, 3) := by decide +kernel
theorem q_65_30 : js_I 65 30 = some (.iconst 1, 1) := by decide +kernel
theorem q_65_31 : js_I 65 31 = some (.goto 4, 3) := by decide +kernel
theorem q_65_34 : js_I 65 34 = some (.iconst 0, 1) := by decide +kernel
theorem q_65_35 : js_I 65 35 = some (.istore 4, 2) := by decide +kernel
theorem q_65_37 : js_I 65 37 = some (.iload_n 3, 1) := by decide +kernel
theorem q_65_38 : js_I 65 38 = some (.aload_n 1, 1) := by decide +kernel
theorem q_65_39 : js_I 65 39 = some (.getfield 220, 3) := by decide +kernel
theorem q_65_42 : js_I 65 42 = some (.iconst 4, 1) := by decide +kernel
theorem q_65_43 : js_I 65 43 = some (.if_icmp .ne 7, 3) := by decide +kernel
theorem q_65_46 : js_I 65 46 = some (.iconst 1, 1) := by decide +kernel
theorem q_65_47 : js_I 65 47 = some (.goto 4, 3) := by decide +kernel
theorem q_65_50 : js_I 65 50 = some (.iconst 0, 1) := by decide +kernel
theorem q_65_51 : js_I 65 51 = some (.if_icmp .ne 12, 3) := by decide +kernel
theorem q_65_54 : js_I 65 54 = some (.iload 4, 2) := by decide +kernel
theorem q_65_56 : js_I 65 56 = some (.aload_n 1, 1) := by decide +kernel
theorem q_65_57 : js_I 65 57 = some (.getfield 233, 3) := by decide +kernel
theorem q_65_60 : js_I 65 60 = some (.if_icmp .eq 12, 3) := by decide +kernel
theorem q_65_63 : js_I 65 63 = some (.aload_n 0, 1) := by decide +kernel
theorem q_65_64 : js_I 65 64 = some (.getfield 33, 3) := by decide +kernel
theorem q_65_67 : js_I 65 67 = some (.iconst 3, 1) := by decide +kernel
theorem q_65_68 : js_I 65 68 = some (.iload_n 2, 1) := by decide +kernel
theorem q_65_69 : js_I 65 69 = some (.invokevirtual 127, 3) := by decide +kernel
theorem q_65_72 : js_I 65 72 = some (.return_, 1) := by decide +kernel
theorem q_66_0 : js_I 66 0 = some (.aload_n 0, 1) := by decide +kernel
theorem q_66_1 : js_I 66 1 = some (.getfield 37, 3) := by decide +kernel
theorem q_66_4 : js_I 66 4 = some (.getfield 262, 3) := by decide +kernel
theorem q_66_7 : js_I 66 7 = some (.iconst (-1), 1) := by decide +kernel
theorem q_66_8 : js_I 66 8 = some (.if_icmp .ne 7, 3) := by decide +kernel
theorem q_66_11 : js_I 66 11 = some (.iconst 1, 1) := by decide +kernel
theorem q_66_12 : js_I 66 12 = some (.goto 4, 3) := by decide +kernel
theorem q_66_15 : js_I 66 15 = some (.iconst 0, 1) := by decide +kernel
theorem q_66_16 : js_I 66 16 = some (.istore_n 3, 1) := by decide +kernel
theorem q_66_17 : js_I 66 17 = some (.aload_n 1, 1) := by decide +kernel
theorem q_66_18 : js_I 66 18 = some (.getfield 265, 3) := by decide +kernel
theorem q_66_21 : js_I 66 21 = some (.iload_n 3, 1) := by decide +kernel
theorem q_66_22 : js_I 66 22 = some (.ifCond .eq 7, 3) := by decide +kernel
theorem q_66_29 : js_I 66 29 = some (.iconst 0, 1) := by decide +kernel
theorem q_66_25 : js_I 66 25 = some (.iconst 1, 1) := by decide +kernel
theorem q_66_26 : js_I 66 26 = some (.goto 4, 3) := by decide +kernel
theorem q_66_30 : js_I 66 30 = some (.iadd, 1) := by decide +kernel
theorem q_66_31 : js_I 66 31 = some (.bipush 16, 2) := by decide +kernel
theorem q_66_33 : js_I 66 33 = some (.if_icmp .le 13, 3) := by decide +kernel
theorem q_66_36 : js_I 66 36 = some (.aload_n 0, 1) := by decide +kernel
theorem q_66_37 : js_I 66 37 = some (.getfield 33, 3) := by decide +kernel
theorem q_66_40 : js_I 66 40 = some (.bipush 10, 2) := by decide +kernel
theorem q_66_42 : js_I 66 42 = some (.iload_n 2, 1) := by decide +kernel
theorem q_66_43 : js_I 66 43 = some (.invokevirtual 127, 3) := by decide +kernel
theorem q_66_46 : js_I 66 46 = some (.aload_n 0, 1) := by decide +kernel
theorem q_66_47 : js_I 66 47 = some (.getfield 33, 3) := by decide +kernel
theorem q_66_50 : js_I 66 50 = some (.bipush 40, 2) := by decide +kernel
theorem q_66_52 : js_I 66 52 = some (.invokevirtual 124, 3) := by decide +kernel
theorem q_66_55 : js_I 66 55 = some (.aload_n 0, 1) := by decide +kernel
theorem q_66_56 : js_I 66 56 = some (.getfield 47, 3) := by decide +kernel
theorem q_66_59 : js_I 66 59 = some (.getfield 268, 3) := by decide +kernel
theorem q_66_62 : js_I 66 62 = some (.istore 4, 2) := by decide +kernel
theorem q_66_64 : js_I 66 64 = some (.iconst 0, 1) := by decide +kernel
theorem q_66_65 : js_I 66 65 = some (.istore 5, 2) := by decide +kernel
theorem q_66_67 : js_I 66 67 = some (.aload_n 0, 1) := by decide +kernel
theorem q_66_68 : js_I 66 68 = some (.getfield 33, 3) := by decide +kernel
theorem q_66_71 : js_I 66 71 = some (.getfield 65, 3) := by decide +kernel
theorem q_66_74 : js_I 66 74 = some (.bipush 41, 2) := by decide +kernel
theorem q_66_76 : js_I 66 76 = some (.if_icmp .eq 7, 3) := by decide +kernel
theorem q_66_83 : js_I 66 83 = some (.iconst 0, 1) := by decide +kernel
theorem q_66_79 : js_I 66 79 = some (.iconst 1, 1) := by decide +kernel
theorem q_66_80 : js_I 66 80 = some (.goto 4, 3) := by decide +kernel
theorem q_66_84 : js_I 66 84 = some (.istore 6, 2) := by decide +kernel
theorem q_66_86 : js_I 66 86 = some (.iconst 0, 1) := by decide +kernel
theorem q_66_87 : js_I 66 87 = some (.istore 7, 2) := by decide +kernel
theorem q_66_89 : js_I 66 89 = some (.iload 7, 2) := by decide +kernel
theorem q_66_91 : js_I 66 91 = some (.ldc 61, 2) := by decide +kernel
theorem q_66_93 : js_I 66 93 = some (.if_icmp .ge 123, 3) := by decide +kernel
theorem q_66_96 : js_I 66 96 = some (.iload 6, 2) := by decide +kernel
theorem q_66_98 : js_I 66 98 = some (.ifCond .eq 118, 3) := by decide +kernel
theorem q_66_101 : js_I 66 101 = some (.aload_n 0, 1) := by decide +kernel
theorem q_66_102 : js_I 66 102 = some (.invokevirtual 177, 3) := by decide +kernel
theorem q_66_105 : js_I 66 105 = some (.iload 5, 2) := by decide +kernel
theorem q_66_107 : js_I 66 107 = some (.aload_n 1, 1) := by decide +kernel
theorem q_66_108 : js_I 66 108 = some (.getfield 256, 3) := by decide +kernel
theorem q_66_111 : js_I 66 111 = some (.if_icmp .ge 22, 3) := by decide +kernel
theorem q_66_114 : js_I 66 114 = some (.aload_n 0, 1) := by decide +kernel
theorem q_66_115 : js_I 66 115 = some (.getfield 37, 3) := by decide +kernel
theorem q_66_118 : js_I 66 118 = some (.aload_n 1, 1) := by decide +kernel
theorem q_66_119 : js_I 66 119 = some (.getfield 271, 3) := by decide +kernel
theorem q_66_122 : js_I 66 122 = some (.iconst 1, 1) := by decide +kernel
theorem q_66_123 : js_I 66 123 = some (.iadd, 1) := by decide +kernel
theorem q_66_124 : js_I 66 124 = some (.iload 5, 2) := by decide +kernel
theorem q_66_126 : js_I 66 126 = some (.iadd, 1) := by decide +kernel
theorem q_66_127 : js_I 66 127 = some (.invokevirtual 273, 3) := by decide +kernel
theorem q_66_133 : js_I 66 133 = some (.aconst_null, 1) := by decide +kernel
theorem q_66_130 : js_I 66 130 = some (.goto 4, 3) := by decide +kernel
theorem q_66_134 : js_I 66 134 = some (.astore 8, 2) := by decide +kernel
theorem q_66_136 : js_I 66 136 = some (.aload 8, 2) := by decide +kernel
theorem q_66_138 : js_I 66 138 = some (.ifnull 38, 3) := by decide +kernel
theorem q_66_141 : js_I 66 141 = some (.aload_n 0, 1) := by decide +kernel
theorem q_66_142 : js_I 66 142 = some (.aload 8, 2) := by decide +kernel
theorem q_66_144 : js_I 66 144 = some (.getfield 229, 3) := by decide +kernel
theorem q_66_147 : js_I 66 147 = some (.aload 8, 2) := by decide +kernel
theorem q_66_149 : js_I 66 149 = some (.getfield 241, 3) := by decide +kernel
theorem q_66_152 : js_I 66 152 = some (.aload 8, 2) := by decide +kernel
theorem q_66_154 : js_I 66 154 = some (.getfield 242, 3) := by decide +kernel
theorem q_66_157 : js_I 66 157 = some (.invokevirtual 259, 3) := by decide +kernel
theorem q_66_160 : js_I 66 160 = some (.aload_n 0, 1) := by decide +kernel
theorem q_66_161 : js_I 66 161 = some (.getfield 47, 3) := by decide +kernel
theorem q_66_164 : js_I 66 164 = some (.aload_n 0, 1) := by decide +kernel
theorem q_66_165 : js_I 66 165 = some (.getfield 94, 3) := by decide +kernel
theorem q_66_168 : js_I 66 168 = some (.aload_n 0, 1) := by decide +kernel
theorem q_66_169 : js_I 66 169 = some (.getfield 97, 3) := by decide +kernel
theorem q_66_172 : js_I 66 172 = some (.invokevirtual 137, 3) := by decide +kernel
theorem q_66_175 : js_I 66 175 = some (.pop, 1) := by decide +kernel
theorem q_66_176 : js_I 66 176 = some (.iinc 5 1, 3) := by decide +kernel
theorem q_66_179 : js_I 66 179 = some (.aload_n 0, 1) := by decide +kernel
theorem q_66_180 : js_I 66 180 = some (.getfield 33, 3) := by decide +kernel
theorem q_66_183 : js_I 66 183 = some (.getfield 65, 3) := by decide +kernel
theorem q_66_186 : js_I 66 186 = some (.bipush 44, 2) := by decide +kernel
theorem q_66_188 : js_I 66 188 = some (.if_icmp .ne 7, 3) := by decide +kernel
theorem q_66_191 : js_I 66 191 = some (.iconst 1, 1) := by decide +kernel
theorem q_66_192 : js_I 66 192 = some (.goto 4, 3) := by decide +kernel
theorem q_66_195 : js_I 66 195 = some (.iconst 0, 1) := by decide +kernel
theorem q_66_196 : js_I 66 196 = some (.istore 6, 2) := by decide +kernel
theorem q_66_198 : js_I 66 198 = some (.iload 6, 2) := by decide +kernel
theorem q_66_200 : js_I 66 200 = some (.ifCond .eq 10, 3) := by decide +kernel
theorem q_66_203 : js_I 66 203 = some (.aload_n 0, 1) := by decide +kernel
theorem q_66_204 : js_I 66 204 = some (.getfield 33, 3) := by decide +kernel
theorem q_66_207 : js_I 66 207 = some (.invokevirtual 140, 3) := by decide +kernel
theorem q_66_210 : js_I 66 210 = some (.iinc 7 1, 3) := by decide +kernel
theorem q_66_213 : js_I 66 213 = some (.goto (-124), 3) := by decide +kernel
theorem q_66_216 : js_I 66 216 = some (.aload_n 0, 1) := by decide +kernel
theorem q_66_217 : js_I 66 217 = some (.getfield 33, 3) := by decide +kernel
theorem q_66_220 : js_I 66 220 = some (.getfield 65, 3) := by decide +kernel
theorem q_66_223 : js_I 66 223 = some (.bipush 41, 2) := by decide +kernel
theorem q_66_225 : js_I 66 225 = some (.if_icmp .ne 28, 3) := by decide +kernel
theorem q_66_228 : js_I 66 228 = some (.iload 5, 2) := by decide +kernel
theorem q_66_230 : js_I 66 230 = some (.aload_n 1, 1) := by decide +kernel
theorem q_66_231 : js_I 66 231 = some (.getfield 256, 3) := by decide +kernel
theorem q_66_234 : js_I 66 234 = some (.if_icmp .eq 19, 3) := by decide +kernel
theorem q_66_237 : js_I 66 237 = some (.aload_n 0, 1) := by decide +kernel
theorem q_66_238 : js_I 66 238 = some (.getfield 33, 3) := by decide +kernel
theorem q_66_241 : js_I 66 241 = some (.bipush 9, 2) := by decide +kernel
theorem q_66_243 : js_I 66 243 = some (.aload_n 0, 1) := by decide +kernel
theorem q_66_244 : js_I 66 244 = some (.getfield 33, 3) := by decide +kernel
theorem q_66_247 : js_I 66 247 = some (.getfield 56, 3) := by decide +kernel
theorem q_66_250 : js_I 66 250 = some (.invokevirtual 127, 3) := by decide +kernel
theorem q_66_253 : js_I 66 253 = some (.aload_n 0, 1) := by decide +kernel
theorem q_66_254 : js_I 66 254 = some (.getfield 33, 3) := by decide +kernel
theorem q_66_257 : js_I 66 257 = some (.bipush 41, 2) := by decide +kernel
theorem q_66_259 : js_I 66 259 = some (.invokevirtual 191, 3) := by decide +kernel
theorem q_66_262 : js_I 66 262 = some (.iconst 0, 1) := by decide +kernel
theorem q_66_263 : js_I 66 263 = some (.istore 7, 2) := by decide +kernel
theorem q_66_265 : js_I 66 265 = some (.iload 7, 2) := by decide +kernel
theorem q_66_267 : js_I 66 267 = some (.aload_n 1, 1) := by decide +kernel
theorem q_66_268 : js_I 66 268 = some (.getfield 256, 3) := by decide +kernel
theorem q_66_271 : js_I 66 271 = some (.if_icmp .ge 46, 3) := by decide +kernel
theorem q_66_274 : js_I 66 274 = some (.aload_n 0, 1) := by decide +kernel
theorem q_66_275 : js_I 66 275 = some (.getfield 37, 3) := by decide +kernel
theorem q_66_278 : js_I 66 278 = some (.aload_n 1, 1) := by decide +kernel
theorem q_66_279 : js_I 66 279 = some (.getfield 271, 3) := by decide +kernel
theorem q_66_282 : js_I 66 282 = some (.iconst 1, 1) := by decide +kernel
theorem q_66_283 : js_I 66 283 = some (.iadd, 1) := by decide +kernel
theorem q_66_284 : js_I 66 284 = some (.iload 7, 2) := by decide +kernel
theorem q_66_286 : js_I 66 286 = some (.iadd, 1) := by decide +kernel
theorem q_66_287 : js_I 66 287 = some (.invokevirtual 273, 3) := by decide +kernel
theorem q_66_317 : js_I 66 317 = some (.aload_n 0, 1) := by decide +kernel
theorem q_66_318 : js_I 66 318 = some (.getfield 47, 3) := by decide +kernel
theorem q_66_321 : js_I 66 321 = some (.iload 4, 2) := by decide +kernel
theorem q_66_323 : js_I 66 323 = some (.putfield 268, 3) := by decide +kernel
theorem q_66_326 : js_I 66 326 = some (.aload_n 0, 1) := by decide +kernel
theorem q_66_327 : js_I 66 327 = some (.getfield 47, 3) := by decide +kernel
theorem q_66_330 : js_I 66 330 = some (.aload_n 1, 1) := by decide +kernel
theorem q_66_331 : js_I 66 331 = some (.invokevirtual 281, 3) := by decide +kernel
theorem q_66_290 : js_I 66 290 = some (.astore 8, 2) := by decide +kernel
theorem q_66_292 : js_I 66 292 = some (.aload 8, 2) := by decide +kernel
theorem q_66_294 : js_I 66 294 = some (.ifnull 17, 3) := by decide +kernel
theorem q_66_297 : js_I 66 297 = some (.aload_n 0, 1) := by decide +kernel
theorem q_66_298 : js_I 66 298 = some (.getfield 47, 3) := by decide +kernel
theorem q_66_301 : js_I 66 301 = some (.iload 4, 2) := by decide +kernel
theorem q_66_303 : js_I 66 303 = some (.iload 7, 2) := by decide +kernel
theorem q_66_305 : js_I 66 305 = some (.iadd, 1) := by decide +kernel
theorem q_66_306 : js_I 66 306 = some (.aload 8, 2) := by decide +kernel
theorem q_66_308 : js_I 66 308 = some (.invokevirtual 277, 3) := by decide +kernel
theorem q_66_311 : js_I 66 311 = some (.iinc 7 1, 3) := by decide +kernel
theorem q_66_314 : js_I 66 314 = some (.goto (-49), 3) := by decide +kernel
theorem q_66_334 : js_I 66 334 = some (.aload_n 0, 1) := by decide +kernel
theorem q_66_335 : js_I 66 335 = some (.aload_n 1, 1) := by decide +kernel
theorem q_66_336 : js_I 66 336 = some (.getfield 229, 3) := by decide +kernel
theorem q_66_339 : js_I 66 339 = some (.aload_n 1, 1) := by decide +kernel
theorem q_66_340 : js_I 66 340 = some (.getfield 241, 3) := by decide +kernel
theorem q_66_343 : js_I 66 343 = some (.aload_n 1, 1) := by decide +kernel
theorem q_66_344 : js_I 66 344 = some (.getfield 242, 3) := by decide +kernel
theorem q_66_347 : js_I 66 347 = some (.invokevirtual 147, 3) := by decide +kernel
theorem q_66_350 : js_I 66 350 = some (.return_, 1) := by decide +kernel
theorem q_67_0 : js_I 67 0 = some (.iload_n 1, 1) := by decide +kernel
theorem q_67_1 : js_I 67 1 = some (.ifCond .lt 20, 3) := by decide +kernel
theorem q_67_21 : js_I 67 21 = some (.aconst_null, 1) := by decide +kernel
theorem q_67_22 : js_I 67 22 = some (.goto 9, 3) := by decide +kernel
theorem q_67_31 : js_I 67 31 = some (.areturn, 1) := by decide +kernel
theorem q_67_4 : js_I 67 4 = some (.iload_n 1, 1) := by decide +kernel
theorem q_67_5 : js_I 67 5 = some (.aload_n 0, 1) := by decide +kernel
theorem q_67_6 : js_I 67 6 = some (.getfield 31, 3) := by decide +kernel
theorem q_67_9 : js_I 67 9 = some (.if_icmp .ge 12, 3) := by decide +kernel
theorem q_67_12 : js_I 67 12 = some (.iload_n 1, 1) := by decide +kernel
theorem q_67_13 : js_I 67 13 = some (.aload_n 0, 1) := by decide +kernel
theorem q_67_14 : js_I 67 14 = some (.getfield 20, 3) := by decide +kernel
theorem q_67_17 : js_I 67 17 = some (.arraylength, 1) := by decide +kernel
theorem q_67_18 : js_I 67 18 = some (.if_icmp .lt 7, 3) := by decide +kernel
theorem q_67_25 : js_I 67 25 = some (.aload_n 0, 1) := by decide +kernel
theorem q_67_26 : js_I 67 26 = some (.getfield 20, 3) := by decide +kernel
theorem q_67_29 : js_I 67 29 = some (.iload_n 1, 1) := by decide +kernel
theorem q_67_30 : js_I 67 30 = some (.aaload, 1) := by decide +kernel
theorem q_68_0 : js_I 68 0 = some (.aload_n 0, 1) := by decide +kernel
theorem q_68_1 : js_I 68 1 = some (.getfield 130, 3) := by decide +kernel
theorem q_68_4 : js_I 68 4 = some (.iload_n 1, 1) := by decide +kernel
theorem q_68_5 : js_I 68 5 = some (.if_icmp .eq 15, 3) := by decide +kernel
theorem q_68_8 : js_I 68 8 = some (.aload_n 0, 1) := by decide +kernel
theorem q_68_9 : js_I 68 9 = some (.getfield 33, 3) := by decide +kernel
theorem q_68_12 : js_I 68 12 = some (.iconst 5, 1) := by decide +kernel
theorem q_68_13 : js_I 68 13 = some (.aload_n 0, 1) := by decide +kernel
theorem q_68_14 : js_I 68 14 = some (.getfield 114, 3) := by decide +kernel
theorem q_68_17 : js_I 68 17 = some (.invokevirtual 127, 3) := by decide +kernel
theorem q_68_20 : js_I 68 20 = some (.aload_n 0, 1) := by decide +kernel
theorem q_68_21 : js_I 68 21 = some (.getfield 94, 3) := by decide +kernel
theorem q_68_24 : js_I 68 24 = some (.iload_n 2, 1) := by decide +kernel
theorem q_68_25 : js_I 68 25 = some (.if_icmp .lt 11, 3) := by decide +kernel
theorem q_68_28 : js_I 68 28 = some (.aload_n 0, 1) := by decide +kernel
theorem q_68_29 : js_I 68 29 = some (.getfield 97, 3) := by decide +kernel
theorem q_68_32 : js_I 68 32 = some (.iload_n 3, 1) := by decide +kernel
theorem q_68_33 : js_I 68 33 = some (.if_icmp .le 16, 3) := by decide +kernel
theorem q_68_36 : js_I 68 36 = some (.aload_n 0, 1) := by decide +kernel
theorem q_68_37 : js_I 68 37 = some (.getfield 33, 3) := by decide +kernel
theorem q_68_40 : js_I 68 40 = some (.bipush 6, 2) := by decide +kernel
theorem q_68_42 : js_I 68 42 = some (.aload_n 0, 1) := by decide +kernel
theorem q_68_43 : js_I 68 43 = some (.getfield 114, 3) := by decide +kernel
theorem q_68_46 : js_I 68 46 = some (.invokevirtual 127, 3) := by decide +kernel
theorem q_68_49 : js_I 68 49 = some (.return_, 1) := by decide +kernel
theorem q_69_0 : js_I 69 0 = some (.aload_n 0, 1) := by decide +kernel
theorem q_69_1 : js_I 69 1 = some (.getfield 58, 3) := by decide +kernel
theorem q_69_4 : js_I 69 4 = some (.istore_n 3, 1) := by decide +kernel
theorem q_69_5 : js_I 69 5 = some (.aload_n 0, 1) := by decide +kernel
theorem q_69_6 : js_I 69 6 = some (.dup, 1) := by decide +kernel
theorem q_69_7 : js_I 69 7 = some (.getfield 58, 3) := by decide +kernel
theorem q_69_10 : js_I 69 10 = some (.iconst 1, 1) := by decide +kernel
theorem q_69_11 : js_I 69 11 = some (.iadd, 1) := by decide +kernel
theorem q_69_12 : js_I 69 12 = some (.putfield 58, 3) := by decide +kernel
theorem q_69_15 : js_I 69 15 = some (.aload_n 0, 1) := by decide +kernel
theorem q_69_16 : js_I 69 16 = some (.aload_n 0, 1) := by decide +kernel
theorem q_69_17 : js_I 69 17 = some (.getfield 61, 3) := by decide +kernel
theorem q_69_20 : js_I 69 20 = some (.aload_n 0, 1) := by decide +kernel
theorem q_69_21 : js_I 69 21 = some (.getfield 58, 3) := by decide +kernel
theorem q_69_24 : js_I 69 24 = some (.invokestatic 97, 3) := by decide +kernel
theorem q_69_27 : js_I 69 27 = some (.putfield 61, 3) := by decide +kernel
theorem q_69_30 : js_I 69 30 = some (.iload_n 3, 1) := by decide +kernel
theorem q_69_31 : js_I 69 31 = some (.sipush 1024, 3) := by decide +kernel
theorem q_69_34 : js_I 69 34 = some (.if_icmp .ge 17, 3) := by decide +kernel
theorem q_69_37 : js_I 69 37 = some (.aload_n 0, 1) := by decide +kernel
theorem q_69_38 : js_I 69 38 = some (.getfield 36, 3) := by decide +kernel
theorem q_69_41 : js_I 69 41 = some (.iload_n 3, 1) := by decide +kernel
theorem q_69_42 : js_I 69 42 = some (.iload_n 1, 1) := by decide +kernel
theorem q_69_43 : js_I 69 43 = some (.iastore, 1) := by decide +kernel
theorem q_69_44 : js_I 69 44 = some (.aload_n 0, 1) := by decide +kernel
theorem q_69_45 : js_I 69 45 = some (.getfield 39, 3) := by decide +kernel
theorem q_69_48 : js_I 69 48 = some (.iload_n 3, 1) := by decide +kernel
theorem q_69_49 : js_I 69 49 = some (.iload_n 2, 1) := by decide +kernel
theorem q_69_50 : js_I 69 50 = some (.iastore, 1) := by decide +kernel
theorem q_69_51 : js_I 69 51 = some (.aload_n 0, 1) := by decide +kernel
theorem q_69_52 : js_I 69 52 = some (.iconst 2, 1) := by decide +kernel
theorem q_69_53 : js_I 69 53 = some (.iload_n 3, 1) := by decide +kernel
theorem q_69_54 : js_I 69 54 = some (.iconst 0, 1) := by decide +kernel
theorem q_69_55 : js_I 69 55 = some (.iconst 1, 1) := by decide +kernel
theorem q_69_56 : js_I 69 56 = some (.iconst 0, 1) := by decide +kernel
theorem q_69_57 : js_I 69 57 = some (.aload_n 0, 1) := by decide +kernel
theorem q_69_58 : js_I 69 58 = some (.invokevirtual 100, 3) := by decide +kernel
theorem q_69_61 : js_I 69 61 = some (.invokevirtual 74, 3) := by decide +kernel
theorem q_69_64 : js_I 69 64 = some (.iload_n 3, 1) := by decide +kernel
theorem q_69_65 : js_I 69 65 = some (.ireturn, 1) := by decide +kernel
theorem q_70_0 : js_I 70 0 = some (.iconst 2, 1) := by decide +kernel
theorem q_70_1 : js_I 70 1 = some (.aload_n 0, 1) := by decide +kernel
theorem q_70_2 : js_I 70 2 = some (.getfield 46, 3) := by decide +kernel
theorem q_70_5 : js_I 70 5 = some (.imul, 1) := by decide +kernel
theorem q_70_6 : js_I 70 6 = some (.iconst 2, 1) := by decide +kernel
theorem q_70_7 : js_I 70 7 = some (.iadd, 1) := by decide +kernel
theorem q_70_8 : js_I 70 8 = some (.ireturn, 1) := by decide +kernel
theorem q_71_0 : js_I 71 0 = some (.iload_n 1, 1) := by decide +kernel
theorem q_71_1 : js_I 71 1 = some (.ifCond .lt 14, 3) := by decide +kernel
theorem q_71_4 : js_I 71 4 = some (.iload_n 1, 1) := by decide +kernel
theorem q_71_5 : js_I 71 5 = some (.sipush 1024, 3) := by decide +kernel
theorem q_71_8 : js_I 71 8 = some (.if_icmp .ge 7, 3) := by decide +kernel
theorem q_71_11 : js_I 71 11 = some (.iconst 1, 1) := by decide +kernel
theorem q_71_12 : js_I 71 12 = some (.goto 4, 3) := by decide +kernel
theorem q_71_15 : js_I 71 15 = some (.iconst 0, 1) := by decide +kernel
theorem q_71_16 : js_I 71 16 = some (.istore_n 3, 1) := by decide +kernel
theorem q_71_17 : js_I 71 17 = some (.aload_n 0, 1) := by decide +kernel
theorem q_71_18 : js_I 71 18 = some (.iconst 1, 1) := by decide +kernel
theorem q_71_19 : js_I 71 19 = some (.iload_n 1, 1) := by decide +kernel
theorem q_71_20 : js_I 71 20 = some (.iconst 0, 1) := by decide +kernel
theorem q_71_21 : js_I 71 21 = some (.iload_n 3, 1) := by decide +kernel
theorem q_71_22 : js_I 71 22 = some (.ifCond .eq 12, 3) := by decide +kernel
theorem q_71_34 : js_I 71 34 = some (.iconst 0, 1) := by decide +kernel
theorem q_71_25 : js_I 71 25 = some (.aload_n 0, 1) := by decide +kernel
theorem q_71_26 : js_I 71 26 = some (.getfield 36, 3) := by decide +kernel
theorem q_71_29 : js_I 71 29 = some (.iload_n 1, 1) := by decide +kernel
theorem q_71_30 : js_I 71 30 = some (.iaload, 1) := by decide +kernel
theorem q_71_31 : js_I 71 31 = some (.goto 4, 3) := by decide +kernel
theorem q_71_35 : js_I 71 35 = some (.iload_n 3, 1) := by decide +kernel
theorem q_71_36 : js_I 71 36 = some (.ifCond .eq 12, 3) := by decide +kernel
theorem q_71_48 : js_I 71 48 = some (.iconst 0, 1) := by decide +kernel
theorem q_71_39 : js_I 71 39 = some (.aload_n 0, 1) := by decide +kernel
theorem q_71_40 : js_I 71 40 = some (.getfield 39, 3) := by decide +kernel
theorem q_71_43 : js_I 71 43 = some (.iload_n 1, 1) := by decide +kernel
theorem q_71_44 : js_I 71 44 = some (.iaload, 1) := by decide +kernel
theorem q_71_45 : js_I 71 45 = some (.goto 4, 3) := by decide +kernel
theorem q_71_49 : js_I 71 49 = some (.aload_n 0, 1) := by decide +kernel
theorem q_71_50 : js_I 71 50 = some (.invokevirtual 100, 3) := by decide +kernel
theorem q_71_53 : js_I 71 53 = some (.invokevirtual 74, 3) := by decide +kernel
theorem q_71_56 : js_I 71 56 = some (.aload_n 0, 1) := by decide +kernel
theorem q_71_57 : js_I 71 57 = some (.iconst 2, 1) := by decide +kernel
theorem q_71_58 : js_I 71 58 = some (.aload_n 2, 1) := by decide +kernel
theorem q_71_59 : js_I 71 59 = some (.getfield 81, 3) := by decide +kernel
theorem q_71_62 : js_I 71 62 = some (.iconst 0, 1) := by decide +kernel
theorem q_71_63 : js_I 71 63 = some (.iconst 1, 1) := by decide +kernel
theorem q_71_64 : js_I 71 64 = some (.iconst 0, 1) := by decide +kernel
theorem q_71_65 : js_I 71 65 = some (.aload_n 2, 1) := by decide +kernel
theorem q_71_66 : js_I 71 66 = some (.invokestatic 84, 3) := by decide +kernel
theorem q_71_69 : js_I 71 69 = some (.invokevirtual 74, 3) := by decide +kernel
theorem q_71_72 : js_I 71 72 = some (.return_, 1) := by decide +kernel
theorem qf_5_33 : ip_lk (vt_FL.getD 5 []) 33 = some (5, 4) := by decide +kernel
theorem qf_5_56 : ip_lk (vt_FL.getD 5 []) 56 = some (8, 2) := by decide +kernel
theorem qf_5_65 : ip_lk (vt_FL.getD 5 []) 65 = some (8, 1) := by decide +kernel
theorem qf_5_15 : ip_lk (vt_FL.getD 5 []) 15 = some (5, 9) := by decide +kernel
theorem qf_5_87 : ip_lk (vt_FL.getD 5 []) 87 = some (8, 5) := by decide +kernel
theorem qf_5_47 : ip_lk (vt_FL.getD 5 []) 47 = some (5, 6) := by decide +kernel
theorem qf_5_11 : ip_lk (vt_FL.getD 5 []) 11 = some (5, 8) := by decide +kernel
theorem qf_5_30 : ip_lk (vt_FL.getD 5 []) 30 = some (5, 14) := by decide +kernel
theorem qf_5_94 : ip_lk (vt_FL.getD 5 []) 94 = some (5, 1) := by decide +kernel
theorem qf_5_97 : ip_lk (vt_FL.getD 5 []) 97 = some (5, 2) := by decide +kernel
theorem qf_5_114 : ip_lk (vt_FL.getD 5 []) 114 = some (5, 3) := by decide +kernel
theorem qf_5_18 : ip_lk (vt_FL.getD 5 []) 18 = some (5, 10) := by decide +kernel
theorem qf_5_21 : ip_lk (vt_FL.getD 5 []) 21 = some (5, 11) := by decide +kernel
theorem qf_5_130 : ip_lk (vt_FL.getD 5 []) 130 = some (5, 0) := by decide +kernel
theorem qf_5_24 : ip_lk (vt_FL.getD 5 []) 24 = some (5, 12) := by decide +kernel
theorem qf_5_27 : ip_lk (vt_FL.getD 5 []) 27 = some (5, 13) := by decide +kernel
theorem qf_5_37 : ip_lk (vt_FL.getD 5 []) 37 = some (5, 5) := by decide +kernel
theorem qf_5_220 : ip_lk (vt_FL.getD 5 []) 220 = some (11, 1) := by decide +kernel
theorem qf_5_229 : ip_lk (vt_FL.getD 5 []) 229 = some (11, 2) := by decide +kernel
theorem qf_5_233 : ip_lk (vt_FL.getD 5 []) 233 = some (11, 12) := by decide +kernel
theorem qf_5_241 : ip_lk (vt_FL.getD 5 []) 241 = some (11, 3) := by decide +kernel
theorem qf_5_242 : ip_lk (vt_FL.getD 5 []) 242 = some (11, 4) := by decide +kernel
theorem qf_5_246 : ip_lk (vt_FL.getD 5 []) 246 = some (11, 8) := by decide +kernel
theorem qf_5_262 : ip_lk (vt_FL.getD 5 []) 262 = some (7, 3) := by decide +kernel
theorem qf_5_265 : ip_lk (vt_FL.getD 5 []) 265 = some (11, 10) := by decide +kernel
theorem qf_5_268 : ip_lk (vt_FL.getD 5 []) 268 = some (1, 10) := by decide +kernel
theorem qf_5_256 : ip_lk (vt_FL.getD 5 []) 256 = some (11, 6) := by decide +kernel
theorem qf_5_271 : ip_lk (vt_FL.getD 5 []) 271 = some (11, 0) := by decide +kernel
theorem qf_1_36 : ip_lk (vt_FL.getD 1 []) 36 = some (1, 15) := by decide +kernel
theorem qf_1_39 : ip_lk (vt_FL.getD 1 []) 39 = some (1, 16) := by decide +kernel
theorem qf_1_81 : ip_lk (vt_FL.getD 1 []) 81 = some (11, 5) := by decide +kernel
theorem qm_5_62 : ip_lk (vt_ML.getD 5 []) 62 = some (62, 0, 1, 5) := by decide +kernel
theorem qm_5_68 : ip_lk (vt_ML.getD 5 []) 68 = some (64, 0, 1, 5) := by decide +kernel
theorem qm_5_71 : ip_lk (vt_ML.getD 5 []) 71 = some (79, 0, 1, 5) := by decide +kernel
theorem qm_5_74 : ip_lk (vt_ML.getD 5 []) 74 = some (85, 1, 1, 5) := by decide +kernel
theorem qm_5_78 : ip_lk (vt_ML.getD 5 []) 78 = some (87, 0, 1, 5) := by decide +kernel
theorem qm_5_81 : ip_lk (vt_ML.getD 5 []) 81 = some (91, 1, 1, 1) := by decide +kernel
theorem qm_5_90 : ip_lk (vt_ML.getD 5 []) 90 = some (93, 2, 0, 0) := by decide +kernel
theorem qm_5_100 : ip_lk (vt_ML.getD 5 []) 100 = some (59, 4, 1, 1) := by decide +kernel
theorem qm_5_104 : ip_lk (vt_ML.getD 5 []) 104 = some (82, 3, 1, 1) := by decide +kernel
theorem qm_5_108 : ip_lk (vt_ML.getD 5 []) 108 = some (94, 1, 1, 5) := by decide +kernel
theorem qm_5_111 : ip_lk (vt_ML.getD 5 []) 111 = some (96, 0, 1, 5) := by decide +kernel
theorem qm_5_120 : ip_lk (vt_ML.getD 5 []) 120 = some (63, 2, 1, 5) := by decide +kernel
theorem qm_5_124 : ip_lk (vt_ML.getD 5 []) 124 = some (47, 1, 1, 8) := by decide +kernel
theorem qm_5_127 : ip_lk (vt_ML.getD 5 []) 127 = some (36, 2, 1, 8) := by decide +kernel
theorem qm_5_216 : ip_lk (vt_ML.getD 5 []) 216 = some (37, 1, 1, 7) := by decide +kernel
theorem qm_5_140 : ip_lk (vt_ML.getD 5 []) 140 = some (33, 0, 1, 8) := by decide +kernel
theorem qm_5_225 : ip_lk (vt_ML.getD 5 []) 225 = some (65, 2, 1, 5) := by decide +kernel
theorem qm_5_230 : ip_lk (vt_ML.getD 5 []) 230 = some (66, 2, 1, 5) := by decide +kernel
theorem qm_5_237 : ip_lk (vt_ML.getD 5 []) 237 = some (76, 1, 1, 5) := by decide +kernel
theorem qm_5_147 : ip_lk (vt_ML.getD 5 []) 147 = some (75, 3, 1, 5) := by decide +kernel
theorem qm_5_243 : ip_lk (vt_ML.getD 5 []) 243 = some (77, 1, 1, 1) := by decide +kernel
theorem qm_5_249 : ip_lk (vt_ML.getD 5 []) 249 = some (58, 2, 1, 7) := by decide +kernel
theorem qm_5_252 : ip_lk (vt_ML.getD 5 []) 252 = some (78, 3, 1, 1) := by decide +kernel
theorem qm_5_177 : ip_lk (vt_ML.getD 5 []) 177 = some (61, 0, 1, 5) := by decide +kernel
theorem qm_5_273 : ip_lk (vt_ML.getD 5 []) 273 = some (67, 1, 1, 7) := by decide +kernel
theorem qm_5_259 : ip_lk (vt_ML.getD 5 []) 259 = some (68, 3, 1, 5) := by decide +kernel
theorem qm_5_137 : ip_lk (vt_ML.getD 5 []) 137 = some (69, 2, 1, 1) := by decide +kernel
theorem qm_5_191 : ip_lk (vt_ML.getD 5 []) 191 = some (48, 1, 1, 8) := by decide +kernel
theorem qm_5_277 : ip_lk (vt_ML.getD 5 []) 277 = some (71, 2, 1, 1) := by decide +kernel
theorem qm_5_281 : ip_lk (vt_ML.getD 5 []) 281 = some (73, 1, 1, 1) := by decide +kernel
theorem qm_1_97 : ip_lk (vt_ML.getD 1 []) 97 = some (1, 2, 4, 0) := by decide +kernel
theorem qm_1_100 : ip_lk (vt_ML.getD 1 []) 100 = some (70, 0, 1, 1) := by decide +kernel
theorem qm_1_84 : ip_lk (vt_ML.getD 1 []) 84 = some (72, 1, 0, 0) := by decide +kernel
theorem qc_5_61 : ip_lk (vt_CL.getD 5 []) 61 = some (js_V (0, 1000000)) := by decide +kernel
theorem ww_512 : js_w 512 = 512 := by decide +kernel
theorem ww_1024 : js_w 1024 = 1024 := by decide +kernel
-- 61: VitalTwin$Expressions.expression ()V
theorem b_61_0 {E : js_E} {d : Nat} {σ : js_S} {b : Int} (hb : b = 0 ∨ b = 25) : js_J E d 61 0 [(2, 23 + b), (9, 0), (9, 0), (9, 0), (9, 0), (9, 0), (9, 0)] [] σ = js_J E d 61 18 [(2, 23 + b), (0, σ 1 2), (0, σ (23 + b) 15), (0, 1), (0, 0), (9, 0), (9, 0)] [] σ :=
  (j_aload_n q_61_0 rfl).trans <| (j_get (ji := 4) (v := (2, 1)) q_61_1 (js_Fo qy_61 qf_5_33) (js_o23b hb) rfl rfl rfl rfl).trans <| (j_get (ji := 2) (v := (0, σ 1 2)) q_61_4 (js_Fo qy_61 qf_5_56) js_o1 rfl rfl rfl rfl).trans <| (j_istore_n (l2 := [(2, 23 + b), (0, σ 1 2), (9, 0), (9, 0), (9, 0), (9, 0), (9, 0)]) q_61_7 rfl (Nat.le_of_ble_eq_true rfl)).trans <| (j_aload_n q_61_8 rfl).trans <| (j_get (ji := 15) (v := (0, σ (23 + b) 15)) q_61_9 (js_Fo qy_61 qf_5_52) (js_o23b hb) rfl rfl rfl rfl).trans <| (j_istore_n (l2 := [(2, 23 + b), (0, σ 1 2), (0, σ (23 + b) 15), (9, 0), (9, 0), (9, 0), (9, 0)]) q_61_12 rfl (Nat.le_of_ble_eq_true rfl)).trans <| (j_iconst q_61_13).trans <| (j_istore_n (l2 := [(2, 23 + b), (0, σ 1 2), (0, σ (23 + b) 15), (0, 1), (9, 0), (9, 0), (9, 0)]) q_61_14 rfl (Nat.le_of_ble_eq_true rfl)).trans <| (j_iconst q_61_15).trans <| (j_istore (l2 := [(2, 23 + b), (0, σ 1 2), (0, σ (23 + b) 15), (0, 1), (0, 0), (9, 0), (9, 0)]) q_61_16 rfl (Nat.le_of_ble_eq_true rfl)).trans <| rfl
theorem b_61_18 {E : js_E} {d : Nat} {σ : js_S} {x1 x2 x3 x4 b : Int} {ux5 ux6 : js_v} : js_J E d 61 18 [(2, 23 + b), (0, x1), (0, x2), (0, x3), (0, x4), ux5, ux6] [] σ = (if js_w x4 < 1000000 then (if js_w x3 = 0 then js_J E d 61 263 [(2, 23 + b), (0, x1), (0, x2), (0, x3), (0, x4), ux5, ux6] [] σ else js_J E d 61 30 [(2, 23 + b), (0, x1), (0, x2), (0, x3), (0, x4), ux5, ux6] [(2, 23 + b)] σ) else js_J E d 61 263 [(2, 23 + b), (0, x1), (0, x2), (0, x3), (0, x4), ux5, ux6] [] σ) :=
  (j_iload q_61_18 rfl).trans <| (j_ldc (v := (0, 1000000)) q_61_20 (js_Co qy_61 qc_5_61)).trans <| (j_cmpgeB (t := 263) q_61_22 rfl ww_1000000).trans (js_ite ((j_iload_n q_61_25 rfl).trans <| (j_ifeq (t := 263) q_61_26 rfl).trans (js_ite (rfl) ((j_aload_n q_61_29 rfl).trans <| rfl))) (rfl))
theorem k_61_30 {E : js_E} {d : Nat} {σ σ2 : js_S} {x1 x2 x3 x4 b : Int} {ux5 ux6 : js_v} (hb : b = 0 ∨ b = 25) (hd : 1 ≤ d) (hz : js_J E (d - 1) 62 0 [(2, 23 + b), (9, 0)] [] σ = js_r0 E σ2) : js_J E d 61 30 [(2, 23 + b), (0, x1), (0, x2), (0, x3), (0, x4), ux5, ux6] [(2, 23 + b)] σ = js_J E d 61 33 [(2, 23 + b), (0, x1), (0, x2), (0, x3), (0, x4), ux5, ux6] [] σ2 :=
  j_call0 (m := 1) (js_caV q_61_30 (js_Mo qy_61 qm_5_62)) (js_agV (av := []) (st := []) rfl rfl (js_o23b hb) rfl) rfl rfl (by rw [ql_62]; exact Nat.le_of_ble_eq_true rfl) (Nat.le_of_ble_eq_true rfl) hd hz
theorem kt_61_30 {E : js_E} {d : Nat} {σ σ2 : js_S} {x1 x2 x3 x4 b : Int} {ux5 ux6 : js_v} (hb : b = 0 ∨ b = 25) {w : Int} (hd : 1 ≤ d) (hz : js_J E (d - 1) 62 0 [(2, 23 + b), (9, 0)] [] σ = js_t E w σ2) : js_J E d 61 30 [(2, 23 + b), (0, x1), (0, x2), (0, x3), (0, x4), ux5, ux6] [(2, 23 + b)] σ = js_t E w σ2 :=
  j_callT (m := 1) (js_caV q_61_30 (js_Mo qy_61 qm_5_62)) (js_agV (av := []) (st := []) rfl rfl (js_o23b hb) rfl) rfl rfl (by rw [ql_62]; exact Nat.le_of_ble_eq_true rfl) (Nat.le_of_ble_eq_true rfl) hd rfl hz
theorem b_61_33 {E : js_E} {d : Nat} {σ : js_S} {x1 x2 x3 x4 b : Int} {ux5 ux6 : js_v} (hb : b = 0 ∨ b = 25) : js_J E d 61 33 [(2, 23 + b), (0, x1), (0, x2), (0, x3), (0, x4), ux5, ux6] [] σ = (if js_w (σ 1 1) = 2 then js_J E d 61 45 [(2, 23 + b), (0, x1), (0, x2), (0, x3), (0, x4), ux5, ux6] [(2, 23 + b)] σ else js_J E d 61 52 [(2, 23 + b), (0, x1), (0, x2), (0, x3), (0, x4), ux5, ux6] [(2, 23 + b)] σ) :=
  (j_aload_n q_61_33 rfl).trans <| (j_get (ji := 4) (v := (2, 1)) q_61_34 (js_Fo qy_61 qf_5_33) (js_o23b hb) rfl rfl rfl rfl).trans <| (j_get (ji := 1) (v := (0, σ 1 1)) q_61_37 (js_Fo qy_61 qf_5_65) js_o1 rfl rfl rfl rfl).trans <| (j_iconst q_61_40).trans <| (j_cmpneB (t := 51) q_61_41 rfl ww_2).trans (js_ite ((j_aload_n q_61_44 rfl).trans <| rfl) ((j_aload_n q_61_51 rfl).trans <| rfl))
theorem k_61_45 {E : js_E} {d : Nat} {σ σ2 : js_S} {x1 x2 x3 x4 b : Int} {ux5 ux6 : js_v} (hb : b = 0 ∨ b = 25) (hd : 1 ≤ d) (hz : js_J E (d - 1) 64 0 [(2, 23 + b), (9, 0), (9, 0)] [] σ = js_r0 E σ2) : js_J E d 61 45 [(2, 23 + b), (0, x1), (0, x2), (0, x3), (0, x4), ux5, ux6] [(2, 23 + b)] σ = js_J E d 61 48 [(2, 23 + b), (0, x1), (0, x2), (0, x3), (0, x4), ux5, ux6] [] σ2 :=
  j_call0 (m := 2) (js_caV q_61_45 (js_Mo qy_61 qm_5_68)) (js_agV (av := []) (st := []) rfl rfl (js_o23b hb) rfl) rfl rfl (by rw [ql_64]; exact Nat.le_of_ble_eq_true rfl) (Nat.le_of_ble_eq_true rfl) hd hz
theorem kt_61_45 {E : js_E} {d : Nat} {σ σ2 : js_S} {x1 x2 x3 x4 b : Int} {ux5 ux6 : js_v} (hb : b = 0 ∨ b = 25) {w : Int} (hd : 1 ≤ d) (hz : js_J E (d - 1) 64 0 [(2, 23 + b), (9, 0), (9, 0)] [] σ = js_t E w σ2) : js_J E d 61 45 [(2, 23 + b), (0, x1), (0, x2), (0, x3), (0, x4), ux5, ux6] [(2, 23 + b)] σ = js_t E w σ2 :=
  j_callT (m := 2) (js_caV q_61_45 (js_Mo qy_61 qm_5_68)) (js_agV (av := []) (st := []) rfl rfl (js_o23b hb) rfl) rfl rfl (by rw [ql_64]; exact Nat.le_of_ble_eq_true rfl) (Nat.le_of_ble_eq_true rfl) hd rfl hz
theorem b_61_48 {E : js_E} {d : Nat} {σ : js_S} {x1 x2 x3 x4 b : Int} {ux5 ux6 : js_v} : js_J E d 61 48 [(2, 23 + b), (0, x1), (0, x2), (0, x3), (0, x4), ux5, ux6] [] σ = js_J E d 61 55 [(2, 23 + b), (0, x1), (0, x2), (0, x3), (0, x4), ux5, ux6] [] σ :=
  (j_goto (t := 55) q_61_48 rfl).trans <| rfl
theorem k_61_52 {E : js_E} {d : Nat} {σ σ2 : js_S} {x1 x2 x3 x4 b : Int} {ux5 ux6 : js_v} (hb : b = 0 ∨ b = 25) (hd : 1 ≤ d) (hz : js_J E (d - 1) 79 0 [(2, 23 + b), (9, 0)] [] σ = js_r0 E σ2) : js_J E d 61 52 [(2, 23 + b), (0, x1), (0, x2), (0, x3), (0, x4), ux5, ux6] [(2, 23 + b)] σ = js_J E d 61 55 [(2, 23 + b), (0, x1), (0, x2), (0, x3), (0, x4), ux5, ux6] [] σ2 :=
  j_call0 (m := 1) (js_caV q_61_52 (js_Mo qy_61 qm_5_71)) (js_agV (av := []) (st := []) rfl rfl (js_o23b hb) rfl) rfl rfl (by rw [ql_79]; exact Nat.le_of_ble_eq_true rfl) (Nat.le_of_ble_eq_true rfl) hd hz
theorem kt_61_52 {E : js_E} {d : Nat} {σ σ2 : js_S} {x1 x2 x3 x4 b : Int} {ux5 ux6 : js_v} (hb : b = 0 ∨ b = 25) {w : Int} (hd : 1 ≤ d) (hz : js_J E (d - 1) 79 0 [(2, 23 + b), (9, 0)] [] σ = js_t E w σ2) : js_J E d 61 52 [(2, 23 + b), (0, x1), (0, x2), (0, x3), (0, x4), ux5, ux6] [(2, 23 + b)] σ = js_t E w σ2 :=
  j_callT (m := 1) (js_caV q_61_52 (js_Mo qy_61 qm_5_71)) (js_agV (av := []) (st := []) rfl rfl (js_o23b hb) rfl) rfl rfl (by rw [ql_79]; exact Nat.le_of_ble_eq_true rfl) (Nat.le_of_ble_eq_true rfl) hd rfl hz
theorem b_61_55 {E : js_E} {d : Nat} {σ : js_S} {x1 x2 x3 x4 b : Int} {ux5 ux6 : js_v} : js_J E d 61 55 [(2, 23 + b), (0, x1), (0, x2), (0, x3), (0, x4), ux5, ux6] [] σ = js_J E d 61 57 [(2, 23 + b), (0, x1), (0, x2), (0, x3), (0, x4), ux5, ux6] [(0, x2), (2, 23 + b)] σ :=
  (j_aload_n q_61_55 rfl).trans <| (j_iload_n q_61_56 rfl).trans <| rfl
theorem k_61_57 {E : js_E} {d : Nat} {σ σ2 : js_S} {x1 x2 x3 x4 z1 b : Int} {ux5 ux6 : js_v} (hb : b = 0 ∨ b = 25) {v : Int} (hd : 1 ≤ d) (hz : js_J E (d - 1) 85 0 [(2, 23 + b), (0, z1), (9, 0), (9, 0)] [] σ = js_r E (0, v) σ2) : js_J E d 61 57 [(2, 23 + b), (0, x1), (0, x2), (0, x3), (0, x4), ux5, ux6] [(0, z1), (2, 23 + b)] σ = js_J E d 61 60 [(2, 23 + b), (0, x1), (0, x2), (0, x3), (0, x4), ux5, ux6] [(0, v)] σ2 :=
  j_call (m := 2) (js_caV q_61_57 (js_Mo qy_61 qm_5_74)) (js_agV (av := [(0, z1)]) (st := []) rfl rfl (js_o23b hb) rfl) rfl rfl (by rw [ql_85]; exact Nat.le_of_ble_eq_true rfl) (Nat.le_of_ble_eq_true rfl) hd hz
theorem kt_61_57 {E : js_E} {d : Nat} {σ σ2 : js_S} {x1 x2 x3 x4 z1 b : Int} {ux5 ux6 : js_v} (hb : b = 0 ∨ b = 25) {w : Int} (hd : 1 ≤ d) (hz : js_J E (d - 1) 85 0 [(2, 23 + b), (0, z1), (9, 0), (9, 0)] [] σ = js_t E w σ2) : js_J E d 61 57 [(2, 23 + b), (0, x1), (0, x2), (0, x3), (0, x4), ux5, ux6] [(0, z1), (2, 23 + b)] σ = js_t E w σ2 :=
  j_callT (m := 2) (js_caV q_61_57 (js_Mo qy_61 qm_5_74)) (js_agV (av := [(0, z1)]) (st := []) rfl rfl (js_o23b hb) rfl) rfl rfl (by rw [ql_85]; exact Nat.le_of_ble_eq_true rfl) (Nat.le_of_ble_eq_true rfl) hd rfl hz
theorem b_61_60 {E : js_E} {d : Nat} {σ : js_S} {x1 x2 x3 x4 z0 b : Int} {ux5 ux6 : js_v} : js_J E d 61 60 [(2, 23 + b), (0, x1), (0, x2), (0, x3), (0, x4), ux5, ux6] [(0, z0)] σ = js_J E d 61 65 [(2, 23 + b), (0, x1), (0, x2), (0, x3), (0, x4), (0, z0), (0, 0)] [] σ :=
  (j_istore (l2 := [(2, 23 + b), (0, x1), (0, x2), (0, x3), (0, x4), (0, z0), ux6]) q_61_60 rfl (Nat.le_of_ble_eq_true rfl)).trans <| (j_iconst q_61_62).trans <| (j_istore (l2 := [(2, 23 + b), (0, x1), (0, x2), (0, x3), (0, x4), (0, z0), (0, 0)]) q_61_63 rfl (Nat.le_of_ble_eq_true rfl)).trans <| rfl
theorem b_61_65 {E : js_E} {d : Nat} {σ : js_S} {x1 x2 x3 x4 x5 x6 b : Int} (hb : b = 0 ∨ b = 25) : js_J E d 61 65 [(2, 23 + b), (0, x1), (0, x2), (0, x3), (0, x4), (0, x5), (0, x6)] [] σ = (if js_w x6 < 512 then (if js_w x2 < js_w (σ (23 + b) 15) then (if 0 ≤ js_w ((σ (23 + b) 15) - 1) ∧ js_w ((σ (23 + b) 15) - 1) < 512 then (if js_w (σ (25 + b) (js_w ((σ (23 + b) 15) - 1))) < js_w x5 then js_J E d 61 236 [(2, 23 + b), (0, x1), (0, x2), (0, x3), (0, x4), (0, x5), (0, x6)] [] σ else js_J E d 61 108 [(2, 23 + b), (0, x1), (0, x2), (0, x3), (0, x4), (0, x5), (0, x6)] [(2, 23 + b)] (js_up σ (23 + b) 15 ((σ (23 + b) 15) - 1))) else none) else js_J E d 61 236 [(2, 23 + b), (0, x1), (0, x2), (0, x3), (0, x4), (0, x5), (0, x6)] [] σ) else js_J E d 61 236 [(2, 23 + b), (0, x1), (0, x2), (0, x3), (0, x4), (0, x5), (0, x6)] [] σ) :=
  (j_iload q_61_65 rfl).trans <| (j_si q_61_67 rfl).trans <| (j_cmpgeB (t := 236) q_61_70 rfl ww_512).trans (js_ite ((j_aload_n q_61_73 rfl).trans <| (j_get (ji := 15) (v := (0, σ (23 + b) 15)) q_61_74 (js_Fo qy_61 qf_5_52) (js_o23b hb) rfl rfl rfl rfl).trans <| (j_iload_n q_61_77 rfl).trans <| (j_cmple (t := 236) q_61_78 rfl).trans (js_ite ((j_aload_n q_61_81 rfl).trans <| (j_get (ji := 9) (v := (2, 25 + b)) q_61_82 (js_Fo qy_61 qf_5_15) (js_o23b hb) rfl rfl rfl rfl).trans <| (j_aload_n q_61_85 rfl).trans <| (j_get (ji := 15) (v := (0, σ (23 + b) 15)) q_61_86 (js_Fo qy_61 qf_5_52) (js_o23b hb) rfl rfl rfl rfl).trans <| (j_iconst q_61_89).trans <| (j_isub q_61_90).trans <| (j_iaload q_61_91 (js_o25b hb)).trans <| js_itp fun g0 => (j_iload q_61_92 rfl).trans <| (j_cmplt (t := 236) q_61_94 rfl).trans (js_ite (rfl) ((j_aload_n q_61_97 rfl).trans <| (j_dupr q_61_98).trans <| (j_get (ji := 15) (v := (0, σ (23 + b) 15)) q_61_99 (js_Fo qy_61 qf_5_52) (js_o23b hb) rfl rfl rfl rfl).trans <| (j_iconst q_61_102).trans <| (j_isub q_61_103).trans <| (j_putI (ji := 15) q_61_104 (js_Fo qy_61 qf_5_52) rfl (js_o23b hb) rfl rfl rfl).trans <| (j_aload_n q_61_107 rfl).trans <| rfl))) (rfl))) (rfl))
theorem k_61_108 {E : js_E} {d : Nat} {σ σ2 : js_S} {x1 x2 x3 x4 x5 x6 b : Int} (hb : b = 0 ∨ b = 25) (hd : 1 ≤ d) (hz : js_J E (d - 1) 87 0 [(2, 23 + b), (9, 0), (9, 0)] [] σ = js_r0 E σ2) : js_J E d 61 108 [(2, 23 + b), (0, x1), (0, x2), (0, x3), (0, x4), (0, x5), (0, x6)] [(2, 23 + b)] σ = js_J E d 61 111 [(2, 23 + b), (0, x1), (0, x2), (0, x3), (0, x4), (0, x5), (0, x6)] [] σ2 :=
  j_call0 (m := 2) (js_caV q_61_108 (js_Mo qy_61 qm_5_78)) (js_agV (av := []) (st := []) rfl rfl (js_o23b hb) rfl) rfl rfl (by rw [ql_87]; exact Nat.le_of_ble_eq_true rfl) (Nat.le_of_ble_eq_true rfl) hd hz
theorem kt_61_108 {E : js_E} {d : Nat} {σ σ2 : js_S} {x1 x2 x3 x4 x5 x6 b : Int} (hb : b = 0 ∨ b = 25) {w : Int} (hd : 1 ≤ d) (hz : js_J E (d - 1) 87 0 [(2, 23 + b), (9, 0), (9, 0)] [] σ = js_t E w σ2) : js_J E d 61 108 [(2, 23 + b), (0, x1), (0, x2), (0, x3), (0, x4), (0, x5), (0, x6)] [(2, 23 + b)] σ = js_t E w σ2 :=
  j_callT (m := 2) (js_caV q_61_108 (js_Mo qy_61 qm_5_78)) (js_agV (av := []) (st := []) rfl rfl (js_o23b hb) rfl) rfl rfl (by rw [ql_87]; exact Nat.le_of_ble_eq_true rfl) (Nat.le_of_ble_eq_true rfl) hd rfl hz
theorem b_61_111 {E : js_E} {d : Nat} {σ : js_S} {x1 x2 x3 x4 x5 x6 b : Int} (hb : b = 0 ∨ b = 25) : js_J E d 61 111 [(2, 23 + b), (0, x1), (0, x2), (0, x3), (0, x4), (0, x5), (0, x6)] [] σ = (if 0 ≤ js_w (σ (23 + b) 15) ∧ js_w (σ (23 + b) 15) < 512 then (if 2 < js_w (σ (25 + b) (js_w (σ (23 + b) 15))) then (if js_w (σ (25 + b) (js_w (σ (23 + b) 15))) = 6 then js_J E d 61 184 [(2, 23 + b), (0, x1), (0, x2), (0, x3), (0, x4), (0, x5), (0, x6)] [(0, 1), (0, σ (24 + b) (js_w (σ (23 + b) 15))), (2, 8 + b)] (js_up σ 1 5 ((σ 1 5) - 1)) else js_J E d 61 216 [(2, 23 + b), (0, x1), (0, x2), (0, x3), (0, x4), (0, x5), (0, x6)] [(0, 0), (0, σ (24 + b) (js_w (σ (23 + b) 15))), (2, 8 + b)] σ) else js_J E d 61 137 [(2, 23 + b), (0, x1), (0, x2), (0, x3), (0, x4), (0, x5), (0, x6)] [(0, σ (30 + b) (js_w (σ (23 + b) 15))), (2, 8 + b)] σ) else none) :=
  (j_aload_n q_61_111 rfl).trans <| (j_get (ji := 9) (v := (2, 25 + b)) q_61_112 (js_Fo qy_61 qf_5_15) (js_o23b hb) rfl rfl rfl rfl).trans <| (j_aload_n q_61_115 rfl).trans <| (j_get (ji := 15) (v := (0, σ (23 + b) 15)) q_61_116 (js_Fo qy_61 qf_5_52) (js_o23b hb) rfl rfl rfl rfl).trans <| (j_iaload q_61_119 (js_o25b hb)).trans <| js_itp fun g0 => (j_iconst q_61_120).trans <| (j_cmpgtB (t := 143) q_61_121 rfl ww_2).trans (js_ite ((j_aload_n q_61_143 rfl).trans <| (j_get (ji := 9) (v := (2, 25 + b)) q_61_144 (js_Fo qy_61 qf_5_15) (js_o23b hb) rfl rfl rfl rfl).trans <| (j_aload_n q_61_147 rfl).trans <| (j_get (ji := 15) (v := (0, σ (23 + b) 15)) q_61_148 (js_Fo qy_61 qf_5_52) (js_o23b hb) rfl rfl rfl rfl).trans <| (j_iaload q_61_151 (js_o25b hb)).trans <| (if_pos g0).trans <| (j_bi q_61_152 rfl).trans <| (j_cmpneB (t := 202) q_61_154 rfl ww_6).trans (js_ite ((j_aload_n q_61_157 rfl).trans <| (j_get (ji := 4) (v := (2, 1)) q_61_158 (js_Fo qy_61 qf_5_33) (js_o23b hb) rfl rfl rfl rfl).trans <| (j_dupr q_61_161).trans <| (j_get (ji := 5) (v := (0, σ 1 5)) q_61_162 (js_Fo qy_61 qf_5_87) js_o1 rfl rfl rfl rfl).trans <| (j_iconst q_61_165).trans <| (j_isub q_61_166).trans <| (j_putI (ji := 5) q_61_167 (js_Fo qy_61 qf_5_87) rfl js_o1 rfl rfl rfl).trans <| (j_aload_n q_61_170 rfl).trans <| (j_get (ji := 6) (v := (2, 8 + b)) q_61_171 (js_Fo qy_61 qf_5_47) (js_o23b hb) rfl rfl rfl rfl).trans <| (j_aload_n q_61_174 rfl).trans <| (j_get (ji := 8) (v := (2, 24 + b)) q_61_175 (js_Fo qy_61 qf_5_11) (js_o23b hb) rfl rfl rfl rfl).trans <| (j_aload_n q_61_178 rfl).trans <| (j_get (ji := 15) (v := (0, σ (23 + b) 15)) q_61_179 (js_Fo qy_61 qf_5_52) (js_o23b hb) rfl rfl rfl (congrArg (Prod.mk 0) ((js_up_ne _ (by omega))))).trans <| (j_ialoadv q_61_182 (js_o24b hb) ((js_up_ne _ (by omega)))).trans <| (if_pos g0).trans <| (j_iconst q_61_183).trans <| rfl) ((j_aload_n q_61_202 rfl).trans <| (j_get (ji := 6) (v := (2, 8 + b)) q_61_203 (js_Fo qy_61 qf_5_47) (js_o23b hb) rfl rfl rfl rfl).trans <| (j_aload_n q_61_206 rfl).trans <| (j_get (ji := 8) (v := (2, 24 + b)) q_61_207 (js_Fo qy_61 qf_5_11) (js_o23b hb) rfl rfl rfl rfl).trans <| (j_aload_n q_61_210 rfl).trans <| (j_get (ji := 15) (v := (0, σ (23 + b) 15)) q_61_211 (js_Fo qy_61 qf_5_52) (js_o23b hb) rfl rfl rfl rfl).trans <| (j_iaload q_61_214 (js_o24b hb)).trans <| (if_pos g0).trans <| (j_iconst q_61_215).trans <| rfl))) ((j_aload_n q_61_124 rfl).trans <| (j_get (ji := 6) (v := (2, 8 + b)) q_61_125 (js_Fo qy_61 qf_5_47) (js_o23b hb) rfl rfl rfl rfl).trans <| (j_aload_n q_61_128 rfl).trans <| (j_get (ji := 14) (v := (2, 30 + b)) q_61_129 (js_Fo qy_61 qf_5_30) (js_o23b hb) rfl rfl rfl rfl).trans <| (j_aload_n q_61_132 rfl).trans <| (j_get (ji := 15) (v := (0, σ (23 + b) 15)) q_61_133 (js_Fo qy_61 qf_5_52) (js_o23b hb) rfl rfl rfl rfl).trans <| (j_iaload q_61_136 (js_o30b hb)).trans <| (if_pos g0).trans <| rfl))
theorem k_61_137 {E : js_E} {d : Nat} {σ σ2 : js_S} {x1 x2 x3 x4 x5 x6 z1 b : Int} (hb : b = 0 ∨ b = 25) (hd : 1 ≤ d) (hz : js_J E (d - 1) 91 0 [(2, 8 + b), (0, z1)] [] σ = js_r0 E σ2) : js_J E d 61 137 [(2, 23 + b), (0, x1), (0, x2), (0, x3), (0, x4), (0, x5), (0, x6)] [(0, z1), (2, 8 + b)] σ = js_J E d 61 140 [(2, 23 + b), (0, x1), (0, x2), (0, x3), (0, x4), (0, x5), (0, x6)] [] σ2 :=
  j_call0 (m := 0) (js_caV q_61_137 (js_Mo qy_61 qm_5_81)) (js_agV (av := [(0, z1)]) (st := []) rfl rfl (js_o8b hb) rfl) rfl rfl (by rw [ql_91]; exact Nat.le_of_ble_eq_true rfl) (Nat.le_of_ble_eq_true rfl) hd hz
theorem kt_61_137 {E : js_E} {d : Nat} {σ σ2 : js_S} {x1 x2 x3 x4 x5 x6 z1 b : Int} (hb : b = 0 ∨ b = 25) {w : Int} (hd : 1 ≤ d) (hz : js_J E (d - 1) 91 0 [(2, 8 + b), (0, z1)] [] σ = js_t E w σ2) : js_J E d 61 137 [(2, 23 + b), (0, x1), (0, x2), (0, x3), (0, x4), (0, x5), (0, x6)] [(0, z1), (2, 8 + b)] σ = js_t E w σ2 :=
  j_callT (m := 0) (js_caV q_61_137 (js_Mo qy_61 qm_5_81)) (js_agV (av := [(0, z1)]) (st := []) rfl rfl (js_o8b hb) rfl) rfl rfl (by rw [ql_91]; exact Nat.le_of_ble_eq_true rfl) (Nat.le_of_ble_eq_true rfl) hd rfl hz
theorem b_61_140 {E : js_E} {d : Nat} {σ : js_S} {x1 x2 x3 x4 x5 x6 b : Int} : js_J E d 61 140 [(2, 23 + b), (0, x1), (0, x2), (0, x3), (0, x4), (0, x5), (0, x6)] [] σ = js_J E d 61 230 [(2, 23 + b), (0, x1), (0, x2), (0, x3), (0, x4), (0, x5), (0, x6)] [] σ :=
  (j_goto (t := 230) q_61_140 rfl).trans <| rfl
theorem k_61_184 {E : js_E} {d : Nat} {σ σ2 : js_S} {x1 x2 x3 x4 x5 x6 z1 z2 b : Int} {v : Int} (hd : 1 ≤ d) (hz : js_J E (d - 1) 93 0 [(0, z1), (0, z2)] [] σ = js_r E (0, v) σ2) : js_J E d 61 184 [(2, 23 + b), (0, x1), (0, x2), (0, x3), (0, x4), (0, x5), (0, x6)] [(0, z2), (0, z1), (2, 8 + b)] σ = js_J E d 61 187 [(2, 23 + b), (0, x1), (0, x2), (0, x3), (0, x4), (0, x5), (0, x6)] [(0, v), (2, 8 + b)] σ2 :=
  j_call (m := 0) (js_caS q_61_184 (js_Mo qy_61 qm_5_90)) (js_agS (av := [(0, z1), (0, z2)]) (st := [(2, 8 + b)]) rfl rfl) rfl rfl (by rw [ql_93]; exact Nat.le_of_ble_eq_true rfl) (Nat.le_of_ble_eq_true rfl) hd hz
theorem kt_61_184 {E : js_E} {d : Nat} {σ σ2 : js_S} {x1 x2 x3 x4 x5 x6 z1 z2 b : Int} {w : Int} (hd : 1 ≤ d) (hz : js_J E (d - 1) 93 0 [(0, z1), (0, z2)] [] σ = js_t E w σ2) : js_J E d 61 184 [(2, 23 + b), (0, x1), (0, x2), (0, x3), (0, x4), (0, x5), (0, x6)] [(0, z2), (0, z1), (2, 8 + b)] σ = js_t E w σ2 :=
  j_callT (m := 0) (js_caS q_61_184 (js_Mo qy_61 qm_5_90)) (js_agS (av := [(0, z1), (0, z2)]) (st := [(2, 8 + b)]) rfl rfl) rfl rfl (by rw [ql_93]; exact Nat.le_of_ble_eq_true rfl) (Nat.le_of_ble_eq_true rfl) hd rfl hz
theorem b_61_187 {E : js_E} {d : Nat} {σ : js_S} {x1 x2 x3 x4 x5 x6 z1 b : Int} (hb : b = 0 ∨ b = 25) : js_J E d 61 187 [(2, 23 + b), (0, x1), (0, x2), (0, x3), (0, x4), (0, x5), (0, x6)] [(0, z1), (2, 8 + b)] σ = js_J E d 61 196 [(2, 23 + b), (0, x1), (0, x2), (0, x3), (0, x4), (0, x5), (0, x6)] [(0, σ (23 + b) 2), (0, σ (23 + b) 1), (0, 0), (0, z1), (2, 8 + b)] σ :=
  (j_iconst q_61_187).trans <| (j_aload_n q_61_188 rfl).trans <| (j_get (ji := 1) (v := (0, σ (23 + b) 1)) q_61_189 (js_Fo qy_61 qf_5_94) (js_o23b hb) rfl rfl rfl rfl).trans <| (j_aload_n q_61_192 rfl).trans <| (j_get (ji := 2) (v := (0, σ (23 + b) 2)) q_61_193 (js_Fo qy_61 qf_5_97) (js_o23b hb) rfl rfl rfl rfl).trans <| rfl
theorem k_61_196 {E : js_E} {d : Nat} {σ σ2 : js_S} {x1 x2 x3 x4 x5 x6 z1 z2 z3 z4 b : Int} (hb : b = 0 ∨ b = 25) (hd : 1 ≤ d) (hz : js_J E (d - 1) 59 0 [(2, 8 + b), (0, z1), (0, z2), (0, z3), (0, z4)] [] σ = js_r0 E σ2) : js_J E d 61 196 [(2, 23 + b), (0, x1), (0, x2), (0, x3), (0, x4), (0, x5), (0, x6)] [(0, z4), (0, z3), (0, z2), (0, z1), (2, 8 + b)] σ = js_J E d 61 199 [(2, 23 + b), (0, x1), (0, x2), (0, x3), (0, x4), (0, x5), (0, x6)] [] σ2 :=
  j_call0 (m := 0) (js_caV q_61_196 (js_Mo qy_61 qm_5_100)) (js_agV (av := [(0, z1), (0, z2), (0, z3), (0, z4)]) (st := []) rfl rfl (js_o8b hb) rfl) rfl rfl (by rw [ql_59]; exact Nat.le_of_ble_eq_true rfl) (Nat.le_of_ble_eq_true rfl) hd hz
theorem kt_61_196 {E : js_E} {d : Nat} {σ σ2 : js_S} {x1 x2 x3 x4 x5 x6 z1 z2 z3 z4 b : Int} (hb : b = 0 ∨ b = 25) {w : Int} (hd : 1 ≤ d) (hz : js_J E (d - 1) 59 0 [(2, 8 + b), (0, z1), (0, z2), (0, z3), (0, z4)] [] σ = js_t E w σ2) : js_J E d 61 196 [(2, 23 + b), (0, x1), (0, x2), (0, x3), (0, x4), (0, x5), (0, x6)] [(0, z4), (0, z3), (0, z2), (0, z1), (2, 8 + b)] σ = js_t E w σ2 :=
  j_callT (m := 0) (js_caV q_61_196 (js_Mo qy_61 qm_5_100)) (js_agV (av := [(0, z1), (0, z2), (0, z3), (0, z4)]) (st := []) rfl rfl (js_o8b hb) rfl) rfl rfl (by rw [ql_59]; exact Nat.le_of_ble_eq_true rfl) (Nat.le_of_ble_eq_true rfl) hd rfl hz
theorem b_61_199 {E : js_E} {d : Nat} {σ : js_S} {x1 x2 x3 x4 x5 x6 b : Int} : js_J E d 61 199 [(2, 23 + b), (0, x1), (0, x2), (0, x3), (0, x4), (0, x5), (0, x6)] [] σ = js_J E d 61 230 [(2, 23 + b), (0, x1), (0, x2), (0, x3), (0, x4), (0, x5), (0, x6)] [] σ :=
  (j_goto (t := 230) q_61_199 rfl).trans <| rfl
theorem k_61_216 {E : js_E} {d : Nat} {σ σ2 : js_S} {x1 x2 x3 x4 x5 x6 z1 z2 b : Int} {v : Int} (hd : 1 ≤ d) (hz : js_J E (d - 1) 93 0 [(0, z1), (0, z2)] [] σ = js_r E (0, v) σ2) : js_J E d 61 216 [(2, 23 + b), (0, x1), (0, x2), (0, x3), (0, x4), (0, x5), (0, x6)] [(0, z2), (0, z1), (2, 8 + b)] σ = js_J E d 61 219 [(2, 23 + b), (0, x1), (0, x2), (0, x3), (0, x4), (0, x5), (0, x6)] [(0, v), (2, 8 + b)] σ2 :=
  j_call (m := 0) (js_caS q_61_216 (js_Mo qy_61 qm_5_90)) (js_agS (av := [(0, z1), (0, z2)]) (st := [(2, 8 + b)]) rfl rfl) rfl rfl (by rw [ql_93]; exact Nat.le_of_ble_eq_true rfl) (Nat.le_of_ble_eq_true rfl) hd hz
theorem kt_61_216 {E : js_E} {d : Nat} {σ σ2 : js_S} {x1 x2 x3 x4 x5 x6 z1 z2 b : Int} {w : Int} (hd : 1 ≤ d) (hz : js_J E (d - 1) 93 0 [(0, z1), (0, z2)] [] σ = js_t E w σ2) : js_J E d 61 216 [(2, 23 + b), (0, x1), (0, x2), (0, x3), (0, x4), (0, x5), (0, x6)] [(0, z2), (0, z1), (2, 8 + b)] σ = js_t E w σ2 :=
  j_callT (m := 0) (js_caS q_61_216 (js_Mo qy_61 qm_5_90)) (js_agS (av := [(0, z1), (0, z2)]) (st := [(2, 8 + b)]) rfl rfl) rfl rfl (by rw [ql_93]; exact Nat.le_of_ble_eq_true rfl) (Nat.le_of_ble_eq_true rfl) hd rfl hz
theorem b_61_219 {E : js_E} {d : Nat} {σ : js_S} {x1 x2 x3 x4 x5 x6 z1 b : Int} (hb : b = 0 ∨ b = 25) : js_J E d 61 219 [(2, 23 + b), (0, x1), (0, x2), (0, x3), (0, x4), (0, x5), (0, x6)] [(0, z1), (2, 8 + b)] σ = js_J E d 61 227 [(2, 23 + b), (0, x1), (0, x2), (0, x3), (0, x4), (0, x5), (0, x6)] [(0, σ (23 + b) 2), (0, σ (23 + b) 1), (0, z1), (2, 8 + b)] σ :=
  (j_aload_n q_61_219 rfl).trans <| (j_get (ji := 1) (v := (0, σ (23 + b) 1)) q_61_220 (js_Fo qy_61 qf_5_94) (js_o23b hb) rfl rfl rfl rfl).trans <| (j_aload_n q_61_223 rfl).trans <| (j_get (ji := 2) (v := (0, σ (23 + b) 2)) q_61_224 (js_Fo qy_61 qf_5_97) (js_o23b hb) rfl rfl rfl rfl).trans <| rfl
theorem k_61_227 {E : js_E} {d : Nat} {σ σ2 : js_S} {x1 x2 x3 x4 x5 x6 z1 z2 z3 b : Int} (hb : b = 0 ∨ b = 25) (hd : 1 ≤ d) (hz : js_J E (d - 1) 82 0 [(2, 8 + b), (0, z1), (0, z2), (0, z3)] [] σ = js_r0 E σ2) : js_J E d 61 227 [(2, 23 + b), (0, x1), (0, x2), (0, x3), (0, x4), (0, x5), (0, x6)] [(0, z3), (0, z2), (0, z1), (2, 8 + b)] σ = js_J E d 61 230 [(2, 23 + b), (0, x1), (0, x2), (0, x3), (0, x4), (0, x5), (0, x6)] [] σ2 :=
  j_call0 (m := 0) (js_caV q_61_227 (js_Mo qy_61 qm_5_104)) (js_agV (av := [(0, z1), (0, z2), (0, z3)]) (st := []) rfl rfl (js_o8b hb) rfl) rfl rfl (by rw [ql_82]; exact Nat.le_of_ble_eq_true rfl) (Nat.le_of_ble_eq_true rfl) hd hz
theorem kt_61_227 {E : js_E} {d : Nat} {σ σ2 : js_S} {x1 x2 x3 x4 x5 x6 z1 z2 z3 b : Int} (hb : b = 0 ∨ b = 25) {w : Int} (hd : 1 ≤ d) (hz : js_J E (d - 1) 82 0 [(2, 8 + b), (0, z1), (0, z2), (0, z3)] [] σ = js_t E w σ2) : js_J E d 61 227 [(2, 23 + b), (0, x1), (0, x2), (0, x3), (0, x4), (0, x5), (0, x6)] [(0, z3), (0, z2), (0, z1), (2, 8 + b)] σ = js_t E w σ2 :=
  j_callT (m := 0) (js_caV q_61_227 (js_Mo qy_61 qm_5_104)) (js_agV (av := [(0, z1), (0, z2), (0, z3)]) (st := []) rfl rfl (js_o8b hb) rfl) rfl rfl (by rw [ql_82]; exact Nat.le_of_ble_eq_true rfl) (Nat.le_of_ble_eq_true rfl) hd rfl hz
theorem b_61_230 {E : js_E} {d : Nat} {σ : js_S} {x1 x2 x3 x4 x5 x6 b : Int} : js_J E d 61 230 [(2, 23 + b), (0, x1), (0, x2), (0, x3), (0, x4), (0, x5), (0, x6)] [] σ = js_J E d 61 65 [(2, 23 + b), (0, x1), (0, x2), (0, x3), (0, x4), (0, x5), (0, x6 + 1)] [] σ :=
  (j_iinc (l2 := [(2, 23 + b), (0, x1), (0, x2), (0, x3), (0, x4), (0, x5), (0, x6 + 1)]) q_61_230 rfl rfl).trans <| (j_goto (t := 65) q_61_233 rfl).trans <| rfl
theorem b_61_236 {E : js_E} {d : Nat} {σ : js_S} {x1 x2 x3 x4 x5 x6 b : Int} : js_J E d 61 236 [(2, 23 + b), (0, x1), (0, x2), (0, x3), (0, x4), (0, x5), (0, x6)] [] σ = (if 0 < js_w x5 then js_J E d 61 246 [(2, 23 + b), (0, x1), (0, x2), (0, x3), (0, x4), (0, x5), (0, x6)] [(0, 1)] σ else js_J E d 61 246 [(2, 23 + b), (0, x1), (0, x2), (0, x3), (0, x4), (0, x5), (0, x6)] [(0, 0)] σ) :=
  (j_iload q_61_236 rfl).trans <| (j_ifle (t := 245) q_61_238 rfl).trans (js_ite ((j_iconst q_61_241).trans <| (j_goto (t := 246) q_61_242 rfl).trans <| rfl) ((j_iconst q_61_245).trans <| rfl))
theorem b_61_246 {E : js_E} {d : Nat} {σ : js_S} {x1 x2 x3 x4 x5 x6 z0 b : Int} : js_J E d 61 246 [(2, 23 + b), (0, x1), (0, x2), (0, x3), (0, x4), (0, x5), (0, x6)] [(0, z0)] σ = (if js_w z0 = 0 then js_J E d 61 257 [(2, 23 + b), (0, x1), (0, x2), (0, z0), (0, x4), (0, x5), (0, x6)] [] σ else js_J E d 61 254 [(2, 23 + b), (0, x1), (0, x2), (0, z0), (0, x4), (0, x5), (0, x6)] [(0, x5), (2, 23 + b)] σ) :=
  (j_istore_n (l2 := [(2, 23 + b), (0, x1), (0, x2), (0, z0), (0, x4), (0, x5), (0, x6)]) q_61_246 rfl (Nat.le_of_ble_eq_true rfl)).trans <| (j_iload_n q_61_247 rfl).trans <| (j_ifeq (t := 257) q_61_248 rfl).trans (js_ite (rfl) ((j_aload_n q_61_251 rfl).trans <| (j_iload q_61_252 rfl).trans <| rfl))
theorem k_61_254 {E : js_E} {d : Nat} {σ σ2 : js_S} {x1 x2 x3 x4 x5 x6 z1 b : Int} (hb : b = 0 ∨ b = 25) (hd : 1 ≤ d) (hz : js_J E (d - 1) 94 0 [(2, 23 + b), (0, z1), (9, 0)] [] σ = js_r0 E σ2) : js_J E d 61 254 [(2, 23 + b), (0, x1), (0, x2), (0, x3), (0, x4), (0, x5), (0, x6)] [(0, z1), (2, 23 + b)] σ = js_J E d 61 257 [(2, 23 + b), (0, x1), (0, x2), (0, x3), (0, x4), (0, x5), (0, x6)] [] σ2 :=
  j_call0 (m := 1) (js_caV q_61_254 (js_Mo qy_61 qm_5_108)) (js_agV (av := [(0, z1)]) (st := []) rfl rfl (js_o23b hb) rfl) rfl rfl (by rw [ql_94]; exact Nat.le_of_ble_eq_true rfl) (Nat.le_of_ble_eq_true rfl) hd hz
theorem kt_61_254 {E : js_E} {d : Nat} {σ σ2 : js_S} {x1 x2 x3 x4 x5 x6 z1 b : Int} (hb : b = 0 ∨ b = 25) {w : Int} (hd : 1 ≤ d) (hz : js_J E (d - 1) 94 0 [(2, 23 + b), (0, z1), (9, 0)] [] σ = js_t E w σ2) : js_J E d 61 254 [(2, 23 + b), (0, x1), (0, x2), (0, x3), (0, x4), (0, x5), (0, x6)] [(0, z1), (2, 23 + b)] σ = js_t E w σ2 :=
  j_callT (m := 1) (js_caV q_61_254 (js_Mo qy_61 qm_5_108)) (js_agV (av := [(0, z1)]) (st := []) rfl rfl (js_o23b hb) rfl) rfl rfl (by rw [ql_94]; exact Nat.le_of_ble_eq_true rfl) (Nat.le_of_ble_eq_true rfl) hd rfl hz
theorem b_61_257 {E : js_E} {d : Nat} {σ : js_S} {x1 x2 x3 x4 x5 x6 b : Int} : js_J E d 61 257 [(2, 23 + b), (0, x1), (0, x2), (0, x3), (0, x4), (0, x5), (0, x6)] [] σ = js_J E d 61 18 [(2, 23 + b), (0, x1), (0, x2), (0, x3), (0, x4 + 1), (0, x5), (0, x6)] [] σ :=
  (j_iinc (l2 := [(2, 23 + b), (0, x1), (0, x2), (0, x3), (0, x4 + 1), (0, x5), (0, x6)]) q_61_257 rfl rfl).trans <| (j_goto (t := 18) q_61_260 rfl).trans <| rfl
theorem b_61_263 {E : js_E} {d : Nat} {σ : js_S} {x1 x2 x3 x4 b : Int} {ux5 ux6 : js_v} (hb : b = 0 ∨ b = 25) : js_J E d 61 263 [(2, 23 + b), (0, x1), (0, x2), (0, x3), (0, x4), ux5, ux6] [] σ = (if js_w (σ 1 1) = 63 then js_J E d 61 276 [(2, 23 + b), (0, x1), (0, x2), (0, x3), (0, x4), ux5, ux6] [(2, 23 + b)] σ else js_J E d 61 279 [(2, 23 + b), (0, x1), (0, x2), (0, x3), (0, x4), ux5, ux6] [] σ) :=
  (j_aload_n q_61_263 rfl).trans <| (j_get (ji := 4) (v := (2, 1)) q_61_264 (js_Fo qy_61 qf_5_33) (js_o23b hb) rfl rfl rfl rfl).trans <| (j_get (ji := 1) (v := (0, σ 1 1)) q_61_267 (js_Fo qy_61 qf_5_65) js_o1 rfl rfl rfl rfl).trans <| (j_bi q_61_270 rfl).trans <| (j_cmpneB (t := 279) q_61_272 rfl ww_63).trans (js_ite ((j_aload_n q_61_275 rfl).trans <| rfl) (rfl))
theorem k_61_276 {E : js_E} {d : Nat} {σ σ2 : js_S} {x1 x2 x3 x4 b : Int} {ux5 ux6 : js_v} (hb : b = 0 ∨ b = 25) (hd : 1 ≤ d) (hz : js_J E (d - 1) 96 0 [(2, 23 + b), (9, 0), (9, 0), (9, 0), (9, 0), (9, 0), (9, 0), (9, 0), (9, 0), (9, 0)] [] σ = js_r0 E σ2) : js_J E d 61 276 [(2, 23 + b), (0, x1), (0, x2), (0, x3), (0, x4), ux5, ux6] [(2, 23 + b)] σ = js_J E d 61 279 [(2, 23 + b), (0, x1), (0, x2), (0, x3), (0, x4), ux5, ux6] [] σ2 :=
  j_call0 (m := 9) (js_caV q_61_276 (js_Mo qy_61 qm_5_111)) (js_agV (av := []) (st := []) rfl rfl (js_o23b hb) rfl) rfl rfl (by rw [ql_96]; exact Nat.le_of_ble_eq_true rfl) (Nat.le_of_ble_eq_true rfl) hd hz
theorem kt_61_276 {E : js_E} {d : Nat} {σ σ2 : js_S} {x1 x2 x3 x4 b : Int} {ux5 ux6 : js_v} (hb : b = 0 ∨ b = 25) {w : Int} (hd : 1 ≤ d) (hz : js_J E (d - 1) 96 0 [(2, 23 + b), (9, 0), (9, 0), (9, 0), (9, 0), (9, 0), (9, 0), (9, 0), (9, 0), (9, 0)] [] σ = js_t E w σ2) : js_J E d 61 276 [(2, 23 + b), (0, x1), (0, x2), (0, x3), (0, x4), ux5, ux6] [(2, 23 + b)] σ = js_t E w σ2 :=
  j_callT (m := 9) (js_caV q_61_276 (js_Mo qy_61 qm_5_111)) (js_agV (av := []) (st := []) rfl rfl (js_o23b hb) rfl) rfl rfl (by rw [ql_96]; exact Nat.le_of_ble_eq_true rfl) (Nat.le_of_ble_eq_true rfl) hd rfl hz
theorem b_61_279 {E : js_E} {d : Nat} {σ : js_S} {x1 x2 x3 x4 b : Int} {ux5 ux6 : js_v} (hb : b = 0 ∨ b = 25) : js_J E d 61 279 [(2, 23 + b), (0, x1), (0, x2), (0, x3), (0, x4), ux5, ux6] [] σ = js_r0 E (js_up σ (23 + b) 3 x1) :=
  (j_aload_n q_61_279 rfl).trans <| (j_iload_n q_61_280 rfl).trans <| (j_putI (ji := 3) q_61_281 (js_Fo qy_61 qf_5_114) rfl (js_o23b hb) rfl rfl rfl).trans <| j_return q_61_284 qr_61
-- 62: VitalTwin$Expressions.readFronts ()V
theorem b_62_0 {E : js_E} {d : Nat} {σ : js_S} {b : Int} : js_J E d 62 0 [(2, 23 + b), (9, 0)] [] σ = js_J E d 62 2 [(2, 23 + b), (0, 0)] [] σ :=
  (j_iconst q_62_0).trans <| (j_istore_n (l2 := [(2, 23 + b), (0, 0)]) q_62_1 rfl (Nat.le_of_ble_eq_true rfl)).trans <| rfl
theorem b_62_2 {E : js_E} {d : Nat} {σ : js_S} {x1 b : Int} (hb : b = 0 ∨ b = 25) : js_J E d 62 2 [(2, 23 + b), (0, x1)] [] σ = (if js_w x1 < 1000000 then (if js_w (σ 1 1) = 45 then js_J E d 62 32 [(2, 23 + b), (0, x1)] [] σ else (if js_w (σ 1 1) = 33 then js_J E d 62 32 [(2, 23 + b), (0, x1)] [] σ else js_r0 E σ)) else js_r0 E σ) :=
  (j_iload_n q_62_2 rfl).trans <| (j_ldc (v := (0, 1000000)) q_62_3 (js_Co qy_62 qc_5_61)).trans <| (j_cmpgeB (t := 59) q_62_5 rfl ww_1000000).trans (js_ite ((j_aload_n q_62_8 rfl).trans <| (j_get (ji := 4) (v := (2, 1)) q_62_9 (js_Fo qy_62 qf_5_33) (js_o23b hb) rfl rfl rfl rfl).trans <| (j_get (ji := 1) (v := (0, σ 1 1)) q_62_12 (js_Fo qy_62 qf_5_65) js_o1 rfl rfl rfl rfl).trans <| (j_bi q_62_15 rfl).trans <| (j_cmpeqB (t := 32) q_62_17 rfl ww_45).trans (js_ite (rfl) ((j_aload_n q_62_20 rfl).trans <| (j_get (ji := 4) (v := (2, 1)) q_62_21 (js_Fo qy_62 qf_5_33) (js_o23b hb) rfl rfl rfl rfl).trans <| (j_get (ji := 1) (v := (0, σ 1 1)) q_62_24 (js_Fo qy_62 qf_5_65) js_o1 rfl rfl rfl rfl).trans <| (j_bi q_62_27 rfl).trans <| (j_cmpneB (t := 59) q_62_29 rfl ww_33).trans (js_ite (rfl) (j_return q_62_59 qr_62))))) (j_return q_62_59 qr_62))
theorem b_62_32 {E : js_E} {d : Nat} {σ : js_S} {x1 b : Int} : js_J E d 62 32 [(2, 23 + b), (0, x1)] [] σ = js_J E d 62 36 [(2, 23 + b), (0, x1)] [(0, (-1)), (0, 6), (2, 23 + b)] σ :=
  (j_aload_n q_62_32 rfl).trans <| (j_bi q_62_33 rfl).trans <| (j_iconst q_62_35).trans <| rfl
theorem k_62_36 {E : js_E} {d : Nat} {σ σ2 : js_S} {x1 z1 z2 b : Int} (hb : b = 0 ∨ b = 25) (hd : 1 ≤ d) (hz : js_J E (d - 1) 63 0 [(2, 23 + b), (0, z1), (0, z2)] [] σ = js_r0 E σ2) : js_J E d 62 36 [(2, 23 + b), (0, x1)] [(0, z2), (0, z1), (2, 23 + b)] σ = js_J E d 62 39 [(2, 23 + b), (0, x1)] [] σ2 :=
  j_call0 (m := 0) (js_caV q_62_36 (js_Mo qy_62 qm_5_120)) (js_agV (av := [(0, z1), (0, z2)]) (st := []) rfl rfl (js_o23b hb) rfl) rfl rfl (by rw [ql_63]; exact Nat.le_of_ble_eq_true rfl) (Nat.le_of_ble_eq_true rfl) hd hz
theorem kt_62_36 {E : js_E} {d : Nat} {σ σ2 : js_S} {x1 z1 z2 b : Int} (hb : b = 0 ∨ b = 25) {w : Int} (hd : 1 ≤ d) (hz : js_J E (d - 1) 63 0 [(2, 23 + b), (0, z1), (0, z2)] [] σ = js_t E w σ2) : js_J E d 62 36 [(2, 23 + b), (0, x1)] [(0, z2), (0, z1), (2, 23 + b)] σ = js_t E w σ2 :=
  j_callT (m := 0) (js_caV q_62_36 (js_Mo qy_62 qm_5_120)) (js_agV (av := [(0, z1), (0, z2)]) (st := []) rfl rfl (js_o23b hb) rfl) rfl rfl (by rw [ql_63]; exact Nat.le_of_ble_eq_true rfl) (Nat.le_of_ble_eq_true rfl) hd rfl hz
theorem b_62_39 {E : js_E} {d : Nat} {σ : js_S} {x1 b : Int} (hb : b = 0 ∨ b = 25) : js_J E d 62 39 [(2, 23 + b), (0, x1)] [] σ = js_J E d 62 50 [(2, 23 + b), (0, x1)] [(0, σ 1 1), (2, 1)] σ :=
  (j_aload_n q_62_39 rfl).trans <| (j_get (ji := 4) (v := (2, 1)) q_62_40 (js_Fo qy_62 qf_5_33) (js_o23b hb) rfl rfl rfl rfl).trans <| (j_aload_n q_62_43 rfl).trans <| (j_get (ji := 4) (v := (2, 1)) q_62_44 (js_Fo qy_62 qf_5_33) (js_o23b hb) rfl rfl rfl rfl).trans <| (j_get (ji := 1) (v := (0, σ 1 1)) q_62_47 (js_Fo qy_62 qf_5_65) js_o1 rfl rfl rfl rfl).trans <| rfl
theorem k_62_50 {E : js_E} {d : Nat} {σ σ2 : js_S} {x1 z1 b : Int} (hd : 1 ≤ d) (hz : js_J E (d - 1) 47 0 [(2, 1), (0, z1)] [] σ = js_r0 E σ2) : js_J E d 62 50 [(2, 23 + b), (0, x1)] [(0, z1), (2, 1)] σ = js_J E d 62 53 [(2, 23 + b), (0, x1)] [] σ2 :=
  j_call0 (m := 0) (js_caV q_62_50 (js_Mo qy_62 qm_5_124)) (js_agV (av := [(0, z1)]) (st := []) rfl rfl js_o1 rfl) rfl rfl (by rw [ql_47]; exact Nat.le_of_ble_eq_true rfl) (Nat.le_of_ble_eq_true rfl) hd hz
theorem kt_62_50 {E : js_E} {d : Nat} {σ σ2 : js_S} {x1 z1 b : Int} {w : Int} (hd : 1 ≤ d) (hz : js_J E (d - 1) 47 0 [(2, 1), (0, z1)] [] σ = js_t E w σ2) : js_J E d 62 50 [(2, 23 + b), (0, x1)] [(0, z1), (2, 1)] σ = js_t E w σ2 :=
  j_callT (m := 0) (js_caV q_62_50 (js_Mo qy_62 qm_5_124)) (js_agV (av := [(0, z1)]) (st := []) rfl rfl js_o1 rfl) rfl rfl (by rw [ql_47]; exact Nat.le_of_ble_eq_true rfl) (Nat.le_of_ble_eq_true rfl) hd rfl hz
theorem b_62_53 {E : js_E} {d : Nat} {σ : js_S} {x1 b : Int} : js_J E d 62 53 [(2, 23 + b), (0, x1)] [] σ = js_J E d 62 2 [(2, 23 + b), (0, x1 + 1)] [] σ :=
  (j_iinc (l2 := [(2, 23 + b), (0, x1 + 1)]) q_62_53 rfl rfl).trans <| (j_goto (t := 2) q_62_56 rfl).trans <| rfl
-- 63: VitalTwin$Expressions.push (II)V
theorem b_63_0 {E : js_E} {d : Nat} {σ : js_S} {x1 x2 b : Int} (hb : b = 0 ∨ b = 25) : js_J E d 63 0 [(2, 23 + b), (0, x1), (0, x2)] [] σ = (if js_w (σ (23 + b) 15) < 512 then js_J E d 63 26 [(2, 23 + b), (0, x1), (0, x2)] [] σ else js_J E d 63 23 [(2, 23 + b), (0, x1), (0, x2)] [(0, σ 1 2), (0, 10), (2, 1)] σ) :=
  (j_aload_n q_63_0 rfl).trans <| (j_get (ji := 15) (v := (0, σ (23 + b) 15)) q_63_1 (js_Fo qy_63 qf_5_52) (js_o23b hb) rfl rfl rfl rfl).trans <| (j_si q_63_4 rfl).trans <| (j_cmpltB (t := 26) q_63_7 rfl ww_512).trans (js_ite (rfl) ((j_aload_n q_63_10 rfl).trans <| (j_get (ji := 4) (v := (2, 1)) q_63_11 (js_Fo qy_63 qf_5_33) (js_o23b hb) rfl rfl rfl rfl).trans <| (j_bi q_63_14 rfl).trans <| (j_aload_n q_63_16 rfl).trans <| (j_get (ji := 4) (v := (2, 1)) q_63_17 (js_Fo qy_63 qf_5_33) (js_o23b hb) rfl rfl rfl rfl).trans <| (j_get (ji := 2) (v := (0, σ 1 2)) q_63_20 (js_Fo qy_63 qf_5_56) js_o1 rfl rfl rfl rfl).trans <| rfl))
theorem k_63_23 {E : js_E} {d : Nat} {σ σ2 : js_S} {x1 x2 z1 z2 b : Int} (hd : 1 ≤ d) (hz : js_J E (d - 1) 36 0 [(2, 1), (0, z1), (0, z2)] [] σ = js_r0 E σ2) : js_J E d 63 23 [(2, 23 + b), (0, x1), (0, x2)] [(0, z2), (0, z1), (2, 1)] σ = js_J E d 63 26 [(2, 23 + b), (0, x1), (0, x2)] [] σ2 :=
  j_call0 (m := 0) (js_caV q_63_23 (js_Mo qy_63 qm_5_127)) (js_agV (av := [(0, z1), (0, z2)]) (st := []) rfl rfl js_o1 rfl) rfl rfl (by rw [ql_36]; exact Nat.le_of_ble_eq_true rfl) (Nat.le_of_ble_eq_true rfl) hd hz
theorem kt_63_23 {E : js_E} {d : Nat} {σ σ2 : js_S} {x1 x2 z1 z2 b : Int} {w : Int} (hd : 1 ≤ d) (hz : js_J E (d - 1) 36 0 [(2, 1), (0, z1), (0, z2)] [] σ = js_t E w σ2) : js_J E d 63 23 [(2, 23 + b), (0, x1), (0, x2)] [(0, z2), (0, z1), (2, 1)] σ = js_t E w σ2 :=
  j_callT (m := 0) (js_caV q_63_23 (js_Mo qy_63 qm_5_127)) (js_agV (av := [(0, z1), (0, z2)]) (st := []) rfl rfl js_o1 rfl) rfl rfl (by rw [ql_36]; exact Nat.le_of_ble_eq_true rfl) (Nat.le_of_ble_eq_true rfl) hd rfl hz
theorem b_63_26 {E : js_E} {d : Nat} {σ : js_S} {x1 x2 b : Int} (hb : b = 0 ∨ b = 25) : js_J E d 63 26 [(2, 23 + b), (0, x1), (0, x2)] [] σ = (if 0 ≤ js_w (σ (23 + b) 15) ∧ js_w (σ (23 + b) 15) < 512 then js_r0 E (js_up (js_up (js_up (js_up (js_up (js_up (js_up (js_up σ (24 + b) (js_w (σ (23 + b) 15)) (σ 1 1)) (25 + b) (js_w (σ (23 + b) 15)) x1) (26 + b) (js_w (σ (23 + b) 15)) (σ 1 2)) (27 + b) (js_w (σ (23 + b) 15)) (σ (23 + b) 0)) (28 + b) (js_w (σ (23 + b) 15)) (σ (23 + b) 1)) (29 + b) (js_w (σ (23 + b) 15)) (σ (23 + b) 2)) (30 + b) (js_w (σ (23 + b) 15)) x2) (23 + b) 15 ((σ (23 + b) 15) + 1)) else none) :=
  (j_aload_n q_63_26 rfl).trans <| (j_get (ji := 8) (v := (2, 24 + b)) q_63_27 (js_Fo qy_63 qf_5_11) (js_o23b hb) rfl rfl rfl rfl).trans <| (j_aload_n q_63_30 rfl).trans <| (j_get (ji := 15) (v := (0, σ (23 + b) 15)) q_63_31 (js_Fo qy_63 qf_5_52) (js_o23b hb) rfl rfl rfl rfl).trans <| (j_aload_n q_63_34 rfl).trans <| (j_get (ji := 4) (v := (2, 1)) q_63_35 (js_Fo qy_63 qf_5_33) (js_o23b hb) rfl rfl rfl rfl).trans <| (j_get (ji := 1) (v := (0, σ 1 1)) q_63_38 (js_Fo qy_63 qf_5_65) js_o1 rfl rfl rfl rfl).trans <| (j_iastore q_63_41 (js_o24b hb)).trans <| js_itp fun g0 => (j_aload_n q_63_42 rfl).trans <| (j_get (ji := 9) (v := (2, 25 + b)) q_63_43 (js_Fo qy_63 qf_5_15) (js_o23b hb) rfl rfl rfl rfl).trans <| (j_aload_n q_63_46 rfl).trans <| (j_get (ji := 15) (v := (0, σ (23 + b) 15)) q_63_47 (js_Fo qy_63 qf_5_52) (js_o23b hb) rfl rfl rfl (congrArg (Prod.mk 0) ((js_up_ne _ (by omega))))).trans <| (j_iload_n q_63_50 rfl).trans <| (j_iastore q_63_51 (js_o25b hb)).trans <| (if_pos g0).trans <| (j_aload_n q_63_52 rfl).trans <| (j_get (ji := 10) (v := (2, 26 + b)) q_63_53 (js_Fo qy_63 qf_5_18) (js_o23b hb) rfl rfl rfl rfl).trans <| (j_aload_n q_63_56 rfl).trans <| (j_get (ji := 15) (v := (0, σ (23 + b) 15)) q_63_57 (js_Fo qy_63 qf_5_52) (js_o23b hb) rfl rfl rfl (congrArg (Prod.mk 0) ((js_up_ne _ (by omega)).trans <| (js_up_ne _ (by omega))))).trans <| (j_aload_n q_63_60 rfl).trans <| (j_get (ji := 4) (v := (2, 1)) q_63_61 (js_Fo qy_63 qf_5_33) (js_o23b hb) rfl rfl rfl rfl).trans <| (j_get (ji := 2) (v := (0, σ 1 2)) q_63_64 (js_Fo qy_63 qf_5_56) js_o1 rfl rfl rfl (congrArg (Prod.mk 0) ((js_up_ne _ (by omega)).trans <| (js_up_ne _ (by omega))))).trans <| (j_iastore q_63_67 (js_o26b hb)).trans <| (if_pos g0).trans <| (j_aload_n q_63_68 rfl).trans <| (j_get (ji := 11) (v := (2, 27 + b)) q_63_69 (js_Fo qy_63 qf_5_21) (js_o23b hb) rfl rfl rfl rfl).trans <| (j_aload_n q_63_72 rfl).trans <| (j_get (ji := 15) (v := (0, σ (23 + b) 15)) q_63_73 (js_Fo qy_63 qf_5_52) (js_o23b hb) rfl rfl rfl (congrArg (Prod.mk 0) ((js_up_ne _ (by omega)).trans <| (js_up_ne _ (by omega)).trans <| (js_up_ne _ (by omega))))).trans <| (j_aload_n q_63_76 rfl).trans <| (j_get (ji := 0) (v := (0, σ (23 + b) 0)) q_63_77 (js_Fo qy_63 qf_5_130) (js_o23b hb) rfl rfl rfl (congrArg (Prod.mk 0) ((js_up_ne _ (by omega)).trans <| (js_up_ne _ (by omega)).trans <| (js_up_ne _ (by omega))))).trans <| (j_iastore q_63_80 (js_o27b hb)).trans <| (if_pos g0).trans <| (j_aload_n q_63_81 rfl).trans <| (j_get (ji := 12) (v := (2, 28 + b)) q_63_82 (js_Fo qy_63 qf_5_24) (js_o23b hb) rfl rfl rfl rfl).trans <| (j_aload_n q_63_85 rfl).trans <| (j_get (ji := 15) (v := (0, σ (23 + b) 15)) q_63_86 (js_Fo qy_63 qf_5_52) (js_o23b hb) rfl rfl rfl (congrArg (Prod.mk 0) ((js_up_ne _ (by omega)).trans <| (js_up_ne _ (by omega)).trans <| (js_up_ne _ (by omega)).trans <| (js_up_ne _ (by omega))))).trans <| (j_aload_n q_63_89 rfl).trans <| (j_get (ji := 1) (v := (0, σ (23 + b) 1)) q_63_90 (js_Fo qy_63 qf_5_94) (js_o23b hb) rfl rfl rfl (congrArg (Prod.mk 0) ((js_up_ne _ (by omega)).trans <| (js_up_ne _ (by omega)).trans <| (js_up_ne _ (by omega)).trans <| (js_up_ne _ (by omega))))).trans <| (j_iastore q_63_93 (js_o28b hb)).trans <| (if_pos g0).trans <| (j_aload_n q_63_94 rfl).trans <| (j_get (ji := 13) (v := (2, 29 + b)) q_63_95 (js_Fo qy_63 qf_5_27) (js_o23b hb) rfl rfl rfl rfl).trans <| (j_aload_n q_63_98 rfl).trans <| (j_get (ji := 15) (v := (0, σ (23 + b) 15)) q_63_99 (js_Fo qy_63 qf_5_52) (js_o23b hb) rfl rfl rfl (congrArg (Prod.mk 0) ((js_up_ne _ (by omega)).trans <| (js_up_ne _ (by omega)).trans <| (js_up_ne _ (by omega)).trans <| (js_up_ne _ (by omega)).trans <| (js_up_ne _ (by omega))))).trans <| (j_aload_n q_63_102 rfl).trans <| (j_get (ji := 2) (v := (0, σ (23 + b) 2)) q_63_103 (js_Fo qy_63 qf_5_97) (js_o23b hb) rfl rfl rfl (congrArg (Prod.mk 0) ((js_up_ne _ (by omega)).trans <| (js_up_ne _ (by omega)).trans <| (js_up_ne _ (by omega)).trans <| (js_up_ne _ (by omega)).trans <| (js_up_ne _ (by omega))))).trans <| (j_iastore q_63_106 (js_o29b hb)).trans <| (if_pos g0).trans <| (j_aload_n q_63_107 rfl).trans <| (j_get (ji := 14) (v := (2, 30 + b)) q_63_108 (js_Fo qy_63 qf_5_30) (js_o23b hb) rfl rfl rfl rfl).trans <| (j_aload_n q_63_111 rfl).trans <| (j_get (ji := 15) (v := (0, σ (23 + b) 15)) q_63_112 (js_Fo qy_63 qf_5_52) (js_o23b hb) rfl rfl rfl (congrArg (Prod.mk 0) ((js_up_ne _ (by omega)).trans <| (js_up_ne _ (by omega)).trans <| (js_up_ne _ (by omega)).trans <| (js_up_ne _ (by omega)).trans <| (js_up_ne _ (by omega)).trans <| (js_up_ne _ (by omega))))).trans <| (j_iload_n q_63_115 rfl).trans <| (j_iastore q_63_116 (js_o30b hb)).trans <| (if_pos g0).trans <| (j_aload_n q_63_117 rfl).trans <| (j_dupr q_63_118).trans <| (j_get (ji := 15) (v := (0, σ (23 + b) 15)) q_63_119 (js_Fo qy_63 qf_5_52) (js_o23b hb) rfl rfl rfl (congrArg (Prod.mk 0) ((js_up_ne _ (by omega)).trans <| (js_up_ne _ (by omega)).trans <| (js_up_ne _ (by omega)).trans <| (js_up_ne _ (by omega)).trans <| (js_up_ne _ (by omega)).trans <| (js_up_ne _ (by omega)).trans <| (js_up_ne _ (by omega))))).trans <| (j_iconst q_63_122).trans <| (j_iadd q_63_123).trans <| (j_putI (ji := 15) q_63_124 (js_Fo qy_63 qf_5_52) rfl (js_o23b hb) rfl rfl rfl).trans <| j_return q_63_127 qr_63
-- 64: VitalTwin$Expressions.named ()V
theorem b_64_0 {E : js_E} {d : Nat} {σ : js_S} {b : Int} (hb : b = 0 ∨ b = 25) : js_J E d 64 0 [(2, 23 + b), (9, 0), (9, 0)] [] σ = js_J E d 64 16 [(2, 23 + b), (0, σ 1 2), (9, 0)] [(2, 1), (2, 7 + b)] σ :=
  (j_aload_n q_64_0 rfl).trans <| (j_get (ji := 4) (v := (2, 1)) q_64_1 (js_Fo qy_64 qf_5_33) (js_o23b hb) rfl rfl rfl rfl).trans <| (j_get (ji := 2) (v := (0, σ 1 2)) q_64_4 (js_Fo qy_64 qf_5_56) js_o1 rfl rfl rfl rfl).trans <| (j_istore_n (l2 := [(2, 23 + b), (0, σ 1 2), (9, 0)]) q_64_7 rfl (Nat.le_of_ble_eq_true rfl)).trans <| (j_aload_n q_64_8 rfl).trans <| (j_get (ji := 5) (v := (2, 7 + b)) q_64_9 (js_Fo qy_64 qf_5_37) (js_o23b hb) rfl rfl rfl rfl).trans <| (j_aload_n q_64_12 rfl).trans <| (j_get (ji := 4) (v := (2, 1)) q_64_13 (js_Fo qy_64 qf_5_33) (js_o23b hb) rfl rfl rfl rfl).trans <| rfl
theorem k_64_16 {E : js_E} {d : Nat} {σ σ2 : js_S} {x1 b : Int} (hb : b = 0 ∨ b = 25) {v : Int} (hd : 1 ≤ d) (hz : js_J E (d - 1) 37 0 [(2, 7 + b), (2, 1), (9, 0), (9, 0), (9, 0)] [] σ = js_r E (2, v) σ2) : js_J E d 64 16 [(2, 23 + b), (0, x1), (9, 0)] [(2, 1), (2, 7 + b)] σ = js_J E d 64 19 [(2, 23 + b), (0, x1), (9, 0)] [(2, v)] σ2 :=
  j_call (m := 3) (js_caV q_64_16 (js_Mo qy_64 qm_5_216)) (js_agV (av := [(2, 1)]) (st := []) rfl rfl (js_o7b hb) rfl) rfl rfl (by rw [ql_37]; exact Nat.le_of_ble_eq_true rfl) (Nat.le_of_ble_eq_true rfl) hd hz
theorem kt_64_16 {E : js_E} {d : Nat} {σ σ2 : js_S} {x1 b : Int} (hb : b = 0 ∨ b = 25) {w : Int} (hd : 1 ≤ d) (hz : js_J E (d - 1) 37 0 [(2, 7 + b), (2, 1), (9, 0), (9, 0), (9, 0)] [] σ = js_t E w σ2) : js_J E d 64 16 [(2, 23 + b), (0, x1), (9, 0)] [(2, 1), (2, 7 + b)] σ = js_t E w σ2 :=
  j_callT (m := 3) (js_caV q_64_16 (js_Mo qy_64 qm_5_216)) (js_agV (av := [(2, 1)]) (st := []) rfl rfl (js_o7b hb) rfl) rfl rfl (by rw [ql_37]; exact Nat.le_of_ble_eq_true rfl) (Nat.le_of_ble_eq_true rfl) hd rfl hz
theorem b_64_19 {E : js_E} {d : Nat} {σ : js_S} {x1 z0 b : Int} : js_J E d 64 19 [(2, 23 + b), (0, x1), (9, 0)] [(2, z0)] σ = (if z0 < 0 then js_J E d 64 33 [(2, 23 + b), (0, x1), (2, z0)] [] σ else js_J E d 64 24 [(2, 23 + b), (0, x1), (2, z0)] [] σ) :=
  (j_astore_n (l2 := [(2, 23 + b), (0, x1), (2, z0)]) q_64_19 rfl (Nat.le_of_ble_eq_true rfl)).trans <| (j_aload_n q_64_20 rfl).trans <| (j_ifnull (t := 33) q_64_21 rfl).trans (js_ite (rfl) (rfl))
theorem b_64_24 {E : js_E} {d : Nat} {σ : js_S} {x1 x2 b : Int} (hs_x2 : js_desc E.1 σ x2 = some (0, 11, js_sym)) (hb : b = 0 ∨ b = 25) : js_J E d 64 24 [(2, 23 + b), (0, x1), (2, x2)] [] σ = (if js_w (σ x2 1) = 8 then js_J E d 64 33 [(2, 23 + b), (0, x1), (2, x2)] [] σ else js_J E d 64 47 [(2, 23 + b), (0, x1), (2, x2)] [(2, 1)] σ) :=
  (j_aload_n q_64_24 rfl).trans <| (j_get (ji := 1) (v := (0, σ x2 1)) q_64_25 (js_Fo qy_64 qf_5_220) hs_x2 rfl rfl rfl rfl).trans <| (j_bi q_64_28 rfl).trans <| (j_cmpneB (t := 43) q_64_30 rfl ww_8).trans (js_ite (rfl) ((j_aload_n q_64_43 rfl).trans <| (j_get (ji := 4) (v := (2, 1)) q_64_44 (js_Fo qy_64 qf_5_33) (js_o23b hb) rfl rfl rfl rfl).trans <| rfl))
theorem b_64_33 {E : js_E} {d : Nat} {σ : js_S} {x1 x2 b : Int} (hb : b = 0 ∨ b = 25) : js_J E d 64 33 [(2, 23 + b), (0, x1), (2, x2)] [] σ = js_J E d 64 39 [(2, 23 + b), (0, x1), (2, x2)] [(0, x1), (0, 3), (2, 1)] σ :=
  (j_aload_n q_64_33 rfl).trans <| (j_get (ji := 4) (v := (2, 1)) q_64_34 (js_Fo qy_64 qf_5_33) (js_o23b hb) rfl rfl rfl rfl).trans <| (j_iconst q_64_37).trans <| (j_iload_n q_64_38 rfl).trans <| rfl
theorem k_64_39 {E : js_E} {d : Nat} {σ σ2 : js_S} {x1 x2 z1 z2 b : Int} (hd : 1 ≤ d) (hz : js_J E (d - 1) 36 0 [(2, 1), (0, z1), (0, z2)] [] σ = js_r0 E σ2) : js_J E d 64 39 [(2, 23 + b), (0, x1), (2, x2)] [(0, z2), (0, z1), (2, 1)] σ = js_J E d 64 42 [(2, 23 + b), (0, x1), (2, x2)] [] σ2 :=
  j_call0 (m := 0) (js_caV q_64_39 (js_Mo qy_64 qm_5_127)) (js_agV (av := [(0, z1), (0, z2)]) (st := []) rfl rfl js_o1 rfl) rfl rfl (by rw [ql_36]; exact Nat.le_of_ble_eq_true rfl) (Nat.le_of_ble_eq_true rfl) hd hz
theorem kt_64_39 {E : js_E} {d : Nat} {σ σ2 : js_S} {x1 x2 z1 z2 b : Int} {w : Int} (hd : 1 ≤ d) (hz : js_J E (d - 1) 36 0 [(2, 1), (0, z1), (0, z2)] [] σ = js_t E w σ2) : js_J E d 64 39 [(2, 23 + b), (0, x1), (2, x2)] [(0, z2), (0, z1), (2, 1)] σ = js_t E w σ2 :=
  j_callT (m := 0) (js_caV q_64_39 (js_Mo qy_64 qm_5_127)) (js_agV (av := [(0, z1), (0, z2)]) (st := []) rfl rfl js_o1 rfl) rfl rfl (by rw [ql_36]; exact Nat.le_of_ble_eq_true rfl) (Nat.le_of_ble_eq_true rfl) hd rfl hz
theorem b_64_42 {E : js_E} {d : Nat} {σ : js_S} {x1 x2 b : Int} : js_J E d 64 42 [(2, 23 + b), (0, x1), (2, x2)] [] σ = js_r0 E σ :=
  j_return q_64_42 qr_64
theorem k_64_47 {E : js_E} {d : Nat} {σ σ2 : js_S} {x1 x2 b : Int} (hd : 1 ≤ d) (hz : js_J E (d - 1) 33 0 [(2, 1), (9, 0)] [] σ = js_r0 E σ2) : js_J E d 64 47 [(2, 23 + b), (0, x1), (2, x2)] [(2, 1)] σ = js_J E d 64 50 [(2, 23 + b), (0, x1), (2, x2)] [] σ2 :=
  j_call0 (m := 1) (js_caV q_64_47 (js_Mo qy_64 qm_5_140)) (js_agV (av := []) (st := []) rfl rfl js_o1 rfl) rfl rfl (by rw [ql_33]; exact Nat.le_of_ble_eq_true rfl) (Nat.le_of_ble_eq_true rfl) hd hz
theorem kt_64_47 {E : js_E} {d : Nat} {σ σ2 : js_S} {x1 x2 b : Int} {w : Int} (hd : 1 ≤ d) (hz : js_J E (d - 1) 33 0 [(2, 1), (9, 0)] [] σ = js_t E w σ2) : js_J E d 64 47 [(2, 23 + b), (0, x1), (2, x2)] [(2, 1)] σ = js_t E w σ2 :=
  j_callT (m := 1) (js_caV q_64_47 (js_Mo qy_64 qm_5_140)) (js_agV (av := []) (st := []) rfl rfl js_o1 rfl) rfl rfl (by rw [ql_33]; exact Nat.le_of_ble_eq_true rfl) (Nat.le_of_ble_eq_true rfl) hd rfl hz
theorem b_64_50 {E : js_E} {d : Nat} {σ : js_S} {x1 x2 b : Int} : js_J E d 64 50 [(2, 23 + b), (0, x1), (2, x2)] [] σ = js_J E d 64 53 [(2, 23 + b), (0, x1), (2, x2)] [(0, x1), (2, x2), (2, 23 + b)] σ :=
  (j_aload_n q_64_50 rfl).trans <| (j_aload_n q_64_51 rfl).trans <| (j_iload_n q_64_52 rfl).trans <| rfl
theorem k_64_53 {E : js_E} {d : Nat} {σ σ2 : js_S} {x1 x2 z1 z2 b : Int} (hb : b = 0 ∨ b = 25) (hd : 1 ≤ d) (hz : js_J E (d - 1) 65 0 [(2, 23 + b), (2, z1), (0, z2), (9, 0), (9, 0)] [] σ = js_r0 E σ2) : js_J E d 64 53 [(2, 23 + b), (0, x1), (2, x2)] [(0, z2), (2, z1), (2, 23 + b)] σ = js_J E d 64 56 [(2, 23 + b), (0, x1), (2, x2)] [] σ2 :=
  j_call0 (m := 2) (js_caV q_64_53 (js_Mo qy_64 qm_5_225)) (js_agV (av := [(2, z1), (0, z2)]) (st := []) rfl rfl (js_o23b hb) rfl) rfl rfl (by rw [ql_65]; exact Nat.le_of_ble_eq_true rfl) (Nat.le_of_ble_eq_true rfl) hd hz
theorem kt_64_53 {E : js_E} {d : Nat} {σ σ2 : js_S} {x1 x2 z1 z2 b : Int} (hb : b = 0 ∨ b = 25) {w : Int} (hd : 1 ≤ d) (hz : js_J E (d - 1) 65 0 [(2, 23 + b), (2, z1), (0, z2), (9, 0), (9, 0)] [] σ = js_t E w σ2) : js_J E d 64 53 [(2, 23 + b), (0, x1), (2, x2)] [(0, z2), (2, z1), (2, 23 + b)] σ = js_t E w σ2 :=
  j_callT (m := 2) (js_caV q_64_53 (js_Mo qy_64 qm_5_225)) (js_agV (av := [(2, z1), (0, z2)]) (st := []) rfl rfl (js_o23b hb) rfl) rfl rfl (by rw [ql_65]; exact Nat.le_of_ble_eq_true rfl) (Nat.le_of_ble_eq_true rfl) hd rfl hz
theorem b_64_56 {E : js_E} {d : Nat} {σ : js_S} {x1 x2 b : Int} (hs_x2 : js_desc E.1 σ x2 = some (0, 11, js_sym)) (hb : b = 0 ∨ b = 25) : js_J E d 64 56 [(2, 23 + b), (0, x1), (2, x2)] [] σ = (if js_w (σ x2 1) = 4 then (if js_w (σ x2 2) = 2 then js_J E d 64 78 [(2, 23 + b), (0, x1), (2, x2)] [(0, x1), (0, 5), (2, 1)] σ else js_J E d 64 81 [(2, 23 + b), (0, x1), (2, x2)] [] σ) else (if js_w (σ x2 12) = 0 then (if js_w (σ x2 1) = 0 then js_J E d 64 145 [(2, 23 + b), (0, x1), (2, x2)] [] σ else (if js_w (σ x2 1) = 9 then js_J E d 64 145 [(2, 23 + b), (0, x1), (2, x2)] [] σ else js_J E d 64 219 [(2, 23 + b), (0, x1), (2, x2)] [(0, σ x2 4), (0, σ x2 3), (0, σ x2 2), (2, 23 + b)] σ)) else js_J E d 64 99 [(2, 23 + b), (0, x1), (2, x2)] [(2, x2), (2, 23 + b)] σ)) :=
  (j_aload_n q_64_56 rfl).trans <| (j_get (ji := 1) (v := (0, σ x2 1)) q_64_57 (js_Fo qy_64 qf_5_220) hs_x2 rfl rfl rfl rfl).trans <| (j_iconst q_64_60).trans <| (j_cmpneB (t := 90) q_64_61 rfl ww_4).trans (js_ite ((j_aload_n q_64_64 rfl).trans <| (j_get (ji := 2) (v := (0, σ x2 2)) q_64_65 (js_Fo qy_64 qf_5_229) hs_x2 rfl rfl rfl rfl).trans <| (j_iconst q_64_68).trans <| (j_cmpneB (t := 81) q_64_69 rfl ww_2).trans (js_ite ((j_aload_n q_64_72 rfl).trans <| (j_get (ji := 4) (v := (2, 1)) q_64_73 (js_Fo qy_64 qf_5_33) (js_o23b hb) rfl rfl rfl rfl).trans <| (j_iconst q_64_76).trans <| (j_iload_n q_64_77 rfl).trans <| rfl) (rfl))) ((j_aload_n q_64_90 rfl).trans <| (j_get (ji := 12) (v := (0, σ x2 12)) q_64_91 (js_Fo qy_64 qf_5_233) hs_x2 rfl rfl rfl rfl).trans <| (j_ifeq (t := 129) q_64_94 rfl).trans (js_ite ((j_aload_n q_64_129 rfl).trans <| (j_get (ji := 1) (v := (0, σ x2 1)) q_64_130 (js_Fo qy_64 qf_5_220) hs_x2 rfl rfl rfl rfl).trans <| (j_ifeq (t := 145) q_64_133 rfl).trans (js_ite (rfl) ((j_aload_n q_64_136 rfl).trans <| (j_get (ji := 1) (v := (0, σ x2 1)) q_64_137 (js_Fo qy_64 qf_5_220) hs_x2 rfl rfl rfl rfl).trans <| (j_bi q_64_140 rfl).trans <| (j_cmpneB (t := 206) q_64_142 rfl ww_9).trans (js_ite (rfl) ((j_aload_n q_64_206 rfl).trans <| (j_aload_n q_64_207 rfl).trans <| (j_get (ji := 2) (v := (0, σ x2 2)) q_64_208 (js_Fo qy_64 qf_5_229) hs_x2 rfl rfl rfl rfl).trans <| (j_aload_n q_64_211 rfl).trans <| (j_get (ji := 3) (v := (0, σ x2 3)) q_64_212 (js_Fo qy_64 qf_5_241) hs_x2 rfl rfl rfl rfl).trans <| (j_aload_n q_64_215 rfl).trans <| (j_get (ji := 4) (v := (0, σ x2 4)) q_64_216 (js_Fo qy_64 qf_5_242) hs_x2 rfl rfl rfl rfl).trans <| rfl))))) ((j_aload_n q_64_97 rfl).trans <| (j_aload_n q_64_98 rfl).trans <| rfl))))
theorem k_64_78 {E : js_E} {d : Nat} {σ σ2 : js_S} {x1 x2 z1 z2 b : Int} (hd : 1 ≤ d) (hz : js_J E (d - 1) 36 0 [(2, 1), (0, z1), (0, z2)] [] σ = js_r0 E σ2) : js_J E d 64 78 [(2, 23 + b), (0, x1), (2, x2)] [(0, z2), (0, z1), (2, 1)] σ = js_J E d 64 81 [(2, 23 + b), (0, x1), (2, x2)] [] σ2 :=
  j_call0 (m := 0) (js_caV q_64_78 (js_Mo qy_64 qm_5_127)) (js_agV (av := [(0, z1), (0, z2)]) (st := []) rfl rfl js_o1 rfl) rfl rfl (by rw [ql_36]; exact Nat.le_of_ble_eq_true rfl) (Nat.le_of_ble_eq_true rfl) hd hz
theorem kt_64_78 {E : js_E} {d : Nat} {σ σ2 : js_S} {x1 x2 z1 z2 b : Int} {w : Int} (hd : 1 ≤ d) (hz : js_J E (d - 1) 36 0 [(2, 1), (0, z1), (0, z2)] [] σ = js_t E w σ2) : js_J E d 64 78 [(2, 23 + b), (0, x1), (2, x2)] [(0, z2), (0, z1), (2, 1)] σ = js_t E w σ2 :=
  j_callT (m := 0) (js_caV q_64_78 (js_Mo qy_64 qm_5_127)) (js_agV (av := [(0, z1), (0, z2)]) (st := []) rfl rfl js_o1 rfl) rfl rfl (by rw [ql_36]; exact Nat.le_of_ble_eq_true rfl) (Nat.le_of_ble_eq_true rfl) hd rfl hz
theorem b_64_81 {E : js_E} {d : Nat} {σ : js_S} {x1 x2 b : Int} : js_J E d 64 81 [(2, 23 + b), (0, x1), (2, x2)] [] σ = js_J E d 64 84 [(2, 23 + b), (0, x1), (2, x2)] [(0, x1), (2, x2), (2, 23 + b)] σ :=
  (j_aload_n q_64_81 rfl).trans <| (j_aload_n q_64_82 rfl).trans <| (j_iload_n q_64_83 rfl).trans <| rfl
theorem k_64_84 {E : js_E} {d : Nat} {σ σ2 : js_S} {x1 x2 z1 z2 b : Int} (hb : b = 0 ∨ b = 25) (hd : 1 ≤ d) (hz : js_J E (d - 1) 66 0 [(2, 23 + b), (2, z1), (0, z2), (9, 0), (9, 0), (9, 0), (9, 0), (9, 0), (9, 0)] [] σ = js_r0 E σ2) : js_J E d 64 84 [(2, 23 + b), (0, x1), (2, x2)] [(0, z2), (2, z1), (2, 23 + b)] σ = js_J E d 64 87 [(2, 23 + b), (0, x1), (2, x2)] [] σ2 :=
  j_call0 (m := 6) (js_caV q_64_84 (js_Mo qy_64 qm_5_230)) (js_agV (av := [(2, z1), (0, z2)]) (st := []) rfl rfl (js_o23b hb) rfl) rfl rfl (by rw [ql_66]; exact Nat.le_of_ble_eq_true rfl) (Nat.le_of_ble_eq_true rfl) hd hz
theorem kt_64_84 {E : js_E} {d : Nat} {σ σ2 : js_S} {x1 x2 z1 z2 b : Int} (hb : b = 0 ∨ b = 25) {w : Int} (hd : 1 ≤ d) (hz : js_J E (d - 1) 66 0 [(2, 23 + b), (2, z1), (0, z2), (9, 0), (9, 0), (9, 0), (9, 0), (9, 0), (9, 0)] [] σ = js_t E w σ2) : js_J E d 64 84 [(2, 23 + b), (0, x1), (2, x2)] [(0, z2), (2, z1), (2, 23 + b)] σ = js_t E w σ2 :=
  j_callT (m := 6) (js_caV q_64_84 (js_Mo qy_64 qm_5_230)) (js_agV (av := [(2, z1), (0, z2)]) (st := []) rfl rfl (js_o23b hb) rfl) rfl rfl (by rw [ql_66]; exact Nat.le_of_ble_eq_true rfl) (Nat.le_of_ble_eq_true rfl) hd rfl hz
theorem b_64_87 {E : js_E} {d : Nat} {σ : js_S} {x1 x2 b : Int} : js_J E d 64 87 [(2, 23 + b), (0, x1), (2, x2)] [] σ = js_J E d 64 238 [(2, 23 + b), (0, x1), (2, x2)] [] σ :=
  (j_goto (t := 238) q_64_87 rfl).trans <| rfl
theorem k_64_99 {E : js_E} {d : Nat} {σ σ2 : js_S} {x1 x2 z1 b : Int} (hb : b = 0 ∨ b = 25) (hd : 1 ≤ d) (hz : js_J E (d - 1) 76 0 [(2, 23 + b), (2, z1)] [] σ = js_r0 E σ2) : js_J E d 64 99 [(2, 23 + b), (0, x1), (2, x2)] [(2, z1), (2, 23 + b)] σ = js_J E d 64 102 [(2, 23 + b), (0, x1), (2, x2)] [] σ2 :=
  j_call0 (m := 0) (js_caV q_64_99 (js_Mo qy_64 qm_5_237)) (js_agV (av := [(2, z1)]) (st := []) rfl rfl (js_o23b hb) rfl) rfl rfl (by rw [ql_76]; exact Nat.le_of_ble_eq_true rfl) (Nat.le_of_ble_eq_true rfl) hd hz
theorem kt_64_99 {E : js_E} {d : Nat} {σ σ2 : js_S} {x1 x2 z1 b : Int} (hb : b = 0 ∨ b = 25) {w : Int} (hd : 1 ≤ d) (hz : js_J E (d - 1) 76 0 [(2, 23 + b), (2, z1)] [] σ = js_t E w σ2) : js_J E d 64 99 [(2, 23 + b), (0, x1), (2, x2)] [(2, z1), (2, 23 + b)] σ = js_t E w σ2 :=
  j_callT (m := 0) (js_caV q_64_99 (js_Mo qy_64 qm_5_237)) (js_agV (av := [(2, z1)]) (st := []) rfl rfl (js_o23b hb) rfl) rfl rfl (by rw [ql_76]; exact Nat.le_of_ble_eq_true rfl) (Nat.le_of_ble_eq_true rfl) hd rfl hz
theorem b_64_102 {E : js_E} {d : Nat} {σ : js_S} {x1 x2 b : Int} (hs_x2 : js_desc E.1 σ x2 = some (0, 11, js_sym)) : js_J E d 64 102 [(2, 23 + b), (0, x1), (2, x2)] [] σ = js_J E d 64 115 [(2, 23 + b), (0, x1), (2, x2)] [(0, σ x2 4), (0, σ x2 3), (0, σ x2 2), (2, 23 + b)] σ :=
  (j_aload_n q_64_102 rfl).trans <| (j_aload_n q_64_103 rfl).trans <| (j_get (ji := 2) (v := (0, σ x2 2)) q_64_104 (js_Fo qy_64 qf_5_229) hs_x2 rfl rfl rfl rfl).trans <| (j_aload_n q_64_107 rfl).trans <| (j_get (ji := 3) (v := (0, σ x2 3)) q_64_108 (js_Fo qy_64 qf_5_241) hs_x2 rfl rfl rfl rfl).trans <| (j_aload_n q_64_111 rfl).trans <| (j_get (ji := 4) (v := (0, σ x2 4)) q_64_112 (js_Fo qy_64 qf_5_242) hs_x2 rfl rfl rfl rfl).trans <| rfl
theorem k_64_115 {E : js_E} {d : Nat} {σ σ2 : js_S} {x1 x2 z1 z2 z3 b : Int} (hb : b = 0 ∨ b = 25) (hd : 1 ≤ d) (hz : js_J E (d - 1) 75 0 [(2, 23 + b), (0, z1), (0, z2), (0, z3)] [] σ = js_r0 E σ2) : js_J E d 64 115 [(2, 23 + b), (0, x1), (2, x2)] [(0, z3), (0, z2), (0, z1), (2, 23 + b)] σ = js_J E d 64 118 [(2, 23 + b), (0, x1), (2, x2)] [] σ2 :=
  j_call0 (m := 0) (js_caV q_64_115 (js_Mo qy_64 qm_5_147)) (js_agV (av := [(0, z1), (0, z2), (0, z3)]) (st := []) rfl rfl (js_o23b hb) rfl) rfl rfl (by rw [ql_75]; exact Nat.le_of_ble_eq_true rfl) (Nat.le_of_ble_eq_true rfl) hd hz
theorem kt_64_115 {E : js_E} {d : Nat} {σ σ2 : js_S} {x1 x2 z1 z2 z3 b : Int} (hb : b = 0 ∨ b = 25) {w : Int} (hd : 1 ≤ d) (hz : js_J E (d - 1) 75 0 [(2, 23 + b), (0, z1), (0, z2), (0, z3)] [] σ = js_t E w σ2) : js_J E d 64 115 [(2, 23 + b), (0, x1), (2, x2)] [(0, z3), (0, z2), (0, z1), (2, 23 + b)] σ = js_t E w σ2 :=
  j_callT (m := 0) (js_caV q_64_115 (js_Mo qy_64 qm_5_147)) (js_agV (av := [(0, z1), (0, z2), (0, z3)]) (st := []) rfl rfl (js_o23b hb) rfl) rfl rfl (by rw [ql_75]; exact Nat.le_of_ble_eq_true rfl) (Nat.le_of_ble_eq_true rfl) hd rfl hz
theorem b_64_118 {E : js_E} {d : Nat} {σ : js_S} {x1 x2 b : Int} (hb : b = 0 ∨ b = 25) : js_J E d 64 118 [(2, 23 + b), (0, x1), (2, x2)] [] σ = js_J E d 64 123 [(2, 23 + b), (0, x1), (2, x2)] [(2, x2), (2, 8 + b)] σ :=
  (j_aload_n q_64_118 rfl).trans <| (j_get (ji := 6) (v := (2, 8 + b)) q_64_119 (js_Fo qy_64 qf_5_47) (js_o23b hb) rfl rfl rfl rfl).trans <| (j_aload_n q_64_122 rfl).trans <| rfl
theorem k_64_123 {E : js_E} {d : Nat} {σ σ2 : js_S} {x1 x2 z1 b : Int} (hb : b = 0 ∨ b = 25) (hd : 1 ≤ d) (hz : js_J E (d - 1) 77 0 [(2, 8 + b), (2, z1)] [] σ = js_r0 E σ2) : js_J E d 64 123 [(2, 23 + b), (0, x1), (2, x2)] [(2, z1), (2, 8 + b)] σ = js_J E d 64 126 [(2, 23 + b), (0, x1), (2, x2)] [] σ2 :=
  j_call0 (m := 0) (js_caV q_64_123 (js_Mo qy_64 qm_5_243)) (js_agV (av := [(2, z1)]) (st := []) rfl rfl (js_o8b hb) rfl) rfl rfl (by rw [ql_77]; exact Nat.le_of_ble_eq_true rfl) (Nat.le_of_ble_eq_true rfl) hd hz
theorem kt_64_123 {E : js_E} {d : Nat} {σ σ2 : js_S} {x1 x2 z1 b : Int} (hb : b = 0 ∨ b = 25) {w : Int} (hd : 1 ≤ d) (hz : js_J E (d - 1) 77 0 [(2, 8 + b), (2, z1)] [] σ = js_t E w σ2) : js_J E d 64 123 [(2, 23 + b), (0, x1), (2, x2)] [(2, z1), (2, 8 + b)] σ = js_t E w σ2 :=
  j_callT (m := 0) (js_caV q_64_123 (js_Mo qy_64 qm_5_243)) (js_agV (av := [(2, z1)]) (st := []) rfl rfl (js_o8b hb) rfl) rfl rfl (by rw [ql_77]; exact Nat.le_of_ble_eq_true rfl) (Nat.le_of_ble_eq_true rfl) hd rfl hz
theorem b_64_126 {E : js_E} {d : Nat} {σ : js_S} {x1 x2 b : Int} : js_J E d 64 126 [(2, 23 + b), (0, x1), (2, x2)] [] σ = js_J E d 64 238 [(2, 23 + b), (0, x1), (2, x2)] [] σ :=
  (j_goto (t := 238) q_64_126 rfl).trans <| rfl
theorem b_64_145 {E : js_E} {d : Nat} {σ : js_S} {x1 x2 b : Int} (hs_x2 : js_desc E.1 σ x2 = some (0, 11, js_sym)) : js_J E d 64 145 [(2, 23 + b), (0, x1), (2, x2)] [] σ = (if js_w (σ x2 2) = 0 then js_J E d 64 165 [(2, 23 + b), (0, x1), (2, x2)] [(0, σ x2 8), (0, σ x2 2), (2, 23 + b)] σ else js_J E d 64 165 [(2, 23 + b), (0, x1), (2, x2)] [(0, 0), (0, σ x2 2), (2, 23 + b)] σ) :=
  (j_aload_n q_64_145 rfl).trans <| (j_aload_n q_64_146 rfl).trans <| (j_get (ji := 2) (v := (0, σ x2 2)) q_64_147 (js_Fo qy_64 qf_5_229) hs_x2 rfl rfl rfl rfl).trans <| (j_aload_n q_64_150 rfl).trans <| (j_get (ji := 2) (v := (0, σ x2 2)) q_64_151 (js_Fo qy_64 qf_5_229) hs_x2 rfl rfl rfl rfl).trans <| (j_ifne (t := 164) q_64_154 rfl).trans (js_ite ((j_aload_n q_64_157 rfl).trans <| (j_get (ji := 8) (v := (0, σ x2 8)) q_64_158 (js_Fo qy_64 qf_5_246) hs_x2 rfl rfl rfl rfl).trans <| (j_goto (t := 165) q_64_161 rfl).trans <| rfl) ((j_iconst q_64_164).trans <| rfl))
theorem b_64_165 {E : js_E} {d : Nat} {σ : js_S} {x1 x2 z1 z2 b : Int} (hb : b = 0 ∨ b = 25) (hs_x2 : js_desc E.1 σ x2 = some (0, 11, js_sym)) : js_J E d 64 165 [(2, 23 + b), (0, x1), (2, x2)] [(0, z2), (0, z1), (2, 23 + b)] σ = js_J E d 64 177 [(2, 23 + b), (0, x1), (2, x2)] [(0, σ x2 8), (0, σ x2 2), (2, 7 + b), (0, z2), (0, z1), (2, 23 + b)] σ :=
  (j_aload_n q_64_165 rfl).trans <| (j_get (ji := 5) (v := (2, 7 + b)) q_64_166 (js_Fo qy_64 qf_5_37) (js_o23b hb) rfl rfl rfl rfl).trans <| (j_aload_n q_64_169 rfl).trans <| (j_get (ji := 2) (v := (0, σ x2 2)) q_64_170 (js_Fo qy_64 qf_5_229) hs_x2 rfl rfl rfl rfl).trans <| (j_aload_n q_64_173 rfl).trans <| (j_get (ji := 8) (v := (0, σ x2 8)) q_64_174 (js_Fo qy_64 qf_5_246) hs_x2 rfl rfl rfl rfl).trans <| rfl
theorem k_64_177 {E : js_E} {d : Nat} {σ σ2 : js_S} {x1 x2 z1 z2 z4 z5 b : Int} (hb : b = 0 ∨ b = 25) {v : Int} (hd : 1 ≤ d) (hz : js_J E (d - 1) 58 0 [(2, 7 + b), (0, z4), (0, z5), (9, 0)] [] σ = js_r E (0, v) σ2) : js_J E d 64 177 [(2, 23 + b), (0, x1), (2, x2)] [(0, z5), (0, z4), (2, 7 + b), (0, z2), (0, z1), (2, 23 + b)] σ = js_J E d 64 180 [(2, 23 + b), (0, x1), (2, x2)] [(0, v), (0, z2), (0, z1), (2, 23 + b)] σ2 :=
  j_call (m := 1) (js_caV q_64_177 (js_Mo qy_64 qm_5_249)) (js_agV (av := [(0, z4), (0, z5)]) (st := [(0, z2), (0, z1), (2, 23 + b)]) rfl rfl (js_o7b hb) rfl) rfl rfl (by rw [ql_58]; exact Nat.le_of_ble_eq_true rfl) (Nat.le_of_ble_eq_true rfl) hd hz
theorem kt_64_177 {E : js_E} {d : Nat} {σ σ2 : js_S} {x1 x2 z1 z2 z4 z5 b : Int} (hb : b = 0 ∨ b = 25) {w : Int} (hd : 1 ≤ d) (hz : js_J E (d - 1) 58 0 [(2, 7 + b), (0, z4), (0, z5), (9, 0)] [] σ = js_t E w σ2) : js_J E d 64 177 [(2, 23 + b), (0, x1), (2, x2)] [(0, z5), (0, z4), (2, 7 + b), (0, z2), (0, z1), (2, 23 + b)] σ = js_t E w σ2 :=
  j_callT (m := 1) (js_caV q_64_177 (js_Mo qy_64 qm_5_249)) (js_agV (av := [(0, z4), (0, z5)]) (st := [(0, z2), (0, z1), (2, 23 + b)]) rfl rfl (js_o7b hb) rfl) rfl rfl (by rw [ql_58]; exact Nat.le_of_ble_eq_true rfl) (Nat.le_of_ble_eq_true rfl) hd rfl hz
theorem k_64_180 {E : js_E} {d : Nat} {σ σ2 : js_S} {x1 x2 z1 z2 z3 b : Int} (hb : b = 0 ∨ b = 25) (hd : 1 ≤ d) (hz : js_J E (d - 1) 75 0 [(2, 23 + b), (0, z1), (0, z2), (0, z3)] [] σ = js_r0 E σ2) : js_J E d 64 180 [(2, 23 + b), (0, x1), (2, x2)] [(0, z3), (0, z2), (0, z1), (2, 23 + b)] σ = js_J E d 64 183 [(2, 23 + b), (0, x1), (2, x2)] [] σ2 :=
  j_call0 (m := 0) (js_caV q_64_180 (js_Mo qy_64 qm_5_147)) (js_agV (av := [(0, z1), (0, z2), (0, z3)]) (st := []) rfl rfl (js_o23b hb) rfl) rfl rfl (by rw [ql_75]; exact Nat.le_of_ble_eq_true rfl) (Nat.le_of_ble_eq_true rfl) hd hz
theorem kt_64_180 {E : js_E} {d : Nat} {σ σ2 : js_S} {x1 x2 z1 z2 z3 b : Int} (hb : b = 0 ∨ b = 25) {w : Int} (hd : 1 ≤ d) (hz : js_J E (d - 1) 75 0 [(2, 23 + b), (0, z1), (0, z2), (0, z3)] [] σ = js_t E w σ2) : js_J E d 64 180 [(2, 23 + b), (0, x1), (2, x2)] [(0, z3), (0, z2), (0, z1), (2, 23 + b)] σ = js_t E w σ2 :=
  j_callT (m := 0) (js_caV q_64_180 (js_Mo qy_64 qm_5_147)) (js_agV (av := [(0, z1), (0, z2), (0, z3)]) (st := []) rfl rfl (js_o23b hb) rfl) rfl rfl (by rw [ql_75]; exact Nat.le_of_ble_eq_true rfl) (Nat.le_of_ble_eq_true rfl) hd rfl hz
theorem b_64_183 {E : js_E} {d : Nat} {σ : js_S} {x1 x2 b : Int} (hb : b = 0 ∨ b = 25) (hs_x2 : js_desc E.1 σ x2 = some (0, 11, js_sym)) : js_J E d 64 183 [(2, 23 + b), (0, x1), (2, x2)] [] σ = js_J E d 64 200 [(2, 23 + b), (0, x1), (2, x2)] [(0, σ (23 + b) 2), (0, σ (23 + b) 1), (0, σ x2 8), (0, 0), (2, 8 + b)] σ :=
  (j_aload_n q_64_183 rfl).trans <| (j_get (ji := 6) (v := (2, 8 + b)) q_64_184 (js_Fo qy_64 qf_5_47) (js_o23b hb) rfl rfl rfl rfl).trans <| (j_iconst q_64_187).trans <| (j_aload_n q_64_188 rfl).trans <| (j_get (ji := 8) (v := (0, σ x2 8)) q_64_189 (js_Fo qy_64 qf_5_246) hs_x2 rfl rfl rfl rfl).trans <| (j_aload_n q_64_192 rfl).trans <| (j_get (ji := 1) (v := (0, σ (23 + b) 1)) q_64_193 (js_Fo qy_64 qf_5_94) (js_o23b hb) rfl rfl rfl rfl).trans <| (j_aload_n q_64_196 rfl).trans <| (j_get (ji := 2) (v := (0, σ (23 + b) 2)) q_64_197 (js_Fo qy_64 qf_5_97) (js_o23b hb) rfl rfl rfl rfl).trans <| rfl
theorem k_64_200 {E : js_E} {d : Nat} {σ σ2 : js_S} {x1 x2 z1 z2 z3 z4 b : Int} (hb : b = 0 ∨ b = 25) (hd : 1 ≤ d) (hz : js_J E (d - 1) 59 0 [(2, 8 + b), (0, z1), (0, z2), (0, z3), (0, z4)] [] σ = js_r0 E σ2) : js_J E d 64 200 [(2, 23 + b), (0, x1), (2, x2)] [(0, z4), (0, z3), (0, z2), (0, z1), (2, 8 + b)] σ = js_J E d 64 203 [(2, 23 + b), (0, x1), (2, x2)] [] σ2 :=
  j_call0 (m := 0) (js_caV q_64_200 (js_Mo qy_64 qm_5_100)) (js_agV (av := [(0, z1), (0, z2), (0, z3), (0, z4)]) (st := []) rfl rfl (js_o8b hb) rfl) rfl rfl (by rw [ql_59]; exact Nat.le_of_ble_eq_true rfl) (Nat.le_of_ble_eq_true rfl) hd hz
theorem kt_64_200 {E : js_E} {d : Nat} {σ σ2 : js_S} {x1 x2 z1 z2 z3 z4 b : Int} (hb : b = 0 ∨ b = 25) {w : Int} (hd : 1 ≤ d) (hz : js_J E (d - 1) 59 0 [(2, 8 + b), (0, z1), (0, z2), (0, z3), (0, z4)] [] σ = js_t E w σ2) : js_J E d 64 200 [(2, 23 + b), (0, x1), (2, x2)] [(0, z4), (0, z3), (0, z2), (0, z1), (2, 8 + b)] σ = js_t E w σ2 :=
  j_callT (m := 0) (js_caV q_64_200 (js_Mo qy_64 qm_5_100)) (js_agV (av := [(0, z1), (0, z2), (0, z3), (0, z4)]) (st := []) rfl rfl (js_o8b hb) rfl) rfl rfl (by rw [ql_59]; exact Nat.le_of_ble_eq_true rfl) (Nat.le_of_ble_eq_true rfl) hd rfl hz
theorem b_64_203 {E : js_E} {d : Nat} {σ : js_S} {x1 x2 b : Int} : js_J E d 64 203 [(2, 23 + b), (0, x1), (2, x2)] [] σ = js_J E d 64 238 [(2, 23 + b), (0, x1), (2, x2)] [] σ :=
  (j_goto (t := 238) q_64_203 rfl).trans <| rfl
theorem k_64_219 {E : js_E} {d : Nat} {σ σ2 : js_S} {x1 x2 z1 z2 z3 b : Int} (hb : b = 0 ∨ b = 25) (hd : 1 ≤ d) (hz : js_J E (d - 1) 75 0 [(2, 23 + b), (0, z1), (0, z2), (0, z3)] [] σ = js_r0 E σ2) : js_J E d 64 219 [(2, 23 + b), (0, x1), (2, x2)] [(0, z3), (0, z2), (0, z1), (2, 23 + b)] σ = js_J E d 64 222 [(2, 23 + b), (0, x1), (2, x2)] [] σ2 :=
  j_call0 (m := 0) (js_caV q_64_219 (js_Mo qy_64 qm_5_147)) (js_agV (av := [(0, z1), (0, z2), (0, z3)]) (st := []) rfl rfl (js_o23b hb) rfl) rfl rfl (by rw [ql_75]; exact Nat.le_of_ble_eq_true rfl) (Nat.le_of_ble_eq_true rfl) hd hz
theorem kt_64_219 {E : js_E} {d : Nat} {σ σ2 : js_S} {x1 x2 z1 z2 z3 b : Int} (hb : b = 0 ∨ b = 25) {w : Int} (hd : 1 ≤ d) (hz : js_J E (d - 1) 75 0 [(2, 23 + b), (0, z1), (0, z2), (0, z3)] [] σ = js_t E w σ2) : js_J E d 64 219 [(2, 23 + b), (0, x1), (2, x2)] [(0, z3), (0, z2), (0, z1), (2, 23 + b)] σ = js_t E w σ2 :=
  j_callT (m := 0) (js_caV q_64_219 (js_Mo qy_64 qm_5_147)) (js_agV (av := [(0, z1), (0, z2), (0, z3)]) (st := []) rfl rfl (js_o23b hb) rfl) rfl rfl (by rw [ql_75]; exact Nat.le_of_ble_eq_true rfl) (Nat.le_of_ble_eq_true rfl) hd rfl hz
theorem b_64_222 {E : js_E} {d : Nat} {σ : js_S} {x1 x2 b : Int} (hb : b = 0 ∨ b = 25) : js_J E d 64 222 [(2, 23 + b), (0, x1), (2, x2)] [] σ = js_J E d 64 235 [(2, 23 + b), (0, x1), (2, x2)] [(0, σ (23 + b) 2), (0, σ (23 + b) 1), (2, x2), (2, 8 + b)] σ :=
  (j_aload_n q_64_222 rfl).trans <| (j_get (ji := 6) (v := (2, 8 + b)) q_64_223 (js_Fo qy_64 qf_5_47) (js_o23b hb) rfl rfl rfl rfl).trans <| (j_aload_n q_64_226 rfl).trans <| (j_aload_n q_64_227 rfl).trans <| (j_get (ji := 1) (v := (0, σ (23 + b) 1)) q_64_228 (js_Fo qy_64 qf_5_94) (js_o23b hb) rfl rfl rfl rfl).trans <| (j_aload_n q_64_231 rfl).trans <| (j_get (ji := 2) (v := (0, σ (23 + b) 2)) q_64_232 (js_Fo qy_64 qf_5_97) (js_o23b hb) rfl rfl rfl rfl).trans <| rfl
theorem k_64_235 {E : js_E} {d : Nat} {σ σ2 : js_S} {x1 x2 z1 z2 z3 b : Int} (hb : b = 0 ∨ b = 25) (hd : 1 ≤ d) (hz : js_J E (d - 1) 78 0 [(2, 8 + b), (2, z1), (0, z2), (0, z3)] [] σ = js_r0 E σ2) : js_J E d 64 235 [(2, 23 + b), (0, x1), (2, x2)] [(0, z3), (0, z2), (2, z1), (2, 8 + b)] σ = js_J E d 64 238 [(2, 23 + b), (0, x1), (2, x2)] [] σ2 :=
  j_call0 (m := 0) (js_caV q_64_235 (js_Mo qy_64 qm_5_252)) (js_agV (av := [(2, z1), (0, z2), (0, z3)]) (st := []) rfl rfl (js_o8b hb) rfl) rfl rfl (by rw [ql_78]; exact Nat.le_of_ble_eq_true rfl) (Nat.le_of_ble_eq_true rfl) hd hz
theorem kt_64_235 {E : js_E} {d : Nat} {σ σ2 : js_S} {x1 x2 z1 z2 z3 b : Int} (hb : b = 0 ∨ b = 25) {w : Int} (hd : 1 ≤ d) (hz : js_J E (d - 1) 78 0 [(2, 8 + b), (2, z1), (0, z2), (0, z3)] [] σ = js_t E w σ2) : js_J E d 64 235 [(2, 23 + b), (0, x1), (2, x2)] [(0, z3), (0, z2), (2, z1), (2, 8 + b)] σ = js_t E w σ2 :=
  j_callT (m := 0) (js_caV q_64_235 (js_Mo qy_64 qm_5_252)) (js_agV (av := [(2, z1), (0, z2), (0, z3)]) (st := []) rfl rfl (js_o8b hb) rfl) rfl rfl (by rw [ql_78]; exact Nat.le_of_ble_eq_true rfl) (Nat.le_of_ble_eq_true rfl) hd rfl hz
theorem b_64_238 {E : js_E} {d : Nat} {σ : js_S} {x1 x2 b : Int} : js_J E d 64 238 [(2, 23 + b), (0, x1), (2, x2)] [] σ = js_r0 E σ :=
  j_return q_64_238 qr_64
-- 65: VitalTwin$Expressions.askUse (LVitalTwin$Symbol;I)V
theorem b_65_0 {E : js_E} {d : Nat} {σ : js_S} {x1 x2 b : Int} (hb : b = 0 ∨ b = 25) : js_J E d 65 0 [(2, 23 + b), (2, x1), (0, x2), (9, 0), (9, 0)] [] σ = (if js_w (σ 1 1) = 40 then js_J E d 65 17 [(2, 23 + b), (2, x1), (0, x2), (9, 0), (9, 0)] [(0, 1)] σ else js_J E d 65 17 [(2, 23 + b), (2, x1), (0, x2), (9, 0), (9, 0)] [(0, 0)] σ) :=
  (j_aload_n q_65_0 rfl).trans <| (j_get (ji := 4) (v := (2, 1)) q_65_1 (js_Fo qy_65 qf_5_33) (js_o23b hb) rfl rfl rfl rfl).trans <| (j_get (ji := 1) (v := (0, σ 1 1)) q_65_4 (js_Fo qy_65 qf_5_65) js_o1 rfl rfl rfl rfl).trans <| (j_bi q_65_7 rfl).trans <| (j_cmpneB (t := 16) q_65_9 rfl ww_40).trans (js_ite ((j_iconst q_65_12).trans <| (j_goto (t := 17) q_65_13 rfl).trans <| rfl) ((j_iconst q_65_16).trans <| rfl))
theorem b_65_17 {E : js_E} {d : Nat} {σ : js_S} {x1 x2 z0 b : Int} (hb : b = 0 ∨ b = 25) : js_J E d 65 17 [(2, 23 + b), (2, x1), (0, x2), (9, 0), (9, 0)] [(0, z0)] σ = (if js_w (σ 1 1) = 91 then js_J E d 65 35 [(2, 23 + b), (2, x1), (0, x2), (0, z0), (9, 0)] [(0, 1)] σ else js_J E d 65 35 [(2, 23 + b), (2, x1), (0, x2), (0, z0), (9, 0)] [(0, 0)] σ) :=
  (j_istore_n (l2 := [(2, 23 + b), (2, x1), (0, x2), (0, z0), (9, 0)]) q_65_17 rfl (Nat.le_of_ble_eq_true rfl)).trans <| (j_aload_n q_65_18 rfl).trans <| (j_get (ji := 4) (v := (2, 1)) q_65_19 (js_Fo qy_65 qf_5_33) (js_o23b hb) rfl rfl rfl rfl).trans <| (j_get (ji := 1) (v := (0, σ 1 1)) q_65_22 (js_Fo qy_65 qf_5_65) js_o1 rfl rfl rfl rfl).trans <| (j_bi q_65_25 rfl).trans <| (j_cmpneB (t := 34) q_65_27 rfl ww_91).trans (js_ite ((j_iconst q_65_30).trans <| (j_goto (t := 35) q_65_31 rfl).trans <| rfl) ((j_iconst q_65_34).trans <| rfl))
theorem b_65_35 {E : js_E} {d : Nat} {σ : js_S} {x1 x2 x3 z0 b : Int} (hs_x1 : js_desc E.1 σ x1 = some (0, 11, js_sym)) : js_J E d 65 35 [(2, 23 + b), (2, x1), (0, x2), (0, x3), (9, 0)] [(0, z0)] σ = (if js_w (σ x1 1) = 4 then js_J E d 65 51 [(2, 23 + b), (2, x1), (0, x2), (0, x3), (0, z0)] [(0, 1), (0, x3)] σ else js_J E d 65 51 [(2, 23 + b), (2, x1), (0, x2), (0, x3), (0, z0)] [(0, 0), (0, x3)] σ) :=
  (j_istore (l2 := [(2, 23 + b), (2, x1), (0, x2), (0, x3), (0, z0)]) q_65_35 rfl (Nat.le_of_ble_eq_true rfl)).trans <| (j_iload_n q_65_37 rfl).trans <| (j_aload_n q_65_38 rfl).trans <| (j_get (ji := 1) (v := (0, σ x1 1)) q_65_39 (js_Fo qy_65 qf_5_220) hs_x1 rfl rfl rfl rfl).trans <| (j_iconst q_65_42).trans <| (j_cmpneB (t := 50) q_65_43 rfl ww_4).trans (js_ite ((j_iconst q_65_46).trans <| (j_goto (t := 51) q_65_47 rfl).trans <| rfl) ((j_iconst q_65_50).trans <| rfl))
theorem b_65_51 {E : js_E} {d : Nat} {σ : js_S} {x1 x2 x3 x4 z0 z1 b : Int} (hs_x1 : js_desc E.1 σ x1 = some (0, 11, js_sym)) : js_J E d 65 51 [(2, 23 + b), (2, x1), (0, x2), (0, x3), (0, x4)] [(0, z1), (0, z0)] σ = (if js_w z0 = js_w z1 then (if js_w x4 = js_w (σ x1 12) then js_J E d 65 72 [(2, 23 + b), (2, x1), (0, x2), (0, x3), (0, x4)] [] σ else js_J E d 65 63 [(2, 23 + b), (2, x1), (0, x2), (0, x3), (0, x4)] [] σ) else js_J E d 65 63 [(2, 23 + b), (2, x1), (0, x2), (0, x3), (0, x4)] [] σ) :=
  (j_cmpne (t := 63) q_65_51 rfl).trans (js_ite ((j_iload q_65_54 rfl).trans <| (j_aload_n q_65_56 rfl).trans <| (j_get (ji := 12) (v := (0, σ x1 12)) q_65_57 (js_Fo qy_65 qf_5_233) hs_x1 rfl rfl rfl rfl).trans <| (j_cmpeq (t := 72) q_65_60 rfl).trans (js_ite (rfl) (rfl))) (rfl))
theorem b_65_63 {E : js_E} {d : Nat} {σ : js_S} {x1 x2 x3 x4 b : Int} (hb : b = 0 ∨ b = 25) : js_J E d 65 63 [(2, 23 + b), (2, x1), (0, x2), (0, x3), (0, x4)] [] σ = js_J E d 65 69 [(2, 23 + b), (2, x1), (0, x2), (0, x3), (0, x4)] [(0, x2), (0, 3), (2, 1)] σ :=
  (j_aload_n q_65_63 rfl).trans <| (j_get (ji := 4) (v := (2, 1)) q_65_64 (js_Fo qy_65 qf_5_33) (js_o23b hb) rfl rfl rfl rfl).trans <| (j_iconst q_65_67).trans <| (j_iload_n q_65_68 rfl).trans <| rfl
theorem k_65_69 {E : js_E} {d : Nat} {σ σ2 : js_S} {x1 x2 x3 x4 z1 z2 b : Int} (hd : 1 ≤ d) (hz : js_J E (d - 1) 36 0 [(2, 1), (0, z1), (0, z2)] [] σ = js_r0 E σ2) : js_J E d 65 69 [(2, 23 + b), (2, x1), (0, x2), (0, x3), (0, x4)] [(0, z2), (0, z1), (2, 1)] σ = js_J E d 65 72 [(2, 23 + b), (2, x1), (0, x2), (0, x3), (0, x4)] [] σ2 :=
  j_call0 (m := 0) (js_caV q_65_69 (js_Mo qy_65 qm_5_127)) (js_agV (av := [(0, z1), (0, z2)]) (st := []) rfl rfl js_o1 rfl) rfl rfl (by rw [ql_36]; exact Nat.le_of_ble_eq_true rfl) (Nat.le_of_ble_eq_true rfl) hd hz
theorem kt_65_69 {E : js_E} {d : Nat} {σ σ2 : js_S} {x1 x2 x3 x4 z1 z2 b : Int} {w : Int} (hd : 1 ≤ d) (hz : js_J E (d - 1) 36 0 [(2, 1), (0, z1), (0, z2)] [] σ = js_t E w σ2) : js_J E d 65 69 [(2, 23 + b), (2, x1), (0, x2), (0, x3), (0, x4)] [(0, z2), (0, z1), (2, 1)] σ = js_t E w σ2 :=
  j_callT (m := 0) (js_caV q_65_69 (js_Mo qy_65 qm_5_127)) (js_agV (av := [(0, z1), (0, z2)]) (st := []) rfl rfl js_o1 rfl) rfl rfl (by rw [ql_36]; exact Nat.le_of_ble_eq_true rfl) (Nat.le_of_ble_eq_true rfl) hd rfl hz
theorem b_65_72 {E : js_E} {d : Nat} {σ : js_S} {x1 x2 x3 x4 b : Int} : js_J E d 65 72 [(2, 23 + b), (2, x1), (0, x2), (0, x3), (0, x4)] [] σ = js_r0 E σ :=
  j_return q_65_72 qr_65
-- 66: VitalTwin$Expressions.call (LVitalTwin$Symbol;I)V
theorem b_66_0 {E : js_E} {d : Nat} {σ : js_S} {x1 x2 b : Int} (hb : b = 0 ∨ b = 25) : js_J E d 66 0 [(2, 23 + b), (2, x1), (0, x2), (9, 0), (9, 0), (9, 0), (9, 0), (9, 0), (9, 0)] [] σ = (if js_w (σ (7 + b) 3) = (-1) then js_J E d 66 16 [(2, 23 + b), (2, x1), (0, x2), (9, 0), (9, 0), (9, 0), (9, 0), (9, 0), (9, 0)] [(0, 1)] σ else js_J E d 66 16 [(2, 23 + b), (2, x1), (0, x2), (9, 0), (9, 0), (9, 0), (9, 0), (9, 0), (9, 0)] [(0, 0)] σ) :=
  (j_aload_n q_66_0 rfl).trans <| (j_get (ji := 5) (v := (2, 7 + b)) q_66_1 (js_Fo qy_66 qf_5_37) (js_o23b hb) rfl rfl rfl rfl).trans <| (j_get (ji := 3) (v := (0, σ (7 + b) 3)) q_66_4 (js_Fo qy_66 qf_5_262) (js_o7b hb) rfl rfl rfl rfl).trans <| (j_iconst q_66_7).trans <| (j_cmpneB (t := 15) q_66_8 rfl ww_m1).trans (js_ite ((j_iconst q_66_11).trans <| (j_goto (t := 16) q_66_12 rfl).trans <| rfl) ((j_iconst q_66_15).trans <| rfl))
theorem b_66_16 {E : js_E} {d : Nat} {σ : js_S} {x1 x2 z0 b : Int} (hs_x1 : js_desc E.1 σ x1 = some (0, 11, js_sym)) : js_J E d 66 16 [(2, 23 + b), (2, x1), (0, x2), (9, 0), (9, 0), (9, 0), (9, 0), (9, 0), (9, 0)] [(0, z0)] σ = (if js_w z0 = 0 then js_J E d 66 30 [(2, 23 + b), (2, x1), (0, x2), (0, z0), (9, 0), (9, 0), (9, 0), (9, 0), (9, 0)] [(0, 0), (0, σ x1 10)] σ else js_J E d 66 30 [(2, 23 + b), (2, x1), (0, x2), (0, z0), (9, 0), (9, 0), (9, 0), (9, 0), (9, 0)] [(0, 1), (0, σ x1 10)] σ) :=
  (j_istore_n (l2 := [(2, 23 + b), (2, x1), (0, x2), (0, z0), (9, 0), (9, 0), (9, 0), (9, 0), (9, 0)]) q_66_16 rfl (Nat.le_of_ble_eq_true rfl)).trans <| (j_aload_n q_66_17 rfl).trans <| (j_get (ji := 10) (v := (0, σ x1 10)) q_66_18 (js_Fo qy_66 qf_5_265) hs_x1 rfl rfl rfl rfl).trans <| (j_iload_n q_66_21 rfl).trans <| (j_ifeq (t := 29) q_66_22 rfl).trans (js_ite ((j_iconst q_66_29).trans <| rfl) ((j_iconst q_66_25).trans <| (j_goto (t := 30) q_66_26 rfl).trans <| rfl))
theorem b_66_30 {E : js_E} {d : Nat} {σ : js_S} {x1 x2 x3 z0 z1 b : Int} (hb : b = 0 ∨ b = 25) : js_J E d 66 30 [(2, 23 + b), (2, x1), (0, x2), (0, x3), (9, 0), (9, 0), (9, 0), (9, 0), (9, 0)] [(0, z1), (0, z0)] σ = (if 16 < js_w (z0 + z1) then js_J E d 66 43 [(2, 23 + b), (2, x1), (0, x2), (0, x3), (9, 0), (9, 0), (9, 0), (9, 0), (9, 0)] [(0, x2), (0, 10), (2, 1)] σ else js_J E d 66 46 [(2, 23 + b), (2, x1), (0, x2), (0, x3), (9, 0), (9, 0), (9, 0), (9, 0), (9, 0)] [] σ) :=
  (j_iadd q_66_30).trans <| (j_bi q_66_31 rfl).trans <| (j_cmpleB (t := 46) q_66_33 rfl ww_16).trans (js_ite ((j_aload_n q_66_36 rfl).trans <| (j_get (ji := 4) (v := (2, 1)) q_66_37 (js_Fo qy_66 qf_5_33) (js_o23b hb) rfl rfl rfl rfl).trans <| (j_bi q_66_40 rfl).trans <| (j_iload_n q_66_42 rfl).trans <| rfl) (rfl))
theorem k_66_43 {E : js_E} {d : Nat} {σ σ2 : js_S} {x1 x2 x3 z1 z2 b : Int} (hd : 1 ≤ d) (hz : js_J E (d - 1) 36 0 [(2, 1), (0, z1), (0, z2)] [] σ = js_r0 E σ2) : js_J E d 66 43 [(2, 23 + b), (2, x1), (0, x2), (0, x3), (9, 0), (9, 0), (9, 0), (9, 0), (9, 0)] [(0, z2), (0, z1), (2, 1)] σ = js_J E d 66 46 [(2, 23 + b), (2, x1), (0, x2), (0, x3), (9, 0), (9, 0), (9, 0), (9, 0), (9, 0)] [] σ2 :=
  j_call0 (m := 0) (js_caV q_66_43 (js_Mo qy_66 qm_5_127)) (js_agV (av := [(0, z1), (0, z2)]) (st := []) rfl rfl js_o1 rfl) rfl rfl (by rw [ql_36]; exact Nat.le_of_ble_eq_true rfl) (Nat.le_of_ble_eq_true rfl) hd hz
theorem kt_66_43 {E : js_E} {d : Nat} {σ σ2 : js_S} {x1 x2 x3 z1 z2 b : Int} {w : Int} (hd : 1 ≤ d) (hz : js_J E (d - 1) 36 0 [(2, 1), (0, z1), (0, z2)] [] σ = js_t E w σ2) : js_J E d 66 43 [(2, 23 + b), (2, x1), (0, x2), (0, x3), (9, 0), (9, 0), (9, 0), (9, 0), (9, 0)] [(0, z2), (0, z1), (2, 1)] σ = js_t E w σ2 :=
  j_callT (m := 0) (js_caV q_66_43 (js_Mo qy_66 qm_5_127)) (js_agV (av := [(0, z1), (0, z2)]) (st := []) rfl rfl js_o1 rfl) rfl rfl (by rw [ql_36]; exact Nat.le_of_ble_eq_true rfl) (Nat.le_of_ble_eq_true rfl) hd rfl hz
theorem b_66_46 {E : js_E} {d : Nat} {σ : js_S} {x1 x2 x3 b : Int} (hb : b = 0 ∨ b = 25) : js_J E d 66 46 [(2, 23 + b), (2, x1), (0, x2), (0, x3), (9, 0), (9, 0), (9, 0), (9, 0), (9, 0)] [] σ = js_J E d 66 52 [(2, 23 + b), (2, x1), (0, x2), (0, x3), (9, 0), (9, 0), (9, 0), (9, 0), (9, 0)] [(0, 40), (2, 1)] σ :=
  (j_aload_n q_66_46 rfl).trans <| (j_get (ji := 4) (v := (2, 1)) q_66_47 (js_Fo qy_66 qf_5_33) (js_o23b hb) rfl rfl rfl rfl).trans <| (j_bi q_66_50 rfl).trans <| rfl
theorem k_66_52 {E : js_E} {d : Nat} {σ σ2 : js_S} {x1 x2 x3 z1 b : Int} (hd : 1 ≤ d) (hz : js_J E (d - 1) 47 0 [(2, 1), (0, z1)] [] σ = js_r0 E σ2) : js_J E d 66 52 [(2, 23 + b), (2, x1), (0, x2), (0, x3), (9, 0), (9, 0), (9, 0), (9, 0), (9, 0)] [(0, z1), (2, 1)] σ = js_J E d 66 55 [(2, 23 + b), (2, x1), (0, x2), (0, x3), (9, 0), (9, 0), (9, 0), (9, 0), (9, 0)] [] σ2 :=
  j_call0 (m := 0) (js_caV q_66_52 (js_Mo qy_66 qm_5_124)) (js_agV (av := [(0, z1)]) (st := []) rfl rfl js_o1 rfl) rfl rfl (by rw [ql_47]; exact Nat.le_of_ble_eq_true rfl) (Nat.le_of_ble_eq_true rfl) hd hz
theorem kt_66_52 {E : js_E} {d : Nat} {σ σ2 : js_S} {x1 x2 x3 z1 b : Int} {w : Int} (hd : 1 ≤ d) (hz : js_J E (d - 1) 47 0 [(2, 1), (0, z1)] [] σ = js_t E w σ2) : js_J E d 66 52 [(2, 23 + b), (2, x1), (0, x2), (0, x3), (9, 0), (9, 0), (9, 0), (9, 0), (9, 0)] [(0, z1), (2, 1)] σ = js_t E w σ2 :=
  j_callT (m := 0) (js_caV q_66_52 (js_Mo qy_66 qm_5_124)) (js_agV (av := [(0, z1)]) (st := []) rfl rfl js_o1 rfl) rfl rfl (by rw [ql_47]; exact Nat.le_of_ble_eq_true rfl) (Nat.le_of_ble_eq_true rfl) hd rfl hz
theorem b_66_55 {E : js_E} {d : Nat} {σ : js_S} {x1 x2 x3 b : Int} (hb : b = 0 ∨ b = 25) : js_J E d 66 55 [(2, 23 + b), (2, x1), (0, x2), (0, x3), (9, 0), (9, 0), (9, 0), (9, 0), (9, 0)] [] σ = (if js_w (σ 1 1) = 41 then js_J E d 66 84 [(2, 23 + b), (2, x1), (0, x2), (0, x3), (0, σ (8 + b) 10), (0, 0), (9, 0), (9, 0), (9, 0)] [(0, 0)] σ else js_J E d 66 84 [(2, 23 + b), (2, x1), (0, x2), (0, x3), (0, σ (8 + b) 10), (0, 0), (9, 0), (9, 0), (9, 0)] [(0, 1)] σ) :=
  (j_aload_n q_66_55 rfl).trans <| (j_get (ji := 6) (v := (2, 8 + b)) q_66_56 (js_Fo qy_66 qf_5_47) (js_o23b hb) rfl rfl rfl rfl).trans <| (j_get (ji := 10) (v := (0, σ (8 + b) 10)) q_66_59 (js_Fo qy_66 qf_5_268) (js_o8b hb) rfl rfl rfl rfl).trans <| (j_istore (l2 := [(2, 23 + b), (2, x1), (0, x2), (0, x3), (0, σ (8 + b) 10), (9, 0), (9, 0), (9, 0), (9, 0)]) q_66_62 rfl (Nat.le_of_ble_eq_true rfl)).trans <| (j_iconst q_66_64).trans <| (j_istore (l2 := [(2, 23 + b), (2, x1), (0, x2), (0, x3), (0, σ (8 + b) 10), (0, 0), (9, 0), (9, 0), (9, 0)]) q_66_65 rfl (Nat.le_of_ble_eq_true rfl)).trans <| (j_aload_n q_66_67 rfl).trans <| (j_get (ji := 4) (v := (2, 1)) q_66_68 (js_Fo qy_66 qf_5_33) (js_o23b hb) rfl rfl rfl rfl).trans <| (j_get (ji := 1) (v := (0, σ 1 1)) q_66_71 (js_Fo qy_66 qf_5_65) js_o1 rfl rfl rfl rfl).trans <| (j_bi q_66_74 rfl).trans <| (j_cmpeqB (t := 83) q_66_76 rfl ww_41).trans (js_ite ((j_iconst q_66_83).trans <| rfl) ((j_iconst q_66_79).trans <| (j_goto (t := 84) q_66_80 rfl).trans <| rfl))
theorem b_66_84 {E : js_E} {d : Nat} {σ : js_S} {x1 x2 x3 x4 x5 z0 b : Int} : js_J E d 66 84 [(2, 23 + b), (2, x1), (0, x2), (0, x3), (0, x4), (0, x5), (9, 0), (9, 0), (9, 0)] [(0, z0)] σ = js_J E d 66 89 [(2, 23 + b), (2, x1), (0, x2), (0, x3), (0, x4), (0, x5), (0, z0), (0, 0), (9, 0)] [] σ :=
  (j_istore (l2 := [(2, 23 + b), (2, x1), (0, x2), (0, x3), (0, x4), (0, x5), (0, z0), (9, 0), (9, 0)]) q_66_84 rfl (Nat.le_of_ble_eq_true rfl)).trans <| (j_iconst q_66_86).trans <| (j_istore (l2 := [(2, 23 + b), (2, x1), (0, x2), (0, x3), (0, x4), (0, x5), (0, z0), (0, 0), (9, 0)]) q_66_87 rfl (Nat.le_of_ble_eq_true rfl)).trans <| rfl
theorem b_66_89 {E : js_E} {d : Nat} {σ : js_S} {x1 x2 x3 x4 x5 x6 x7 b : Int} {ux8 : js_v} : js_J E d 66 89 [(2, 23 + b), (2, x1), (0, x2), (0, x3), (0, x4), (0, x5), (0, x6), (0, x7), ux8] [] σ = (if js_w x7 < 1000000 then (if js_w x6 = 0 then js_J E d 66 216 [(2, 23 + b), (2, x1), (0, x2), (0, x3), (0, x4), (0, x5), (0, x6), (0, x7), ux8] [] σ else js_J E d 66 102 [(2, 23 + b), (2, x1), (0, x2), (0, x3), (0, x4), (0, x5), (0, x6), (0, x7), ux8] [(2, 23 + b)] σ) else js_J E d 66 216 [(2, 23 + b), (2, x1), (0, x2), (0, x3), (0, x4), (0, x5), (0, x6), (0, x7), ux8] [] σ) :=
  (j_iload q_66_89 rfl).trans <| (j_ldc (v := (0, 1000000)) q_66_91 (js_Co qy_66 qc_5_61)).trans <| (j_cmpgeB (t := 216) q_66_93 rfl ww_1000000).trans (js_ite ((j_iload q_66_96 rfl).trans <| (j_ifeq (t := 216) q_66_98 rfl).trans (js_ite (rfl) ((j_aload_n q_66_101 rfl).trans <| rfl))) (rfl))
theorem k_66_102 {E : js_E} {d : Nat} {σ σ2 : js_S} {x1 x2 x3 x4 x5 x6 x7 b : Int} {ux8 : js_v} (hb : b = 0 ∨ b = 25) (hd : 1 ≤ d) (hz : js_J E (d - 1) 61 0 [(2, 23 + b), (9, 0), (9, 0), (9, 0), (9, 0), (9, 0), (9, 0)] [] σ = js_r0 E σ2) : js_J E d 66 102 [(2, 23 + b), (2, x1), (0, x2), (0, x3), (0, x4), (0, x5), (0, x6), (0, x7), ux8] [(2, 23 + b)] σ = js_J E d 66 105 [(2, 23 + b), (2, x1), (0, x2), (0, x3), (0, x4), (0, x5), (0, x6), (0, x7), ux8] [] σ2 :=
  j_call0 (m := 6) (js_caV q_66_102 (js_Mo qy_66 qm_5_177)) (js_agV (av := []) (st := []) rfl rfl (js_o23b hb) rfl) rfl rfl (by rw [ql_61]; exact Nat.le_of_ble_eq_true rfl) (Nat.le_of_ble_eq_true rfl) hd hz
theorem kt_66_102 {E : js_E} {d : Nat} {σ σ2 : js_S} {x1 x2 x3 x4 x5 x6 x7 b : Int} {ux8 : js_v} (hb : b = 0 ∨ b = 25) {w : Int} (hd : 1 ≤ d) (hz : js_J E (d - 1) 61 0 [(2, 23 + b), (9, 0), (9, 0), (9, 0), (9, 0), (9, 0), (9, 0)] [] σ = js_t E w σ2) : js_J E d 66 102 [(2, 23 + b), (2, x1), (0, x2), (0, x3), (0, x4), (0, x5), (0, x6), (0, x7), ux8] [(2, 23 + b)] σ = js_t E w σ2 :=
  j_callT (m := 6) (js_caV q_66_102 (js_Mo qy_66 qm_5_177)) (js_agV (av := []) (st := []) rfl rfl (js_o23b hb) rfl) rfl rfl (by rw [ql_61]; exact Nat.le_of_ble_eq_true rfl) (Nat.le_of_ble_eq_true rfl) hd rfl hz
theorem b_66_105 {E : js_E} {d : Nat} {σ : js_S} {x1 x2 x3 x4 x5 x6 x7 b : Int} {ux8 : js_v} (hs_x1 : js_desc E.1 σ x1 = some (0, 11, js_sym)) (hb : b = 0 ∨ b = 25) : js_J E d 66 105 [(2, 23 + b), (2, x1), (0, x2), (0, x3), (0, x4), (0, x5), (0, x6), (0, x7), ux8] [] σ = (if js_w x5 < js_w (σ x1 6) then js_J E d 66 127 [(2, 23 + b), (2, x1), (0, x2), (0, x3), (0, x4), (0, x5), (0, x6), (0, x7), ux8] [(0, ((σ x1 0) + 1) + x5), (2, 7 + b)] σ else js_J E d 66 134 [(2, 23 + b), (2, x1), (0, x2), (0, x3), (0, x4), (0, x5), (0, x6), (0, x7), ux8] [(2, (-1))] σ) :=
  (j_iload q_66_105 rfl).trans <| (j_aload_n q_66_107 rfl).trans <| (j_get (ji := 6) (v := (0, σ x1 6)) q_66_108 (js_Fo qy_66 qf_5_256) hs_x1 rfl rfl rfl rfl).trans <| (j_cmpge (t := 133) q_66_111 rfl).trans (js_ite ((j_aload_n q_66_114 rfl).trans <| (j_get (ji := 5) (v := (2, 7 + b)) q_66_115 (js_Fo qy_66 qf_5_37) (js_o23b hb) rfl rfl rfl rfl).trans <| (j_aload_n q_66_118 rfl).trans <| (j_get (ji := 0) (v := (0, σ x1 0)) q_66_119 (js_Fo qy_66 qf_5_271) hs_x1 rfl rfl rfl rfl).trans <| (j_iconst q_66_122).trans <| (j_iadd q_66_123).trans <| (j_iload q_66_124 rfl).trans <| (j_iadd q_66_126).trans <| rfl) ((j_null q_66_133).trans <| rfl))
theorem k_66_127 {E : js_E} {d : Nat} {σ σ2 : js_S} {x1 x2 x3 x4 x5 x6 x7 z1 b : Int} {ux8 : js_v} (hb : b = 0 ∨ b = 25) {v : Int} (hd : 1 ≤ d) (hz : js_J E (d - 1) 67 0 [(2, 7 + b), (0, z1)] [] σ = js_r E (2, v) σ2) : js_J E d 66 127 [(2, 23 + b), (2, x1), (0, x2), (0, x3), (0, x4), (0, x5), (0, x6), (0, x7), ux8] [(0, z1), (2, 7 + b)] σ = js_J E d 66 130 [(2, 23 + b), (2, x1), (0, x2), (0, x3), (0, x4), (0, x5), (0, x6), (0, x7), ux8] [(2, v)] σ2 :=
  j_call (m := 0) (js_caV q_66_127 (js_Mo qy_66 qm_5_273)) (js_agV (av := [(0, z1)]) (st := []) rfl rfl (js_o7b hb) rfl) rfl rfl (by rw [ql_67]; exact Nat.le_of_ble_eq_true rfl) (Nat.le_of_ble_eq_true rfl) hd hz
theorem kt_66_127 {E : js_E} {d : Nat} {σ σ2 : js_S} {x1 x2 x3 x4 x5 x6 x7 z1 b : Int} {ux8 : js_v} (hb : b = 0 ∨ b = 25) {w : Int} (hd : 1 ≤ d) (hz : js_J E (d - 1) 67 0 [(2, 7 + b), (0, z1)] [] σ = js_t E w σ2) : js_J E d 66 127 [(2, 23 + b), (2, x1), (0, x2), (0, x3), (0, x4), (0, x5), (0, x6), (0, x7), ux8] [(0, z1), (2, 7 + b)] σ = js_t E w σ2 :=
  j_callT (m := 0) (js_caV q_66_127 (js_Mo qy_66 qm_5_273)) (js_agV (av := [(0, z1)]) (st := []) rfl rfl (js_o7b hb) rfl) rfl rfl (by rw [ql_67]; exact Nat.le_of_ble_eq_true rfl) (Nat.le_of_ble_eq_true rfl) hd rfl hz
theorem b_66_130 {E : js_E} {d : Nat} {σ : js_S} {x1 x2 x3 x4 x5 x6 x7 z0 b : Int} {ux8 : js_v} : js_J E d 66 130 [(2, 23 + b), (2, x1), (0, x2), (0, x3), (0, x4), (0, x5), (0, x6), (0, x7), ux8] [(2, z0)] σ = js_J E d 66 134 [(2, 23 + b), (2, x1), (0, x2), (0, x3), (0, x4), (0, x5), (0, x6), (0, x7), ux8] [(2, z0)] σ :=
  (j_goto (t := 134) q_66_130 rfl).trans <| rfl
theorem b_66_134 {E : js_E} {d : Nat} {σ : js_S} {x1 x2 x3 x4 x5 x6 x7 z0 b : Int} {ux8 : js_v} : js_J E d 66 134 [(2, 23 + b), (2, x1), (0, x2), (0, x3), (0, x4), (0, x5), (0, x6), (0, x7), ux8] [(2, z0)] σ = (if z0 < 0 then js_J E d 66 176 [(2, 23 + b), (2, x1), (0, x2), (0, x3), (0, x4), (0, x5), (0, x6), (0, x7), (2, z0)] [] σ else js_J E d 66 141 [(2, 23 + b), (2, x1), (0, x2), (0, x3), (0, x4), (0, x5), (0, x6), (0, x7), (2, z0)] [] σ) :=
  (j_astore (l2 := [(2, 23 + b), (2, x1), (0, x2), (0, x3), (0, x4), (0, x5), (0, x6), (0, x7), (2, z0)]) q_66_134 rfl (Nat.le_of_ble_eq_true rfl)).trans <| (j_aload q_66_136 rfl).trans <| (j_ifnull (t := 176) q_66_138 rfl).trans (js_ite (rfl) (rfl))
theorem b_66_141 {E : js_E} {d : Nat} {σ : js_S} {x1 x2 x3 x4 x5 x6 x7 x8 b : Int} (hs_x8 : js_desc E.1 σ x8 = some (0, 11, js_sym)) : js_J E d 66 141 [(2, 23 + b), (2, x1), (0, x2), (0, x3), (0, x4), (0, x5), (0, x6), (0, x7), (2, x8)] [] σ = js_J E d 66 157 [(2, 23 + b), (2, x1), (0, x2), (0, x3), (0, x4), (0, x5), (0, x6), (0, x7), (2, x8)] [(0, σ x8 4), (0, σ x8 3), (0, σ x8 2), (2, 23 + b)] σ :=
  (j_aload_n q_66_141 rfl).trans <| (j_aload q_66_142 rfl).trans <| (j_get (ji := 2) (v := (0, σ x8 2)) q_66_144 (js_Fo qy_66 qf_5_229) hs_x8 rfl rfl rfl rfl).trans <| (j_aload q_66_147 rfl).trans <| (j_get (ji := 3) (v := (0, σ x8 3)) q_66_149 (js_Fo qy_66 qf_5_241) hs_x8 rfl rfl rfl rfl).trans <| (j_aload q_66_152 rfl).trans <| (j_get (ji := 4) (v := (0, σ x8 4)) q_66_154 (js_Fo qy_66 qf_5_242) hs_x8 rfl rfl rfl rfl).trans <| rfl
theorem k_66_157 {E : js_E} {d : Nat} {σ σ2 : js_S} {x1 x2 x3 x4 x5 x6 x7 x8 z1 z2 z3 b : Int} (hb : b = 0 ∨ b = 25) (hd : 1 ≤ d) (hz : js_J E (d - 1) 68 0 [(2, 23 + b), (0, z1), (0, z2), (0, z3)] [] σ = js_r0 E σ2) : js_J E d 66 157 [(2, 23 + b), (2, x1), (0, x2), (0, x3), (0, x4), (0, x5), (0, x6), (0, x7), (2, x8)] [(0, z3), (0, z2), (0, z1), (2, 23 + b)] σ = js_J E d 66 160 [(2, 23 + b), (2, x1), (0, x2), (0, x3), (0, x4), (0, x5), (0, x6), (0, x7), (2, x8)] [] σ2 :=
  j_call0 (m := 0) (js_caV q_66_157 (js_Mo qy_66 qm_5_259)) (js_agV (av := [(0, z1), (0, z2), (0, z3)]) (st := []) rfl rfl (js_o23b hb) rfl) rfl rfl (by rw [ql_68]; exact Nat.le_of_ble_eq_true rfl) (Nat.le_of_ble_eq_true rfl) hd hz
theorem kt_66_157 {E : js_E} {d : Nat} {σ σ2 : js_S} {x1 x2 x3 x4 x5 x6 x7 x8 z1 z2 z3 b : Int} (hb : b = 0 ∨ b = 25) {w : Int} (hd : 1 ≤ d) (hz : js_J E (d - 1) 68 0 [(2, 23 + b), (0, z1), (0, z2), (0, z3)] [] σ = js_t E w σ2) : js_J E d 66 157 [(2, 23 + b), (2, x1), (0, x2), (0, x3), (0, x4), (0, x5), (0, x6), (0, x7), (2, x8)] [(0, z3), (0, z2), (0, z1), (2, 23 + b)] σ = js_t E w σ2 :=
  j_callT (m := 0) (js_caV q_66_157 (js_Mo qy_66 qm_5_259)) (js_agV (av := [(0, z1), (0, z2), (0, z3)]) (st := []) rfl rfl (js_o23b hb) rfl) rfl rfl (by rw [ql_68]; exact Nat.le_of_ble_eq_true rfl) (Nat.le_of_ble_eq_true rfl) hd rfl hz
theorem b_66_160 {E : js_E} {d : Nat} {σ : js_S} {x1 x2 x3 x4 x5 x6 x7 x8 b : Int} (hb : b = 0 ∨ b = 25) : js_J E d 66 160 [(2, 23 + b), (2, x1), (0, x2), (0, x3), (0, x4), (0, x5), (0, x6), (0, x7), (2, x8)] [] σ = js_J E d 66 172 [(2, 23 + b), (2, x1), (0, x2), (0, x3), (0, x4), (0, x5), (0, x6), (0, x7), (2, x8)] [(0, σ (23 + b) 2), (0, σ (23 + b) 1), (2, 8 + b)] σ :=
  (j_aload_n q_66_160 rfl).trans <| (j_get (ji := 6) (v := (2, 8 + b)) q_66_161 (js_Fo qy_66 qf_5_47) (js_o23b hb) rfl rfl rfl rfl).trans <| (j_aload_n q_66_164 rfl).trans <| (j_get (ji := 1) (v := (0, σ (23 + b) 1)) q_66_165 (js_Fo qy_66 qf_5_94) (js_o23b hb) rfl rfl rfl rfl).trans <| (j_aload_n q_66_168 rfl).trans <| (j_get (ji := 2) (v := (0, σ (23 + b) 2)) q_66_169 (js_Fo qy_66 qf_5_97) (js_o23b hb) rfl rfl rfl rfl).trans <| rfl
theorem k_66_172 {E : js_E} {d : Nat} {σ σ2 : js_S} {x1 x2 x3 x4 x5 x6 x7 x8 z1 z2 b : Int} (hb : b = 0 ∨ b = 25) {v : Int} (hd : 1 ≤ d) (hz : js_J E (d - 1) 69 0 [(2, 8 + b), (0, z1), (0, z2), (9, 0)] [] σ = js_r E (0, v) σ2) : js_J E d 66 172 [(2, 23 + b), (2, x1), (0, x2), (0, x3), (0, x4), (0, x5), (0, x6), (0, x7), (2, x8)] [(0, z2), (0, z1), (2, 8 + b)] σ = js_J E d 66 175 [(2, 23 + b), (2, x1), (0, x2), (0, x3), (0, x4), (0, x5), (0, x6), (0, x7), (2, x8)] [(0, v)] σ2 :=
  j_call (m := 1) (js_caV q_66_172 (js_Mo qy_66 qm_5_137)) (js_agV (av := [(0, z1), (0, z2)]) (st := []) rfl rfl (js_o8b hb) rfl) rfl rfl (by rw [ql_69]; exact Nat.le_of_ble_eq_true rfl) (Nat.le_of_ble_eq_true rfl) hd hz
theorem kt_66_172 {E : js_E} {d : Nat} {σ σ2 : js_S} {x1 x2 x3 x4 x5 x6 x7 x8 z1 z2 b : Int} (hb : b = 0 ∨ b = 25) {w : Int} (hd : 1 ≤ d) (hz : js_J E (d - 1) 69 0 [(2, 8 + b), (0, z1), (0, z2), (9, 0)] [] σ = js_t E w σ2) : js_J E d 66 172 [(2, 23 + b), (2, x1), (0, x2), (0, x3), (0, x4), (0, x5), (0, x6), (0, x7), (2, x8)] [(0, z2), (0, z1), (2, 8 + b)] σ = js_t E w σ2 :=
  j_callT (m := 1) (js_caV q_66_172 (js_Mo qy_66 qm_5_137)) (js_agV (av := [(0, z1), (0, z2)]) (st := []) rfl rfl (js_o8b hb) rfl) rfl rfl (by rw [ql_69]; exact Nat.le_of_ble_eq_true rfl) (Nat.le_of_ble_eq_true rfl) hd rfl hz
theorem b_66_175 {E : js_E} {d : Nat} {σ : js_S} {x1 x2 x3 x4 x5 x6 x7 x8 z0 b : Int} : js_J E d 66 175 [(2, 23 + b), (2, x1), (0, x2), (0, x3), (0, x4), (0, x5), (0, x6), (0, x7), (2, x8)] [(0, z0)] σ = js_J E d 66 176 [(2, 23 + b), (2, x1), (0, x2), (0, x3), (0, x4), (0, x5), (0, x6), (0, x7), (2, x8)] [] σ :=
  (j_pop0 q_66_175).trans <| rfl
theorem b_66_176 {E : js_E} {d : Nat} {σ : js_S} {x1 x2 x3 x4 x5 x6 x7 x8 b : Int} (hb : b = 0 ∨ b = 25) : js_J E d 66 176 [(2, 23 + b), (2, x1), (0, x2), (0, x3), (0, x4), (0, x5), (0, x6), (0, x7), (2, x8)] [] σ = (if js_w (σ 1 1) = 44 then js_J E d 66 196 [(2, 23 + b), (2, x1), (0, x2), (0, x3), (0, x4), (0, x5 + 1), (0, x6), (0, x7), (2, x8)] [(0, 1)] σ else js_J E d 66 196 [(2, 23 + b), (2, x1), (0, x2), (0, x3), (0, x4), (0, x5 + 1), (0, x6), (0, x7), (2, x8)] [(0, 0)] σ) :=
  (j_iinc (l2 := [(2, 23 + b), (2, x1), (0, x2), (0, x3), (0, x4), (0, x5 + 1), (0, x6), (0, x7), (2, x8)]) q_66_176 rfl rfl).trans <| (j_aload_n q_66_179 rfl).trans <| (j_get (ji := 4) (v := (2, 1)) q_66_180 (js_Fo qy_66 qf_5_33) (js_o23b hb) rfl rfl rfl rfl).trans <| (j_get (ji := 1) (v := (0, σ 1 1)) q_66_183 (js_Fo qy_66 qf_5_65) js_o1 rfl rfl rfl rfl).trans <| (j_bi q_66_186 rfl).trans <| (j_cmpneB (t := 195) q_66_188 rfl ww_44).trans (js_ite ((j_iconst q_66_191).trans <| (j_goto (t := 196) q_66_192 rfl).trans <| rfl) ((j_iconst q_66_195).trans <| rfl))
theorem b_66_196 {E : js_E} {d : Nat} {σ : js_S} {x1 x2 x3 x4 x5 x6 x7 x8 z0 b : Int} (hb : b = 0 ∨ b = 25) : js_J E d 66 196 [(2, 23 + b), (2, x1), (0, x2), (0, x3), (0, x4), (0, x5), (0, x6), (0, x7), (2, x8)] [(0, z0)] σ = (if js_w z0 = 0 then js_J E d 66 210 [(2, 23 + b), (2, x1), (0, x2), (0, x3), (0, x4), (0, x5), (0, z0), (0, x7), (2, x8)] [] σ else js_J E d 66 207 [(2, 23 + b), (2, x1), (0, x2), (0, x3), (0, x4), (0, x5), (0, z0), (0, x7), (2, x8)] [(2, 1)] σ) :=
  (j_istore (l2 := [(2, 23 + b), (2, x1), (0, x2), (0, x3), (0, x4), (0, x5), (0, z0), (0, x7), (2, x8)]) q_66_196 rfl (Nat.le_of_ble_eq_true rfl)).trans <| (j_iload q_66_198 rfl).trans <| (j_ifeq (t := 210) q_66_200 rfl).trans (js_ite (rfl) ((j_aload_n q_66_203 rfl).trans <| (j_get (ji := 4) (v := (2, 1)) q_66_204 (js_Fo qy_66 qf_5_33) (js_o23b hb) rfl rfl rfl rfl).trans <| rfl))
theorem k_66_207 {E : js_E} {d : Nat} {σ σ2 : js_S} {x1 x2 x3 x4 x5 x6 x7 x8 b : Int} (hd : 1 ≤ d) (hz : js_J E (d - 1) 33 0 [(2, 1), (9, 0)] [] σ = js_r0 E σ2) : js_J E d 66 207 [(2, 23 + b), (2, x1), (0, x2), (0, x3), (0, x4), (0, x5), (0, x6), (0, x7), (2, x8)] [(2, 1)] σ = js_J E d 66 210 [(2, 23 + b), (2, x1), (0, x2), (0, x3), (0, x4), (0, x5), (0, x6), (0, x7), (2, x8)] [] σ2 :=
  j_call0 (m := 1) (js_caV q_66_207 (js_Mo qy_66 qm_5_140)) (js_agV (av := []) (st := []) rfl rfl js_o1 rfl) rfl rfl (by rw [ql_33]; exact Nat.le_of_ble_eq_true rfl) (Nat.le_of_ble_eq_true rfl) hd hz
theorem kt_66_207 {E : js_E} {d : Nat} {σ σ2 : js_S} {x1 x2 x3 x4 x5 x6 x7 x8 b : Int} {w : Int} (hd : 1 ≤ d) (hz : js_J E (d - 1) 33 0 [(2, 1), (9, 0)] [] σ = js_t E w σ2) : js_J E d 66 207 [(2, 23 + b), (2, x1), (0, x2), (0, x3), (0, x4), (0, x5), (0, x6), (0, x7), (2, x8)] [(2, 1)] σ = js_t E w σ2 :=
  j_callT (m := 1) (js_caV q_66_207 (js_Mo qy_66 qm_5_140)) (js_agV (av := []) (st := []) rfl rfl js_o1 rfl) rfl rfl (by rw [ql_33]; exact Nat.le_of_ble_eq_true rfl) (Nat.le_of_ble_eq_true rfl) hd rfl hz
theorem b_66_210 {E : js_E} {d : Nat} {σ : js_S} {x1 x2 x3 x4 x5 x6 x7 x8 b : Int} : js_J E d 66 210 [(2, 23 + b), (2, x1), (0, x2), (0, x3), (0, x4), (0, x5), (0, x6), (0, x7), (2, x8)] [] σ = js_J E d 66 89 [(2, 23 + b), (2, x1), (0, x2), (0, x3), (0, x4), (0, x5), (0, x6), (0, x7 + 1), (2, x8)] [] σ :=
  (j_iinc (l2 := [(2, 23 + b), (2, x1), (0, x2), (0, x3), (0, x4), (0, x5), (0, x6), (0, x7 + 1), (2, x8)]) q_66_210 rfl rfl).trans <| (j_goto (t := 89) q_66_213 rfl).trans <| rfl
theorem b_66_216 {E : js_E} {d : Nat} {σ : js_S} {x1 x2 x3 x4 x5 x6 x7 b : Int} {ux8 : js_v} (hb : b = 0 ∨ b = 25) (hs_x1 : js_desc E.1 σ x1 = some (0, 11, js_sym)) : js_J E d 66 216 [(2, 23 + b), (2, x1), (0, x2), (0, x3), (0, x4), (0, x5), (0, x6), (0, x7), ux8] [] σ = (if js_w (σ 1 1) = 41 then (if js_w x5 = js_w (σ x1 6) then js_J E d 66 253 [(2, 23 + b), (2, x1), (0, x2), (0, x3), (0, x4), (0, x5), (0, x6), (0, x7), ux8] [] σ else js_J E d 66 250 [(2, 23 + b), (2, x1), (0, x2), (0, x3), (0, x4), (0, x5), (0, x6), (0, x7), ux8] [(0, σ 1 2), (0, 9), (2, 1)] σ) else js_J E d 66 253 [(2, 23 + b), (2, x1), (0, x2), (0, x3), (0, x4), (0, x5), (0, x6), (0, x7), ux8] [] σ) :=
  (j_aload_n q_66_216 rfl).trans <| (j_get (ji := 4) (v := (2, 1)) q_66_217 (js_Fo qy_66 qf_5_33) (js_o23b hb) rfl rfl rfl rfl).trans <| (j_get (ji := 1) (v := (0, σ 1 1)) q_66_220 (js_Fo qy_66 qf_5_65) js_o1 rfl rfl rfl rfl).trans <| (j_bi q_66_223 rfl).trans <| (j_cmpneB (t := 253) q_66_225 rfl ww_41).trans (js_ite ((j_iload q_66_228 rfl).trans <| (j_aload_n q_66_230 rfl).trans <| (j_get (ji := 6) (v := (0, σ x1 6)) q_66_231 (js_Fo qy_66 qf_5_256) hs_x1 rfl rfl rfl rfl).trans <| (j_cmpeq (t := 253) q_66_234 rfl).trans (js_ite (rfl) ((j_aload_n q_66_237 rfl).trans <| (j_get (ji := 4) (v := (2, 1)) q_66_238 (js_Fo qy_66 qf_5_33) (js_o23b hb) rfl rfl rfl rfl).trans <| (j_bi q_66_241 rfl).trans <| (j_aload_n q_66_243 rfl).trans <| (j_get (ji := 4) (v := (2, 1)) q_66_244 (js_Fo qy_66 qf_5_33) (js_o23b hb) rfl rfl rfl rfl).trans <| (j_get (ji := 2) (v := (0, σ 1 2)) q_66_247 (js_Fo qy_66 qf_5_56) js_o1 rfl rfl rfl rfl).trans <| rfl))) (rfl))
theorem k_66_250 {E : js_E} {d : Nat} {σ σ2 : js_S} {x1 x2 x3 x4 x5 x6 x7 z1 z2 b : Int} {ux8 : js_v} (hd : 1 ≤ d) (hz : js_J E (d - 1) 36 0 [(2, 1), (0, z1), (0, z2)] [] σ = js_r0 E σ2) : js_J E d 66 250 [(2, 23 + b), (2, x1), (0, x2), (0, x3), (0, x4), (0, x5), (0, x6), (0, x7), ux8] [(0, z2), (0, z1), (2, 1)] σ = js_J E d 66 253 [(2, 23 + b), (2, x1), (0, x2), (0, x3), (0, x4), (0, x5), (0, x6), (0, x7), ux8] [] σ2 :=
  j_call0 (m := 0) (js_caV q_66_250 (js_Mo qy_66 qm_5_127)) (js_agV (av := [(0, z1), (0, z2)]) (st := []) rfl rfl js_o1 rfl) rfl rfl (by rw [ql_36]; exact Nat.le_of_ble_eq_true rfl) (Nat.le_of_ble_eq_true rfl) hd hz
theorem kt_66_250 {E : js_E} {d : Nat} {σ σ2 : js_S} {x1 x2 x3 x4 x5 x6 x7 z1 z2 b : Int} {ux8 : js_v} {w : Int} (hd : 1 ≤ d) (hz : js_J E (d - 1) 36 0 [(2, 1), (0, z1), (0, z2)] [] σ = js_t E w σ2) : js_J E d 66 250 [(2, 23 + b), (2, x1), (0, x2), (0, x3), (0, x4), (0, x5), (0, x6), (0, x7), ux8] [(0, z2), (0, z1), (2, 1)] σ = js_t E w σ2 :=
  j_callT (m := 0) (js_caV q_66_250 (js_Mo qy_66 qm_5_127)) (js_agV (av := [(0, z1), (0, z2)]) (st := []) rfl rfl js_o1 rfl) rfl rfl (by rw [ql_36]; exact Nat.le_of_ble_eq_true rfl) (Nat.le_of_ble_eq_true rfl) hd rfl hz
theorem b_66_253 {E : js_E} {d : Nat} {σ : js_S} {x1 x2 x3 x4 x5 x6 x7 b : Int} {ux8 : js_v} (hb : b = 0 ∨ b = 25) : js_J E d 66 253 [(2, 23 + b), (2, x1), (0, x2), (0, x3), (0, x4), (0, x5), (0, x6), (0, x7), ux8] [] σ = js_J E d 66 259 [(2, 23 + b), (2, x1), (0, x2), (0, x3), (0, x4), (0, x5), (0, x6), (0, x7), ux8] [(0, 41), (2, 1)] σ :=
  (j_aload_n q_66_253 rfl).trans <| (j_get (ji := 4) (v := (2, 1)) q_66_254 (js_Fo qy_66 qf_5_33) (js_o23b hb) rfl rfl rfl rfl).trans <| (j_bi q_66_257 rfl).trans <| rfl
theorem k_66_259 {E : js_E} {d : Nat} {σ σ2 : js_S} {x1 x2 x3 x4 x5 x6 x7 z1 b : Int} {ux8 : js_v} (hd : 1 ≤ d) (hz : js_J E (d - 1) 48 0 [(2, 1), (0, z1)] [] σ = js_r0 E σ2) : js_J E d 66 259 [(2, 23 + b), (2, x1), (0, x2), (0, x3), (0, x4), (0, x5), (0, x6), (0, x7), ux8] [(0, z1), (2, 1)] σ = js_J E d 66 262 [(2, 23 + b), (2, x1), (0, x2), (0, x3), (0, x4), (0, x5), (0, x6), (0, x7), ux8] [] σ2 :=
  j_call0 (m := 0) (js_caV q_66_259 (js_Mo qy_66 qm_5_191)) (js_agV (av := [(0, z1)]) (st := []) rfl rfl js_o1 rfl) rfl rfl (by rw [ql_48]; exact Nat.le_of_ble_eq_true rfl) (Nat.le_of_ble_eq_true rfl) hd hz
theorem kt_66_259 {E : js_E} {d : Nat} {σ σ2 : js_S} {x1 x2 x3 x4 x5 x6 x7 z1 b : Int} {ux8 : js_v} {w : Int} (hd : 1 ≤ d) (hz : js_J E (d - 1) 48 0 [(2, 1), (0, z1)] [] σ = js_t E w σ2) : js_J E d 66 259 [(2, 23 + b), (2, x1), (0, x2), (0, x3), (0, x4), (0, x5), (0, x6), (0, x7), ux8] [(0, z1), (2, 1)] σ = js_t E w σ2 :=
  j_callT (m := 0) (js_caV q_66_259 (js_Mo qy_66 qm_5_191)) (js_agV (av := [(0, z1)]) (st := []) rfl rfl js_o1 rfl) rfl rfl (by rw [ql_48]; exact Nat.le_of_ble_eq_true rfl) (Nat.le_of_ble_eq_true rfl) hd rfl hz
theorem b_66_262 {E : js_E} {d : Nat} {σ : js_S} {x1 x2 x3 x4 x5 x6 x7 b : Int} {ux8 : js_v} : js_J E d 66 262 [(2, 23 + b), (2, x1), (0, x2), (0, x3), (0, x4), (0, x5), (0, x6), (0, x7), ux8] [] σ = js_J E d 66 265 [(2, 23 + b), (2, x1), (0, x2), (0, x3), (0, x4), (0, x5), (0, x6), (0, 0), ux8] [] σ :=
  (j_iconst q_66_262).trans <| (j_istore (l2 := [(2, 23 + b), (2, x1), (0, x2), (0, x3), (0, x4), (0, x5), (0, x6), (0, 0), ux8]) q_66_263 rfl (Nat.le_of_ble_eq_true rfl)).trans <| rfl
theorem b_66_265 {E : js_E} {d : Nat} {σ : js_S} {x1 x2 x3 x4 x5 x6 x7 b : Int} {ux8 : js_v} (hs_x1 : js_desc E.1 σ x1 = some (0, 11, js_sym)) (hb : b = 0 ∨ b = 25) : js_J E d 66 265 [(2, 23 + b), (2, x1), (0, x2), (0, x3), (0, x4), (0, x5), (0, x6), (0, x7), ux8] [] σ = (if js_w x7 < js_w (σ x1 6) then js_J E d 66 287 [(2, 23 + b), (2, x1), (0, x2), (0, x3), (0, x4), (0, x5), (0, x6), (0, x7), ux8] [(0, ((σ x1 0) + 1) + x7), (2, 7 + b)] σ else js_J E d 66 331 [(2, 23 + b), (2, x1), (0, x2), (0, x3), (0, x4), (0, x5), (0, x6), (0, x7), ux8] [(2, x1), (2, 8 + b)] (js_up σ (8 + b) 10 x4)) :=
  (j_iload q_66_265 rfl).trans <| (j_aload_n q_66_267 rfl).trans <| (j_get (ji := 6) (v := (0, σ x1 6)) q_66_268 (js_Fo qy_66 qf_5_256) hs_x1 rfl rfl rfl rfl).trans <| (j_cmpge (t := 317) q_66_271 rfl).trans (js_ite ((j_aload_n q_66_274 rfl).trans <| (j_get (ji := 5) (v := (2, 7 + b)) q_66_275 (js_Fo qy_66 qf_5_37) (js_o23b hb) rfl rfl rfl rfl).trans <| (j_aload_n q_66_278 rfl).trans <| (j_get (ji := 0) (v := (0, σ x1 0)) q_66_279 (js_Fo qy_66 qf_5_271) hs_x1 rfl rfl rfl rfl).trans <| (j_iconst q_66_282).trans <| (j_iadd q_66_283).trans <| (j_iload q_66_284 rfl).trans <| (j_iadd q_66_286).trans <| rfl) ((j_aload_n q_66_317 rfl).trans <| (j_get (ji := 6) (v := (2, 8 + b)) q_66_318 (js_Fo qy_66 qf_5_47) (js_o23b hb) rfl rfl rfl rfl).trans <| (j_iload q_66_321 rfl).trans <| (j_putI (ji := 10) q_66_323 (js_Fo qy_66 qf_5_268) rfl (js_o8b hb) rfl rfl rfl).trans <| (j_aload_n q_66_326 rfl).trans <| (j_get (ji := 6) (v := (2, 8 + b)) q_66_327 (js_Fo qy_66 qf_5_47) (js_o23b hb) rfl rfl rfl rfl).trans <| (j_aload_n q_66_330 rfl).trans <| rfl))
theorem k_66_287 {E : js_E} {d : Nat} {σ σ2 : js_S} {x1 x2 x3 x4 x5 x6 x7 z1 b : Int} {ux8 : js_v} (hb : b = 0 ∨ b = 25) {v : Int} (hd : 1 ≤ d) (hz : js_J E (d - 1) 67 0 [(2, 7 + b), (0, z1)] [] σ = js_r E (2, v) σ2) : js_J E d 66 287 [(2, 23 + b), (2, x1), (0, x2), (0, x3), (0, x4), (0, x5), (0, x6), (0, x7), ux8] [(0, z1), (2, 7 + b)] σ = js_J E d 66 290 [(2, 23 + b), (2, x1), (0, x2), (0, x3), (0, x4), (0, x5), (0, x6), (0, x7), ux8] [(2, v)] σ2 :=
  j_call (m := 0) (js_caV q_66_287 (js_Mo qy_66 qm_5_273)) (js_agV (av := [(0, z1)]) (st := []) rfl rfl (js_o7b hb) rfl) rfl rfl (by rw [ql_67]; exact Nat.le_of_ble_eq_true rfl) (Nat.le_of_ble_eq_true rfl) hd hz
theorem kt_66_287 {E : js_E} {d : Nat} {σ σ2 : js_S} {x1 x2 x3 x4 x5 x6 x7 z1 b : Int} {ux8 : js_v} (hb : b = 0 ∨ b = 25) {w : Int} (hd : 1 ≤ d) (hz : js_J E (d - 1) 67 0 [(2, 7 + b), (0, z1)] [] σ = js_t E w σ2) : js_J E d 66 287 [(2, 23 + b), (2, x1), (0, x2), (0, x3), (0, x4), (0, x5), (0, x6), (0, x7), ux8] [(0, z1), (2, 7 + b)] σ = js_t E w σ2 :=
  j_callT (m := 0) (js_caV q_66_287 (js_Mo qy_66 qm_5_273)) (js_agV (av := [(0, z1)]) (st := []) rfl rfl (js_o7b hb) rfl) rfl rfl (by rw [ql_67]; exact Nat.le_of_ble_eq_true rfl) (Nat.le_of_ble_eq_true rfl) hd rfl hz
theorem b_66_290 {E : js_E} {d : Nat} {σ : js_S} {x1 x2 x3 x4 x5 x6 x7 z0 b : Int} {ux8 : js_v} : js_J E d 66 290 [(2, 23 + b), (2, x1), (0, x2), (0, x3), (0, x4), (0, x5), (0, x6), (0, x7), ux8] [(2, z0)] σ = (if z0 < 0 then js_J E d 66 311 [(2, 23 + b), (2, x1), (0, x2), (0, x3), (0, x4), (0, x5), (0, x6), (0, x7), (2, z0)] [] σ else js_J E d 66 297 [(2, 23 + b), (2, x1), (0, x2), (0, x3), (0, x4), (0, x5), (0, x6), (0, x7), (2, z0)] [] σ) :=
  (j_astore (l2 := [(2, 23 + b), (2, x1), (0, x2), (0, x3), (0, x4), (0, x5), (0, x6), (0, x7), (2, z0)]) q_66_290 rfl (Nat.le_of_ble_eq_true rfl)).trans <| (j_aload q_66_292 rfl).trans <| (j_ifnull (t := 311) q_66_294 rfl).trans (js_ite (rfl) (rfl))
theorem b_66_297 {E : js_E} {d : Nat} {σ : js_S} {x1 x2 x3 x4 x5 x6 x7 x8 b : Int} (hb : b = 0 ∨ b = 25) : js_J E d 66 297 [(2, 23 + b), (2, x1), (0, x2), (0, x3), (0, x4), (0, x5), (0, x6), (0, x7), (2, x8)] [] σ = js_J E d 66 308 [(2, 23 + b), (2, x1), (0, x2), (0, x3), (0, x4), (0, x5), (0, x6), (0, x7), (2, x8)] [(2, x8), (0, x4 + x7), (2, 8 + b)] σ :=
  (j_aload_n q_66_297 rfl).trans <| (j_get (ji := 6) (v := (2, 8 + b)) q_66_298 (js_Fo qy_66 qf_5_47) (js_o23b hb) rfl rfl rfl rfl).trans <| (j_iload q_66_301 rfl).trans <| (j_iload q_66_303 rfl).trans <| (j_iadd q_66_305).trans <| (j_aload q_66_306 rfl).trans <| rfl
theorem k_66_308 {E : js_E} {d : Nat} {σ σ2 : js_S} {x1 x2 x3 x4 x5 x6 x7 x8 z1 z2 b : Int} (hb : b = 0 ∨ b = 25) (hd : 1 ≤ d) (hz : js_J E (d - 1) 71 0 [(2, 8 + b), (0, z1), (2, z2), (9, 0)] [] σ = js_r0 E σ2) : js_J E d 66 308 [(2, 23 + b), (2, x1), (0, x2), (0, x3), (0, x4), (0, x5), (0, x6), (0, x7), (2, x8)] [(2, z2), (0, z1), (2, 8 + b)] σ = js_J E d 66 311 [(2, 23 + b), (2, x1), (0, x2), (0, x3), (0, x4), (0, x5), (0, x6), (0, x7), (2, x8)] [] σ2 :=
  j_call0 (m := 1) (js_caV q_66_308 (js_Mo qy_66 qm_5_277)) (js_agV (av := [(0, z1), (2, z2)]) (st := []) rfl rfl (js_o8b hb) rfl) rfl rfl (by rw [ql_71]; exact Nat.le_of_ble_eq_true rfl) (Nat.le_of_ble_eq_true rfl) hd hz
theorem kt_66_308 {E : js_E} {d : Nat} {σ σ2 : js_S} {x1 x2 x3 x4 x5 x6 x7 x8 z1 z2 b : Int} (hb : b = 0 ∨ b = 25) {w : Int} (hd : 1 ≤ d) (hz : js_J E (d - 1) 71 0 [(2, 8 + b), (0, z1), (2, z2), (9, 0)] [] σ = js_t E w σ2) : js_J E d 66 308 [(2, 23 + b), (2, x1), (0, x2), (0, x3), (0, x4), (0, x5), (0, x6), (0, x7), (2, x8)] [(2, z2), (0, z1), (2, 8 + b)] σ = js_t E w σ2 :=
  j_callT (m := 1) (js_caV q_66_308 (js_Mo qy_66 qm_5_277)) (js_agV (av := [(0, z1), (2, z2)]) (st := []) rfl rfl (js_o8b hb) rfl) rfl rfl (by rw [ql_71]; exact Nat.le_of_ble_eq_true rfl) (Nat.le_of_ble_eq_true rfl) hd rfl hz
theorem b_66_311 {E : js_E} {d : Nat} {σ : js_S} {x1 x2 x3 x4 x5 x6 x7 x8 b : Int} : js_J E d 66 311 [(2, 23 + b), (2, x1), (0, x2), (0, x3), (0, x4), (0, x5), (0, x6), (0, x7), (2, x8)] [] σ = js_J E d 66 265 [(2, 23 + b), (2, x1), (0, x2), (0, x3), (0, x4), (0, x5), (0, x6), (0, x7 + 1), (2, x8)] [] σ :=
  (j_iinc (l2 := [(2, 23 + b), (2, x1), (0, x2), (0, x3), (0, x4), (0, x5), (0, x6), (0, x7 + 1), (2, x8)]) q_66_311 rfl rfl).trans <| (j_goto (t := 265) q_66_314 rfl).trans <| rfl
theorem k_66_331 {E : js_E} {d : Nat} {σ σ2 : js_S} {x1 x2 x3 x4 x5 x6 x7 z1 b : Int} {ux8 : js_v} (hb : b = 0 ∨ b = 25) (hd : 1 ≤ d) (hz : js_J E (d - 1) 73 0 [(2, 8 + b), (2, z1)] [] σ = js_r0 E σ2) : js_J E d 66 331 [(2, 23 + b), (2, x1), (0, x2), (0, x3), (0, x4), (0, x5), (0, x6), (0, x7), ux8] [(2, z1), (2, 8 + b)] σ = js_J E d 66 334 [(2, 23 + b), (2, x1), (0, x2), (0, x3), (0, x4), (0, x5), (0, x6), (0, x7), ux8] [] σ2 :=
  j_call0 (m := 0) (js_caV q_66_331 (js_Mo qy_66 qm_5_281)) (js_agV (av := [(2, z1)]) (st := []) rfl rfl (js_o8b hb) rfl) rfl rfl (by rw [ql_73]; exact Nat.le_of_ble_eq_true rfl) (Nat.le_of_ble_eq_true rfl) hd hz
theorem kt_66_331 {E : js_E} {d : Nat} {σ σ2 : js_S} {x1 x2 x3 x4 x5 x6 x7 z1 b : Int} {ux8 : js_v} (hb : b = 0 ∨ b = 25) {w : Int} (hd : 1 ≤ d) (hz : js_J E (d - 1) 73 0 [(2, 8 + b), (2, z1)] [] σ = js_t E w σ2) : js_J E d 66 331 [(2, 23 + b), (2, x1), (0, x2), (0, x3), (0, x4), (0, x5), (0, x6), (0, x7), ux8] [(2, z1), (2, 8 + b)] σ = js_t E w σ2 :=
  j_callT (m := 0) (js_caV q_66_331 (js_Mo qy_66 qm_5_281)) (js_agV (av := [(2, z1)]) (st := []) rfl rfl (js_o8b hb) rfl) rfl rfl (by rw [ql_73]; exact Nat.le_of_ble_eq_true rfl) (Nat.le_of_ble_eq_true rfl) hd rfl hz
theorem b_66_334 {E : js_E} {d : Nat} {σ : js_S} {x1 x2 x3 x4 x5 x6 x7 b : Int} {ux8 : js_v} (hs_x1 : js_desc E.1 σ x1 = some (0, 11, js_sym)) : js_J E d 66 334 [(2, 23 + b), (2, x1), (0, x2), (0, x3), (0, x4), (0, x5), (0, x6), (0, x7), ux8] [] σ = js_J E d 66 347 [(2, 23 + b), (2, x1), (0, x2), (0, x3), (0, x4), (0, x5), (0, x6), (0, x7), ux8] [(0, σ x1 4), (0, σ x1 3), (0, σ x1 2), (2, 23 + b)] σ :=
  (j_aload_n q_66_334 rfl).trans <| (j_aload_n q_66_335 rfl).trans <| (j_get (ji := 2) (v := (0, σ x1 2)) q_66_336 (js_Fo qy_66 qf_5_229) hs_x1 rfl rfl rfl rfl).trans <| (j_aload_n q_66_339 rfl).trans <| (j_get (ji := 3) (v := (0, σ x1 3)) q_66_340 (js_Fo qy_66 qf_5_241) hs_x1 rfl rfl rfl rfl).trans <| (j_aload_n q_66_343 rfl).trans <| (j_get (ji := 4) (v := (0, σ x1 4)) q_66_344 (js_Fo qy_66 qf_5_242) hs_x1 rfl rfl rfl rfl).trans <| rfl
theorem k_66_347 {E : js_E} {d : Nat} {σ σ2 : js_S} {x1 x2 x3 x4 x5 x6 x7 z1 z2 z3 b : Int} {ux8 : js_v} (hb : b = 0 ∨ b = 25) (hd : 1 ≤ d) (hz : js_J E (d - 1) 75 0 [(2, 23 + b), (0, z1), (0, z2), (0, z3)] [] σ = js_r0 E σ2) : js_J E d 66 347 [(2, 23 + b), (2, x1), (0, x2), (0, x3), (0, x4), (0, x5), (0, x6), (0, x7), ux8] [(0, z3), (0, z2), (0, z1), (2, 23 + b)] σ = js_J E d 66 350 [(2, 23 + b), (2, x1), (0, x2), (0, x3), (0, x4), (0, x5), (0, x6), (0, x7), ux8] [] σ2 :=
  j_call0 (m := 0) (js_caV q_66_347 (js_Mo qy_66 qm_5_147)) (js_agV (av := [(0, z1), (0, z2), (0, z3)]) (st := []) rfl rfl (js_o23b hb) rfl) rfl rfl (by rw [ql_75]; exact Nat.le_of_ble_eq_true rfl) (Nat.le_of_ble_eq_true rfl) hd hz
theorem kt_66_347 {E : js_E} {d : Nat} {σ σ2 : js_S} {x1 x2 x3 x4 x5 x6 x7 z1 z2 z3 b : Int} {ux8 : js_v} (hb : b = 0 ∨ b = 25) {w : Int} (hd : 1 ≤ d) (hz : js_J E (d - 1) 75 0 [(2, 23 + b), (0, z1), (0, z2), (0, z3)] [] σ = js_t E w σ2) : js_J E d 66 347 [(2, 23 + b), (2, x1), (0, x2), (0, x3), (0, x4), (0, x5), (0, x6), (0, x7), ux8] [(0, z3), (0, z2), (0, z1), (2, 23 + b)] σ = js_t E w σ2 :=
  j_callT (m := 0) (js_caV q_66_347 (js_Mo qy_66 qm_5_147)) (js_agV (av := [(0, z1), (0, z2), (0, z3)]) (st := []) rfl rfl (js_o23b hb) rfl) rfl rfl (by rw [ql_75]; exact Nat.le_of_ble_eq_true rfl) (Nat.le_of_ble_eq_true rfl) hd rfl hz
theorem b_66_350 {E : js_E} {d : Nat} {σ : js_S} {x1 x2 x3 x4 x5 x6 x7 b : Int} {ux8 : js_v} : js_J E d 66 350 [(2, 23 + b), (2, x1), (0, x2), (0, x3), (0, x4), (0, x5), (0, x6), (0, x7), ux8] [] σ = js_r0 E σ :=
  j_return q_66_350 qr_66
-- 67: VitalTwin$Program.at (I)LVitalTwin$Symbol;
theorem b_67_0 {E : js_E} {d : Nat} {σ : js_S} {x1 b : Int} (hb : b = 0 ∨ b = 25) : js_J E d 67 0 [(2, 7 + b), (0, x1)] [] σ = (if js_w x1 < 0 then js_r E (2, (-1)) σ else (if js_w x1 < js_w (σ (7 + b) 1) then (if js_w x1 < 400 then (if 0 ≤ js_w x1 ∧ js_w x1 < 400 then js_r E (2, σ (19 + b) (js_w x1)) σ else none) else js_r E (2, (-1)) σ) else js_r E (2, (-1)) σ)) :=
  (j_iload_n q_67_0 rfl).trans <| (j_iflt (t := 21) q_67_1 rfl).trans (js_ite ((j_null q_67_21).trans <| (j_goto (t := 31) q_67_22 rfl).trans <| j_areturn q_67_31 qr_67) ((j_iload_n q_67_4 rfl).trans <| (j_aload_n q_67_5 rfl).trans <| (j_get (ji := 1) (v := (0, σ (7 + b) 1)) q_67_6 (js_Fo qy_67 qf_7_31) (js_o7b hb) rfl rfl rfl rfl).trans <| (j_cmpge (t := 21) q_67_9 rfl).trans (js_ite ((j_iload_n q_67_12 rfl).trans <| (j_aload_n q_67_13 rfl).trans <| (j_get (ji := 7) (v := (2, 19 + b)) q_67_14 (js_Fo qy_67 qf_7_20) (js_o7b hb) rfl rfl rfl rfl).trans <| (j_alen q_67_17 (js_o19b hb) (by decide) (by decide)).trans <| (j_cmpltB (t := 25) q_67_18 rfl ww_400).trans (js_ite ((j_aload_n q_67_25 rfl).trans <| (j_get (ji := 7) (v := (2, 19 + b)) q_67_26 (js_Fo qy_67 qf_7_20) (js_o7b hb) rfl rfl rfl rfl).trans <| (j_iload_n q_67_29 rfl).trans <| (j_aaload q_67_30 (js_o19b hb)).trans <| js_itp fun g0 => j_areturn q_67_31 qr_67) ((j_null q_67_21).trans <| (j_goto (t := 31) q_67_22 rfl).trans <| j_areturn q_67_31 qr_67))) ((j_null q_67_21).trans <| (j_goto (t := 31) q_67_22 rfl).trans <| j_areturn q_67_31 qr_67))))
-- 68: VitalTwin$Expressions.askToSuit (III)V
theorem b_68_0 {E : js_E} {d : Nat} {σ : js_S} {x1 x2 x3 b : Int} (hb : b = 0 ∨ b = 25) : js_J E d 68 0 [(2, 23 + b), (0, x1), (0, x2), (0, x3)] [] σ = (if js_w (σ (23 + b) 0) = js_w x1 then js_J E d 68 20 [(2, 23 + b), (0, x1), (0, x2), (0, x3)] [] σ else js_J E d 68 17 [(2, 23 + b), (0, x1), (0, x2), (0, x3)] [(0, σ (23 + b) 3), (0, 5), (2, 1)] σ) :=
  (j_aload_n q_68_0 rfl).trans <| (j_get (ji := 0) (v := (0, σ (23 + b) 0)) q_68_1 (js_Fo qy_68 qf_5_130) (js_o23b hb) rfl rfl rfl rfl).trans <| (j_iload_n q_68_4 rfl).trans <| (j_cmpeq (t := 20) q_68_5 rfl).trans (js_ite (rfl) ((j_aload_n q_68_8 rfl).trans <| (j_get (ji := 4) (v := (2, 1)) q_68_9 (js_Fo qy_68 qf_5_33) (js_o23b hb) rfl rfl rfl rfl).trans <| (j_iconst q_68_12).trans <| (j_aload_n q_68_13 rfl).trans <| (j_get (ji := 3) (v := (0, σ (23 + b) 3)) q_68_14 (js_Fo qy_68 qf_5_114) (js_o23b hb) rfl rfl rfl rfl).trans <| rfl))
theorem k_68_17 {E : js_E} {d : Nat} {σ σ2 : js_S} {x1 x2 x3 z1 z2 b : Int} (hd : 1 ≤ d) (hz : js_J E (d - 1) 36 0 [(2, 1), (0, z1), (0, z2)] [] σ = js_r0 E σ2) : js_J E d 68 17 [(2, 23 + b), (0, x1), (0, x2), (0, x3)] [(0, z2), (0, z1), (2, 1)] σ = js_J E d 68 20 [(2, 23 + b), (0, x1), (0, x2), (0, x3)] [] σ2 :=
  j_call0 (m := 0) (js_caV q_68_17 (js_Mo qy_68 qm_5_127)) (js_agV (av := [(0, z1), (0, z2)]) (st := []) rfl rfl js_o1 rfl) rfl rfl (by rw [ql_36]; exact Nat.le_of_ble_eq_true rfl) (Nat.le_of_ble_eq_true rfl) hd hz
theorem kt_68_17 {E : js_E} {d : Nat} {σ σ2 : js_S} {x1 x2 x3 z1 z2 b : Int} {w : Int} (hd : 1 ≤ d) (hz : js_J E (d - 1) 36 0 [(2, 1), (0, z1), (0, z2)] [] σ = js_t E w σ2) : js_J E d 68 17 [(2, 23 + b), (0, x1), (0, x2), (0, x3)] [(0, z2), (0, z1), (2, 1)] σ = js_t E w σ2 :=
  j_callT (m := 0) (js_caV q_68_17 (js_Mo qy_68 qm_5_127)) (js_agV (av := [(0, z1), (0, z2)]) (st := []) rfl rfl js_o1 rfl) rfl rfl (by rw [ql_36]; exact Nat.le_of_ble_eq_true rfl) (Nat.le_of_ble_eq_true rfl) hd rfl hz
theorem b_68_20 {E : js_E} {d : Nat} {σ : js_S} {x1 x2 x3 b : Int} (hb : b = 0 ∨ b = 25) : js_J E d 68 20 [(2, 23 + b), (0, x1), (0, x2), (0, x3)] [] σ = (if js_w (σ (23 + b) 1) < js_w x2 then js_J E d 68 36 [(2, 23 + b), (0, x1), (0, x2), (0, x3)] [] σ else (if js_w x3 < js_w (σ (23 + b) 2) then js_J E d 68 36 [(2, 23 + b), (0, x1), (0, x2), (0, x3)] [] σ else js_J E d 68 49 [(2, 23 + b), (0, x1), (0, x2), (0, x3)] [] σ)) :=
  (j_aload_n q_68_20 rfl).trans <| (j_get (ji := 1) (v := (0, σ (23 + b) 1)) q_68_21 (js_Fo qy_68 qf_5_94) (js_o23b hb) rfl rfl rfl rfl).trans <| (j_iload_n q_68_24 rfl).trans <| (j_cmplt (t := 36) q_68_25 rfl).trans (js_ite (rfl) ((j_aload_n q_68_28 rfl).trans <| (j_get (ji := 2) (v := (0, σ (23 + b) 2)) q_68_29 (js_Fo qy_68 qf_5_97) (js_o23b hb) rfl rfl rfl rfl).trans <| (j_iload_n q_68_32 rfl).trans <| (j_cmple (t := 49) q_68_33 rfl).trans (js_ite (rfl) (rfl))))
theorem b_68_36 {E : js_E} {d : Nat} {σ : js_S} {x1 x2 x3 b : Int} (hb : b = 0 ∨ b = 25) : js_J E d 68 36 [(2, 23 + b), (0, x1), (0, x2), (0, x3)] [] σ = js_J E d 68 46 [(2, 23 + b), (0, x1), (0, x2), (0, x3)] [(0, σ (23 + b) 3), (0, 6), (2, 1)] σ :=
  (j_aload_n q_68_36 rfl).trans <| (j_get (ji := 4) (v := (2, 1)) q_68_37 (js_Fo qy_68 qf_5_33) (js_o23b hb) rfl rfl rfl rfl).trans <| (j_bi q_68_40 rfl).trans <| (j_aload_n q_68_42 rfl).trans <| (j_get (ji := 3) (v := (0, σ (23 + b) 3)) q_68_43 (js_Fo qy_68 qf_5_114) (js_o23b hb) rfl rfl rfl rfl).trans <| rfl
theorem k_68_46 {E : js_E} {d : Nat} {σ σ2 : js_S} {x1 x2 x3 z1 z2 b : Int} (hd : 1 ≤ d) (hz : js_J E (d - 1) 36 0 [(2, 1), (0, z1), (0, z2)] [] σ = js_r0 E σ2) : js_J E d 68 46 [(2, 23 + b), (0, x1), (0, x2), (0, x3)] [(0, z2), (0, z1), (2, 1)] σ = js_J E d 68 49 [(2, 23 + b), (0, x1), (0, x2), (0, x3)] [] σ2 :=
  j_call0 (m := 0) (js_caV q_68_46 (js_Mo qy_68 qm_5_127)) (js_agV (av := [(0, z1), (0, z2)]) (st := []) rfl rfl js_o1 rfl) rfl rfl (by rw [ql_36]; exact Nat.le_of_ble_eq_true rfl) (Nat.le_of_ble_eq_true rfl) hd hz
theorem kt_68_46 {E : js_E} {d : Nat} {σ σ2 : js_S} {x1 x2 x3 z1 z2 b : Int} {w : Int} (hd : 1 ≤ d) (hz : js_J E (d - 1) 36 0 [(2, 1), (0, z1), (0, z2)] [] σ = js_t E w σ2) : js_J E d 68 46 [(2, 23 + b), (0, x1), (0, x2), (0, x3)] [(0, z2), (0, z1), (2, 1)] σ = js_t E w σ2 :=
  j_callT (m := 0) (js_caV q_68_46 (js_Mo qy_68 qm_5_127)) (js_agV (av := [(0, z1), (0, z2)]) (st := []) rfl rfl js_o1 rfl) rfl rfl (by rw [ql_36]; exact Nat.le_of_ble_eq_true rfl) (Nat.le_of_ble_eq_true rfl) hd rfl hz
theorem b_68_49 {E : js_E} {d : Nat} {σ : js_S} {x1 x2 x3 b : Int} : js_J E d 68 49 [(2, 23 + b), (0, x1), (0, x2), (0, x3)] [] σ = js_r0 E σ :=
  j_return q_68_49 qr_68
-- 69: VitalTwin$Code.keep (II)I
theorem b_69_0 {E : js_E} {d : Nat} {σ : js_S} {x1 x2 b : Int} (hd : 4 ≤ d) (hb : b = 0 ∨ b = 25) : js_J E d 69 0 [(2, 8 + b), (0, x1), (0, x2), (9, 0)] [] σ = (if js_w (σ (8 + b) 10) < 1024 then (if 0 ≤ js_w (σ (8 + b) 10) ∧ js_w (σ (8 + b) 10) < 1024 then js_J E d 69 51 [(2, 8 + b), (0, x1), (0, x2), (0, σ (8 + b) 10)] [] (js_up (js_up (js_up (js_up σ (8 + b) 10 ((σ (8 + b) 10) + 1)) (8 + b) 11 (if js_w (σ (8 + b) 11) < js_w ((σ (8 + b) 10) + 1) then ((σ (8 + b) 10) + 1) else (σ (8 + b) 11))) (17 + b) (js_w (σ (8 + b) 10)) x1) (18 + b) (js_w (σ (8 + b) 10)) x2) else none) else js_J E d 69 51 [(2, 8 + b), (0, x1), (0, x2), (0, σ (8 + b) 10)] [] (js_up (js_up σ (8 + b) 10 ((σ (8 + b) 10) + 1)) (8 + b) 11 (if js_w (σ (8 + b) 11) < js_w ((σ (8 + b) 10) + 1) then ((σ (8 + b) 10) + 1) else (σ (8 + b) 11)))) :=
  (j_aload_n q_69_0 rfl).trans <| (j_get (ji := 10) (v := (0, σ (8 + b) 10)) q_69_1 (js_Fo qy_69 qf_1_58) (js_o8b hb) rfl rfl rfl rfl).trans <| (j_istore_n (l2 := [(2, 8 + b), (0, x1), (0, x2), (0, σ (8 + b) 10)]) q_69_4 rfl (Nat.le_of_ble_eq_true rfl)).trans <| (j_aload_n q_69_5 rfl).trans <| (j_dupr q_69_6).trans <| (j_get (ji := 10) (v := (0, σ (8 + b) 10)) q_69_7 (js_Fo qy_69 qf_1_58) (js_o8b hb) rfl rfl rfl rfl).trans <| (j_iconst q_69_10).trans <| (j_iadd q_69_11).trans <| (j_putI (ji := 10) q_69_12 (js_Fo qy_69 qf_1_58) rfl (js_o8b hb) rfl rfl rfl).trans <| (j_aload_n q_69_15 rfl).trans <| (j_aload_n q_69_16 rfl).trans <| (j_get (ji := 11) (v := (0, σ (8 + b) 11)) q_69_17 (js_Fo qy_69 qf_1_61) (js_o8b hb) rfl rfl rfl (congrArg (Prod.mk 0) ((js_up_ne _ (by omega))))).trans <| (j_aload_n q_69_20 rfl).trans <| (j_get (ji := 10) (v := (0, (σ (8 + b) 10) + 1)) q_69_21 (js_Fo qy_69 qf_1_58) (js_o8b hb) rfl rfl rfl (congrArg (Prod.mk 0) ((js_up_same _ _ _ _)))).trans <| (j_max (js_clS q_69_24 (js_Mo qy_69 qm_1_97)) (Nat.le_of_ble_eq_true rfl) hd).trans <| (j_putI (ji := 11) q_69_27 (js_Fo qy_69 qf_1_61) rfl (js_o8b hb) rfl rfl rfl).trans <| (j_iload_n q_69_30 rfl).trans <| (j_si q_69_31 rfl).trans <| (j_cmpgeB (t := 51) q_69_34 rfl ww_1024).trans (js_ite ((j_aload_n q_69_37 rfl).trans <| (j_get (ji := 15) (v := (2, 17 + b)) q_69_38 (js_Fo qy_69 qf_1_36) (js_o8b hb) rfl rfl rfl rfl).trans <| (j_iload_n q_69_41 rfl).trans <| (j_iload_n q_69_42 rfl).trans <| (j_iastore q_69_43 (js_o17b hb)).trans <| js_itp fun g0 => (j_aload_n q_69_44 rfl).trans <| (j_get (ji := 16) (v := (2, 18 + b)) q_69_45 (js_Fo qy_69 qf_1_39) (js_o8b hb) rfl rfl rfl rfl).trans <| (j_iload_n q_69_48 rfl).trans <| (j_iload_n q_69_49 rfl).trans <| (j_iastore q_69_50 (js_o18b hb)).trans <| (if_pos g0).trans <| rfl) (rfl))
theorem b_69_51 {E : js_E} {d : Nat} {σ : js_S} {x1 x2 x3 b : Int} : js_J E d 69 51 [(2, 8 + b), (0, x1), (0, x2), (0, x3)] [] σ = js_J E d 69 58 [(2, 8 + b), (0, x1), (0, x2), (0, x3)] [(2, 8 + b), (0, 0), (0, 1), (0, 0), (0, x3), (0, 2), (2, 8 + b)] σ :=
  (j_aload_n q_69_51 rfl).trans <| (j_iconst q_69_52).trans <| (j_iload_n q_69_53 rfl).trans <| (j_iconst q_69_54).trans <| (j_iconst q_69_55).trans <| (j_iconst q_69_56).trans <| (j_aload_n q_69_57 rfl).trans <| rfl
theorem k_69_58 {E : js_E} {d : Nat} {σ σ2 : js_S} {x1 x2 x3 z1 z2 z3 z4 z5 b : Int} (hb : b = 0 ∨ b = 25) {v : Int} (hd : 1 ≤ d) (hz : js_J E (d - 1) 70 0 [(2, 8 + b)] [] σ = js_r E (0, v) σ2) : js_J E d 69 58 [(2, 8 + b), (0, x1), (0, x2), (0, x3)] [(2, 8 + b), (0, z5), (0, z4), (0, z3), (0, z2), (0, z1), (2, 8 + b)] σ = js_J E d 69 61 [(2, 8 + b), (0, x1), (0, x2), (0, x3)] [(0, v), (0, z5), (0, z4), (0, z3), (0, z2), (0, z1), (2, 8 + b)] σ2 :=
  j_call (m := 0) (js_caV q_69_58 (js_Mo qy_69 qm_1_100)) (js_agV (av := []) (st := [(0, z5), (0, z4), (0, z3), (0, z2), (0, z1), (2, 8 + b)]) rfl rfl (js_o8b hb) rfl) rfl rfl (by rw [ql_70]; exact Nat.le_of_ble_eq_true rfl) (Nat.le_of_ble_eq_true rfl) hd hz
theorem kt_69_58 {E : js_E} {d : Nat} {σ σ2 : js_S} {x1 x2 x3 z1 z2 z3 z4 z5 b : Int} (hb : b = 0 ∨ b = 25) {w : Int} (hd : 1 ≤ d) (hz : js_J E (d - 1) 70 0 [(2, 8 + b)] [] σ = js_t E w σ2) : js_J E d 69 58 [(2, 8 + b), (0, x1), (0, x2), (0, x3)] [(2, 8 + b), (0, z5), (0, z4), (0, z3), (0, z2), (0, z1), (2, 8 + b)] σ = js_t E w σ2 :=
  j_callT (m := 0) (js_caV q_69_58 (js_Mo qy_69 qm_1_100)) (js_agV (av := []) (st := [(0, z5), (0, z4), (0, z3), (0, z2), (0, z1), (2, 8 + b)]) rfl rfl (js_o8b hb) rfl) rfl rfl (by rw [ql_70]; exact Nat.le_of_ble_eq_true rfl) (Nat.le_of_ble_eq_true rfl) hd rfl hz
theorem k_69_61 {E : js_E} {d : Nat} {σ σ2 : js_S} {x1 x2 x3 z1 z2 z3 z4 z5 z6 b : Int} (hb : b = 0 ∨ b = 25) (hd : 1 ≤ d) (hz : js_J E (d - 1) 60 0 [(2, 8 + b), (0, z1), (0, z2), (0, z3), (0, z4), (0, z5), (0, z6), (9, 0)] [] σ = js_r0 E σ2) : js_J E d 69 61 [(2, 8 + b), (0, x1), (0, x2), (0, x3)] [(0, z6), (0, z5), (0, z4), (0, z3), (0, z2), (0, z1), (2, 8 + b)] σ = js_J E d 69 64 [(2, 8 + b), (0, x1), (0, x2), (0, x3)] [] σ2 :=
  j_call0 (m := 1) (js_caV q_69_61 (js_Mo qy_69 qm_1_74)) (js_agV (av := [(0, z1), (0, z2), (0, z3), (0, z4), (0, z5), (0, z6)]) (st := []) rfl rfl (js_o8b hb) rfl) rfl rfl (by rw [ql_60]; exact Nat.le_of_ble_eq_true rfl) (Nat.le_of_ble_eq_true rfl) hd hz
theorem kt_69_61 {E : js_E} {d : Nat} {σ σ2 : js_S} {x1 x2 x3 z1 z2 z3 z4 z5 z6 b : Int} (hb : b = 0 ∨ b = 25) {w : Int} (hd : 1 ≤ d) (hz : js_J E (d - 1) 60 0 [(2, 8 + b), (0, z1), (0, z2), (0, z3), (0, z4), (0, z5), (0, z6), (9, 0)] [] σ = js_t E w σ2) : js_J E d 69 61 [(2, 8 + b), (0, x1), (0, x2), (0, x3)] [(0, z6), (0, z5), (0, z4), (0, z3), (0, z2), (0, z1), (2, 8 + b)] σ = js_t E w σ2 :=
  j_callT (m := 1) (js_caV q_69_61 (js_Mo qy_69 qm_1_74)) (js_agV (av := [(0, z1), (0, z2), (0, z3), (0, z4), (0, z5), (0, z6)]) (st := []) rfl rfl (js_o8b hb) rfl) rfl rfl (by rw [ql_60]; exact Nat.le_of_ble_eq_true rfl) (Nat.le_of_ble_eq_true rfl) hd rfl hz
theorem b_69_64 {E : js_E} {d : Nat} {σ : js_S} {x1 x2 x3 b : Int} : js_J E d 69 64 [(2, 8 + b), (0, x1), (0, x2), (0, x3)] [] σ = js_r E (0, x3) σ :=
  (j_iload_n q_69_64 rfl).trans <| j_ireturn q_69_65 qr_69
-- 70: VitalTwin$Code.homeOfTemps ()I
theorem b_70_0 {E : js_E} {d : Nat} {σ : js_S} {b : Int} (hb : b = 0 ∨ b = 25) : js_J E d 70 0 [(2, 8 + b)] [] σ = js_r E (0, (2 * (σ (8 + b) 8)) + 2) σ :=
  (j_iconst q_70_0).trans <| (j_aload_n q_70_1 rfl).trans <| (j_get (ji := 8) (v := (0, σ (8 + b) 8)) q_70_2 (js_Fo qy_70 qf_1_46) (js_o8b hb) rfl rfl rfl rfl).trans <| (j_imul q_70_5).trans <| (j_iconst q_70_6).trans <| (j_iadd q_70_7).trans <| j_ireturn q_70_8 qr_70
-- 71: VitalTwin$Code.pass (ILVitalTwin$Symbol;)V
theorem b_71_0 {E : js_E} {d : Nat} {σ : js_S} {x1 x2 b : Int} : js_J E d 71 0 [(2, 8 + b), (0, x1), (2, x2), (9, 0)] [] σ = (if js_w x1 < 0 then js_J E d 71 15 [(2, 8 + b), (0, x1), (2, x2), (9, 0)] [] σ else (if js_w x1 < 1024 then js_J E d 71 16 [(2, 8 + b), (0, x1), (2, x2), (9, 0)] [(0, 1)] σ else js_J E d 71 15 [(2, 8 + b), (0, x1), (2, x2), (9, 0)] [] σ)) :=
  (j_iload_n q_71_0 rfl).trans <| (j_iflt (t := 15) q_71_1 rfl).trans (js_ite (rfl) ((j_iload_n q_71_4 rfl).trans <| (j_si q_71_5 rfl).trans <| (j_cmpgeB (t := 15) q_71_8 rfl ww_1024).trans (js_ite ((j_iconst q_71_11).trans <| (j_goto (t := 16) q_71_12 rfl).trans <| rfl) (rfl))))
theorem b_71_15 {E : js_E} {d : Nat} {σ : js_S} {x1 x2 b : Int} : js_J E d 71 15 [(2, 8 + b), (0, x1), (2, x2), (9, 0)] [] σ = js_J E d 71 16 [(2, 8 + b), (0, x1), (2, x2), (9, 0)] [(0, 0)] σ :=
  (j_iconst q_71_15).trans <| rfl
theorem b_71_16 {E : js_E} {d : Nat} {σ : js_S} {x1 x2 z0 b : Int} (hb : b = 0 ∨ b = 25) : js_J E d 71 16 [(2, 8 + b), (0, x1), (2, x2), (9, 0)] [(0, z0)] σ = (if js_w z0 = 0 then js_J E d 71 35 [(2, 8 + b), (0, x1), (2, x2), (0, z0)] [(0, 0), (0, 0), (0, x1), (0, 1), (2, 8 + b)] σ else (if 0 ≤ js_w x1 ∧ js_w x1 < 1024 then js_J E d 71 35 [(2, 8 + b), (0, x1), (2, x2), (0, z0)] [(0, σ (17 + b) (js_w x1)), (0, 0), (0, x1), (0, 1), (2, 8 + b)] σ else none)) :=
  (j_istore_n (l2 := [(2, 8 + b), (0, x1), (2, x2), (0, z0)]) q_71_16 rfl (Nat.le_of_ble_eq_true rfl)).trans <| (j_aload_n q_71_17 rfl).trans <| (j_iconst q_71_18).trans <| (j_iload_n q_71_19 rfl).trans <| (j_iconst q_71_20).trans <| (j_iload_n q_71_21 rfl).trans <| (j_ifeq (t := 34) q_71_22 rfl).trans (js_ite ((j_iconst q_71_34).trans <| rfl) ((j_aload_n q_71_25 rfl).trans <| (j_get (ji := 15) (v := (2, 17 + b)) q_71_26 (js_Fo qy_71 qf_1_36) (js_o8b hb) rfl rfl rfl rfl).trans <| (j_iload_n q_71_29 rfl).trans <| (j_iaload q_71_30 (js_o17b hb)).trans <| js_itp fun g0 => (j_goto (t := 35) q_71_31 rfl).trans <| rfl))
theorem b_71_35 {E : js_E} {d : Nat} {σ : js_S} {x1 x2 x3 z1 z2 z3 z4 b : Int} (hb : b = 0 ∨ b = 25) : js_J E d 71 35 [(2, 8 + b), (0, x1), (2, x2), (0, x3)] [(0, z4), (0, z3), (0, z2), (0, z1), (2, 8 + b)] σ = (if js_w x3 = 0 then js_J E d 71 49 [(2, 8 + b), (0, x1), (2, x2), (0, x3)] [(0, 0), (0, z4), (0, z3), (0, z2), (0, z1), (2, 8 + b)] σ else (if 0 ≤ js_w x1 ∧ js_w x1 < 1024 then js_J E d 71 49 [(2, 8 + b), (0, x1), (2, x2), (0, x3)] [(0, σ (18 + b) (js_w x1)), (0, z4), (0, z3), (0, z2), (0, z1), (2, 8 + b)] σ else none)) :=
  (j_iload_n q_71_35 rfl).trans <| (j_ifeq (t := 48) q_71_36 rfl).trans (js_ite ((j_iconst q_71_48).trans <| rfl) ((j_aload_n q_71_39 rfl).trans <| (j_get (ji := 16) (v := (2, 18 + b)) q_71_40 (js_Fo qy_71 qf_1_39) (js_o8b hb) rfl rfl rfl rfl).trans <| (j_iload_n q_71_43 rfl).trans <| (j_iaload q_71_44 (js_o18b hb)).trans <| js_itp fun g0 => (j_goto (t := 49) q_71_45 rfl).trans <| rfl))
theorem b_71_49 {E : js_E} {d : Nat} {σ : js_S} {x1 x2 x3 z1 z2 z3 z4 z5 b : Int} : js_J E d 71 49 [(2, 8 + b), (0, x1), (2, x2), (0, x3)] [(0, z5), (0, z4), (0, z3), (0, z2), (0, z1), (2, 8 + b)] σ = js_J E d 71 50 [(2, 8 + b), (0, x1), (2, x2), (0, x3)] [(2, 8 + b), (0, z5), (0, z4), (0, z3), (0, z2), (0, z1), (2, 8 + b)] σ :=
  (j_aload_n q_71_49 rfl).trans <| rfl
theorem k_71_50 {E : js_E} {d : Nat} {σ σ2 : js_S} {x1 x2 x3 z1 z2 z3 z4 z5 b : Int} (hb : b = 0 ∨ b = 25) {v : Int} (hd : 1 ≤ d) (hz : js_J E (d - 1) 70 0 [(2, 8 + b)] [] σ = js_r E (0, v) σ2) : js_J E d 71 50 [(2, 8 + b), (0, x1), (2, x2), (0, x3)] [(2, 8 + b), (0, z5), (0, z4), (0, z3), (0, z2), (0, z1), (2, 8 + b)] σ = js_J E d 71 53 [(2, 8 + b), (0, x1), (2, x2), (0, x3)] [(0, v), (0, z5), (0, z4), (0, z3), (0, z2), (0, z1), (2, 8 + b)] σ2 :=
  j_call (m := 0) (js_caV q_71_50 (js_Mo qy_71 qm_1_100)) (js_agV (av := []) (st := [(0, z5), (0, z4), (0, z3), (0, z2), (0, z1), (2, 8 + b)]) rfl rfl (js_o8b hb) rfl) rfl rfl (by rw [ql_70]; exact Nat.le_of_ble_eq_true rfl) (Nat.le_of_ble_eq_true rfl) hd hz
theorem kt_71_50 {E : js_E} {d : Nat} {σ σ2 : js_S} {x1 x2 x3 z1 z2 z3 z4 z5 b : Int} (hb : b = 0 ∨ b = 25) {w : Int} (hd : 1 ≤ d) (hz : js_J E (d - 1) 70 0 [(2, 8 + b)] [] σ = js_t E w σ2) : js_J E d 71 50 [(2, 8 + b), (0, x1), (2, x2), (0, x3)] [(2, 8 + b), (0, z5), (0, z4), (0, z3), (0, z2), (0, z1), (2, 8 + b)] σ = js_t E w σ2 :=
  j_callT (m := 0) (js_caV q_71_50 (js_Mo qy_71 qm_1_100)) (js_agV (av := []) (st := [(0, z5), (0, z4), (0, z3), (0, z2), (0, z1), (2, 8 + b)]) rfl rfl (js_o8b hb) rfl) rfl rfl (by rw [ql_70]; exact Nat.le_of_ble_eq_true rfl) (Nat.le_of_ble_eq_true rfl) hd rfl hz
theorem k_71_53 {E : js_E} {d : Nat} {σ σ2 : js_S} {x1 x2 x3 z1 z2 z3 z4 z5 z6 b : Int} (hb : b = 0 ∨ b = 25) (hd : 1 ≤ d) (hz : js_J E (d - 1) 60 0 [(2, 8 + b), (0, z1), (0, z2), (0, z3), (0, z4), (0, z5), (0, z6), (9, 0)] [] σ = js_r0 E σ2) : js_J E d 71 53 [(2, 8 + b), (0, x1), (2, x2), (0, x3)] [(0, z6), (0, z5), (0, z4), (0, z3), (0, z2), (0, z1), (2, 8 + b)] σ = js_J E d 71 56 [(2, 8 + b), (0, x1), (2, x2), (0, x3)] [] σ2 :=
  j_call0 (m := 1) (js_caV q_71_53 (js_Mo qy_71 qm_1_74)) (js_agV (av := [(0, z1), (0, z2), (0, z3), (0, z4), (0, z5), (0, z6)]) (st := []) rfl rfl (js_o8b hb) rfl) rfl rfl (by rw [ql_60]; exact Nat.le_of_ble_eq_true rfl) (Nat.le_of_ble_eq_true rfl) hd hz
theorem kt_71_53 {E : js_E} {d : Nat} {σ σ2 : js_S} {x1 x2 x3 z1 z2 z3 z4 z5 z6 b : Int} (hb : b = 0 ∨ b = 25) {w : Int} (hd : 1 ≤ d) (hz : js_J E (d - 1) 60 0 [(2, 8 + b), (0, z1), (0, z2), (0, z3), (0, z4), (0, z5), (0, z6), (9, 0)] [] σ = js_t E w σ2) : js_J E d 71 53 [(2, 8 + b), (0, x1), (2, x2), (0, x3)] [(0, z6), (0, z5), (0, z4), (0, z3), (0, z2), (0, z1), (2, 8 + b)] σ = js_t E w σ2 :=
  j_callT (m := 1) (js_caV q_71_53 (js_Mo qy_71 qm_1_74)) (js_agV (av := [(0, z1), (0, z2), (0, z3), (0, z4), (0, z5), (0, z6)]) (st := []) rfl rfl (js_o8b hb) rfl) rfl rfl (by rw [ql_60]; exact Nat.le_of_ble_eq_true rfl) (Nat.le_of_ble_eq_true rfl) hd rfl hz
theorem b_71_56 {E : js_E} {d : Nat} {σ : js_S} {x1 x2 x3 b : Int} (hs_x2 : js_desc E.1 σ x2 = some (0, 11, js_sym)) : js_J E d 71 56 [(2, 8 + b), (0, x1), (2, x2), (0, x3)] [] σ = js_J E d 71 66 [(2, 8 + b), (0, x1), (2, x2), (0, x3)] [(2, x2), (0, 0), (0, 1), (0, 0), (0, σ x2 5), (0, 2), (2, 8 + b)] σ :=
  (j_aload_n q_71_56 rfl).trans <| (j_iconst q_71_57).trans <| (j_aload_n q_71_58 rfl).trans <| (j_get (ji := 5) (v := (0, σ x2 5)) q_71_59 (js_Fo qy_71 qf_1_81) hs_x2 rfl rfl rfl rfl).trans <| (j_iconst q_71_62).trans <| (j_iconst q_71_63).trans <| (j_iconst q_71_64).trans <| (j_aload_n q_71_65 rfl).trans <| rfl
theorem k_71_66 {E : js_E} {d : Nat} {σ σ2 : js_S} {x1 x2 x3 z1 z2 z3 z4 z5 z6 b : Int} {v : Int} (hd : 1 ≤ d) (hz : js_J E (d - 1) 72 0 [(2, z6)] [] σ = js_r E (0, v) σ2) : js_J E d 71 66 [(2, 8 + b), (0, x1), (2, x2), (0, x3)] [(2, z6), (0, z5), (0, z4), (0, z3), (0, z2), (0, z1), (2, 8 + b)] σ = js_J E d 71 69 [(2, 8 + b), (0, x1), (2, x2), (0, x3)] [(0, v), (0, z5), (0, z4), (0, z3), (0, z2), (0, z1), (2, 8 + b)] σ2 :=
  j_call (m := 0) (js_caS q_71_66 (js_Mo qy_71 qm_1_84)) (js_agS (av := [(2, z6)]) (st := [(0, z5), (0, z4), (0, z3), (0, z2), (0, z1), (2, 8 + b)]) rfl rfl) rfl rfl (by rw [ql_72]; exact Nat.le_of_ble_eq_true rfl) (Nat.le_of_ble_eq_true rfl) hd hz
theorem kt_71_66 {E : js_E} {d : Nat} {σ σ2 : js_S} {x1 x2 x3 z1 z2 z3 z4 z5 z6 b : Int} {w : Int} (hd : 1 ≤ d) (hz : js_J E (d - 1) 72 0 [(2, z6)] [] σ = js_t E w σ2) : js_J E d 71 66 [(2, 8 + b), (0, x1), (2, x2), (0, x3)] [(2, z6), (0, z5), (0, z4), (0, z3), (0, z2), (0, z1), (2, 8 + b)] σ = js_t E w σ2 :=
  j_callT (m := 0) (js_caS q_71_66 (js_Mo qy_71 qm_1_84)) (js_agS (av := [(2, z6)]) (st := [(0, z5), (0, z4), (0, z3), (0, z2), (0, z1), (2, 8 + b)]) rfl rfl) rfl rfl (by rw [ql_72]; exact Nat.le_of_ble_eq_true rfl) (Nat.le_of_ble_eq_true rfl) hd rfl hz
theorem k_71_69 {E : js_E} {d : Nat} {σ σ2 : js_S} {x1 x2 x3 z1 z2 z3 z4 z5 z6 b : Int} (hb : b = 0 ∨ b = 25) (hd : 1 ≤ d) (hz : js_J E (d - 1) 60 0 [(2, 8 + b), (0, z1), (0, z2), (0, z3), (0, z4), (0, z5), (0, z6), (9, 0)] [] σ = js_r0 E σ2) : js_J E d 71 69 [(2, 8 + b), (0, x1), (2, x2), (0, x3)] [(0, z6), (0, z5), (0, z4), (0, z3), (0, z2), (0, z1), (2, 8 + b)] σ = js_J E d 71 72 [(2, 8 + b), (0, x1), (2, x2), (0, x3)] [] σ2 :=
  j_call0 (m := 1) (js_caV q_71_69 (js_Mo qy_71 qm_1_74)) (js_agV (av := [(0, z1), (0, z2), (0, z3), (0, z4), (0, z5), (0, z6)]) (st := []) rfl rfl (js_o8b hb) rfl) rfl rfl (by rw [ql_60]; exact Nat.le_of_ble_eq_true rfl) (Nat.le_of_ble_eq_true rfl) hd hz
theorem kt_71_69 {E : js_E} {d : Nat} {σ σ2 : js_S} {x1 x2 x3 z1 z2 z3 z4 z5 z6 b : Int} (hb : b = 0 ∨ b = 25) {w : Int} (hd : 1 ≤ d) (hz : js_J E (d - 1) 60 0 [(2, 8 + b), (0, z1), (0, z2), (0, z3), (0, z4), (0, z5), (0, z6), (9, 0)] [] σ = js_t E w σ2) : js_J E d 71 69 [(2, 8 + b), (0, x1), (2, x2), (0, x3)] [(0, z6), (0, z5), (0, z4), (0, z3), (0, z2), (0, z1), (2, 8 + b)] σ = js_t E w σ2 :=
  j_callT (m := 1) (js_caV q_71_69 (js_Mo qy_71 qm_1_74)) (js_agV (av := [(0, z1), (0, z2), (0, z3), (0, z4), (0, z5), (0, z6)]) (st := []) rfl rfl (js_o8b hb) rfl) rfl rfl (by rw [ql_60]; exact Nat.le_of_ble_eq_true rfl) (Nat.le_of_ble_eq_true rfl) hd rfl hz
theorem b_71_72 {E : js_E} {d : Nat} {σ : js_S} {x1 x2 x3 b : Int} : js_J E d 71 72 [(2, 8 + b), (0, x1), (2, x2), (0, x3)] [] σ = js_r0 E σ :=
  j_return q_71_72 qr_71
