/-! part 70.r01: block equations of the reference's methods 195 to 202 (printed by wip/whole/tools/gen71.py) -/
theorem qy_198 : vt_O 198 = 12 := by decide +kernel
theorem qr_198 : vt_rc.getD 198 0 = 1 := by decide +kernel
theorem ql_198 : vt_ml.getD 198 0 = 5 := by decide +kernel
theorem qy_203 : vt_O 203 = 12 := by decide +kernel
theorem qr_203 : vt_rc.getD 203 0 = 0 := by decide +kernel
theorem ql_203 : vt_ml.getD 203 0 = 3 := by decide +kernel
theorem qy_204 : vt_O 204 = 12 := by decide +kernel
theorem qr_204 : vt_rc.getD 204 0 = 0 := by decide +kernel
theorem ql_204 : vt_ml.getD 204 0 = 5 := by decide +kernel
theorem qy_206 : vt_O 206 = 12 := by decide +kernel
theorem qr_206 : vt_rc.getD 206 0 = 0 := by decide +kernel
theorem ql_206 : vt_ml.getD 206 0 = 5 := by decide +kernel
theorem qy_215 : vt_O 215 = 12 := by decide +kernel
theorem qr_215 : vt_rc.getD 215 0 = 0 := by decide +kernel
theorem ql_215 : vt_ml.getD 215 0 = 2 := by decide +kernel
theorem qy_208 : vt_O 208 = 12 := by decide +kernel
theorem qr_208 : vt_rc.getD 208 0 = 0 := by decide +kernel
theorem ql_208 : vt_ml.getD 208 0 = 2 := by decide +kernel
theorem qy_210 : vt_O 210 = 12 := by decide +kernel
theorem qr_210 : vt_rc.getD 210 0 = 0 := by decide +kernel
theorem ql_210 : vt_ml.getD 210 0 = 2 := by decide +kernel
theorem qy_216 : vt_O 216 = 12 := by decide +kernel
theorem qr_216 : vt_rc.getD 216 0 = 0 := by decide +kernel
theorem ql_216 : vt_ml.getD 216 0 = 2 := by decide +kernel
theorem qy_200 : vt_O 200 = 12 := by decide +kernel
theorem qr_200 : vt_rc.getD 200 0 = 1 := by decide +kernel
theorem ql_200 : vt_ml.getD 200 0 = 2 := by decide +kernel
theorem qy_201 : vt_O 201 = 12 := by decide +kernel
theorem qr_201 : vt_rc.getD 201 0 = 2 := by decide +kernel
theorem ql_201 : vt_ml.getD 201 0 = 4 := by decide +kernel
theorem q_195_0 : js_I 195 0 = some (.iconst 0, 1) := by decide +kernel
theorem q_195_1 : js_I 195 1 = some (.istore_n 1, 1) := by decide +kernel
theorem q_195_2 : js_I 195 2 = some (.iconst 0, 1) := by decide +kernel
theorem q_195_3 : js_I 195 3 = some (.istore_n 2, 1) := by decide +kernel
theorem q_195_4 : js_I 195 4 = some (.iload_n 2, 1) := by decide +kernel
theorem q_195_5 : js_I 195 5 = some (.aload_n 0, 1) := by decide +kernel
theorem q_195_6 : js_I 195 6 = some (.getfield 62, 3) := by decide +kernel
theorem q_195_9 : js_I 195 9 = some (.arraylength, 1) := by decide +kernel
theorem q_195_10 : js_I 195 10 = some (.if_icmp .ge 118, 3) := by decide +kernel
theorem q_195_13 : js_I 195 13 = some (.iconst 0, 1) := by decide +kernel
theorem q_195_14 : js_I 195 14 = some (.istore_n 3, 1) := by decide +kernel
theorem q_195_128 : js_I 195 128 = some (.iconst 2, 1) := by decide +kernel
theorem q_195_129 : js_I 195 129 = some (.ireturn, 1) := by decide +kernel
theorem q_195_15 : js_I 195 15 = some (.aload_n 0, 1) := by decide +kernel
theorem q_195_16 : js_I 195 16 = some (.getfield 62, 3) := by decide +kernel
theorem q_195_19 : js_I 195 19 = some (.iload_n 2, 1) := by decide +kernel
theorem q_195_20 : js_I 195 20 = some (.iload_n 3, 1) := by decide +kernel
theorem q_195_21 : js_I 195 21 = some (.iadd, 1) := by decide +kernel
theorem q_195_22 : js_I 195 22 = some (.baload, 1) := by decide +kernel
theorem q_195_23 : js_I 195 23 = some (.bipush 32, 2) := by decide +kernel
theorem q_195_25 : js_I 195 25 = some (.if_icmp .eq 9, 3) := by decide +kernel
theorem q_195_34 : js_I 195 34 = some (.iload_n 3, 1) := by decide +kernel
theorem q_195_35 : js_I 195 35 = some (.aload_n 0, 1) := by decide +kernel
theorem q_195_36 : js_I 195 36 = some (.getfield 28, 3) := by decide +kernel
theorem q_195_39 : js_I 195 39 = some (.aload_n 0, 1) := by decide +kernel
theorem q_195_40 : js_I 195 40 = some (.getfield 35, 3) := by decide +kernel
theorem q_195_43 : js_I 195 43 = some (.isub, 1) := by decide +kernel
theorem q_195_44 : js_I 195 44 = some (.if_icmp .ne 7, 3) := by decide +kernel
theorem q_195_47 : js_I 195 47 = some (.iconst 1, 1) := by decide +kernel
theorem q_195_48 : js_I 195 48 = some (.goto 4, 3) := by decide +kernel
theorem q_195_51 : js_I 195 51 = some (.iconst 0, 1) := by decide +kernel
theorem q_195_28 : js_I 195 28 = some (.iinc 3 1, 3) := by decide +kernel
theorem q_195_31 : js_I 195 31 = some (.goto (-16), 3) := by decide +kernel
theorem q_195_52 : js_I 195 52 = some (.istore 4, 2) := by decide +kernel
theorem q_195_54 : js_I 195 54 = some (.iconst 0, 1) := by decide +kernel
theorem q_195_55 : js_I 195 55 = some (.istore 5, 2) := by decide +kernel
theorem q_195_57 : js_I 195 57 = some (.iload 5, 2) := by decide +kernel
theorem q_195_59 : js_I 195 59 = some (.iload_n 3, 1) := by decide +kernel
theorem q_195_60 : js_I 195 60 = some (.if_icmp .ge 45, 3) := by decide +kernel
theorem q_195_63 : js_I 195 63 = some (.iload 4, 2) := by decide +kernel
theorem q_195_65 : js_I 195 65 = some (.ifCond .eq 40, 3) := by decide +kernel
theorem q_195_68 : js_I 195 68 = some (.aload_n 0, 1) := by decide +kernel
theorem q_195_69 : js_I 195 69 = some (.getfield 62, 3) := by decide +kernel
theorem q_195_72 : js_I 195 72 = some (.iload_n 2, 1) := by decide +kernel
theorem q_195_73 : js_I 195 73 = some (.iload 5, 2) := by decide +kernel
theorem q_195_75 : js_I 195 75 = some (.iadd, 1) := by decide +kernel
theorem q_195_76 : js_I 195 76 = some (.baload, 1) := by decide +kernel
theorem q_195_77 : js_I 195 77 = some (.aload_n 0, 1) := by decide +kernel
theorem q_195_78 : js_I 195 78 = some (.getfield 15, 3) := by decide +kernel
theorem q_195_81 : js_I 195 81 = some (.aload_n 0, 1) := by decide +kernel
theorem q_195_82 : js_I 195 82 = some (.getfield 35, 3) := by decide +kernel
theorem q_195_85 : js_I 195 85 = some (.iload 5, 2) := by decide +kernel
theorem q_195_87 : js_I 195 87 = some (.iadd, 1) := by decide +kernel
theorem q_195_88 : js_I 195 88 = some (.baload, 1) := by decide +kernel
theorem q_195_89 : js_I 195 89 = some (.if_icmp .ne 7, 3) := by decide +kernel
theorem q_195_92 : js_I 195 92 = some (.iconst 1, 1) := by decide +kernel
theorem q_195_93 : js_I 195 93 = some (.goto 4, 3) := by decide +kernel
theorem q_195_96 : js_I 195 96 = some (.iconst 0, 1) := by decide +kernel
theorem q_195_97 : js_I 195 97 = some (.istore 4, 2) := by decide +kernel
theorem q_195_99 : js_I 195 99 = some (.iinc 5 1, 3) := by decide +kernel
theorem q_195_102 : js_I 195 102 = some (.goto (-45), 3) := by decide +kernel
theorem q_195_105 : js_I 195 105 = some (.iload 4, 2) := by decide +kernel
theorem q_195_107 : js_I 195 107 = some (.ifCond .eq 9, 3) := by decide +kernel
theorem q_195_116 : js_I 195 116 = some (.iinc 1 1, 3) := by decide +kernel
theorem q_195_119 : js_I 195 119 = some (.iload_n 2, 1) := by decide +kernel
theorem q_195_120 : js_I 195 120 = some (.iload_n 3, 1) := by decide +kernel
theorem q_195_121 : js_I 195 121 = some (.iconst 1, 1) := by decide +kernel
theorem q_195_122 : js_I 195 122 = some (.iadd, 1) := by decide +kernel
theorem q_195_123 : js_I 195 123 = some (.iadd, 1) := by decide +kernel
theorem q_195_124 : js_I 195 124 = some (.istore_n 2, 1) := by decide +kernel
theorem q_195_125 : js_I 195 125 = some (.goto (-121), 3) := by decide +kernel
theorem q_195_110 : js_I 195 110 = some (.sipush 300, 3) := by decide +kernel
theorem q_195_113 : js_I 195 113 = some (.iload_n 1, 1) := by decide +kernel
theorem q_195_114 : js_I 195 114 = some (.iadd, 1) := by decide +kernel
theorem q_195_115 : js_I 195 115 = some (.ireturn, 1) := by decide +kernel
theorem q_196_0 : js_I 196 0 = some (.aload_n 0, 1) := by decide +kernel
theorem q_196_1 : js_I 196 1 = some (.aload_n 0, 1) := by decide +kernel
theorem q_196_2 : js_I 196 2 = some (.getfield 35, 3) := by decide +kernel
theorem q_196_5 : js_I 196 5 = some (.iconst 2, 1) := by decide +kernel
theorem q_196_6 : js_I 196 6 = some (.iadd, 1) := by decide +kernel
theorem q_196_7 : js_I 196 7 = some (.putfield 28, 3) := by decide +kernel
theorem q_196_10 : js_I 196 10 = some (.aload_n 0, 1) := by decide +kernel
theorem q_196_11 : js_I 196 11 = some (.iload_n 1, 1) := by decide +kernel
theorem q_196_12 : js_I 196 12 = some (.bipush 46, 2) := by decide +kernel
theorem q_196_14 : js_I 196 14 = some (.if_icmp .ne 15, 3) := by decide +kernel
theorem q_196_17 : js_I 196 17 = some (.iload_n 2, 1) := by decide +kernel
theorem q_196_18 : js_I 196 18 = some (.bipush 46, 2) := by decide +kernel
theorem q_196_20 : js_I 196 20 = some (.if_icmp .ne 9, 3) := by decide +kernel
theorem q_196_23 : js_I 196 23 = some (.sipush 200, 3) := by decide +kernel
theorem q_196_26 : js_I 196 26 = some (.goto 112, 3) := by decide +kernel
theorem q_196_29 : js_I 196 29 = some (.iload_n 1, 1) := by decide +kernel
theorem q_196_30 : js_I 196 30 = some (.bipush 60, 2) := by decide +kernel
theorem q_196_32 : js_I 196 32 = some (.if_icmp .ne 15, 3) := by decide +kernel
theorem q_196_35 : js_I 196 35 = some (.iload_n 2, 1) := by decide +kernel
theorem q_196_36 : js_I 196 36 = some (.bipush 61, 2) := by decide +kernel
theorem q_196_38 : js_I 196 38 = some (.if_icmp .ne 9, 3) := by decide +kernel
theorem q_196_41 : js_I 196 41 = some (.sipush 201, 3) := by decide +kernel
theorem q_196_44 : js_I 196 44 = some (.goto 94, 3) := by decide +kernel
theorem q_196_47 : js_I 196 47 = some (.iload_n 1, 1) := by decide +kernel
theorem q_196_48 : js_I 196 48 = some (.bipush 62, 2) := by decide +kernel
theorem q_196_50 : js_I 196 50 = some (.if_icmp .ne 15, 3) := by decide +kernel
theorem q_196_53 : js_I 196 53 = some (.iload_n 2, 1) := by decide +kernel
theorem q_196_54 : js_I 196 54 = some (.bipush 61, 2) := by decide +kernel
theorem q_196_56 : js_I 196 56 = some (.if_icmp .ne 9, 3) := by decide +kernel
theorem q_196_59 : js_I 196 59 = some (.sipush 202, 3) := by decide +kernel
theorem q_196_62 : js_I 196 62 = some (.goto 76, 3) := by decide +kernel
theorem q_196_65 : js_I 196 65 = some (.iload_n 1, 1) := by decide +kernel
theorem q_196_66 : js_I 196 66 = some (.bipush 61, 2) := by decide +kernel
theorem q_196_68 : js_I 196 68 = some (.if_icmp .ne 15, 3) := by decide +kernel
theorem q_196_71 : js_I 196 71 = some (.iload_n 2, 1) := by decide +kernel
theorem q_196_72 : js_I 196 72 = some (.bipush 61, 2) := by decide +kernel
theorem q_196_74 : js_I 196 74 = some (.if_icmp .ne 9, 3) := by decide +kernel
theorem q_196_77 : js_I 196 77 = some (.sipush 203, 3) := by decide +kernel
theorem q_196_80 : js_I 196 80 = some (.goto 58, 3) := by decide +kernel
theorem q_196_83 : js_I 196 83 = some (.iload_n 1, 1) := by decide +kernel
theorem q_196_84 : js_I 196 84 = some (.bipush 33, 2) := by decide +kernel
theorem q_196_86 : js_I 196 86 = some (.if_icmp .ne 15, 3) := by decide +kernel
theorem q_196_89 : js_I 196 89 = some (.iload_n 2, 1) := by decide +kernel
theorem q_196_90 : js_I 196 90 = some (.bipush 61, 2) := by decide +kernel
theorem q_196_92 : js_I 196 92 = some (.if_icmp .ne 9, 3) := by decide +kernel
theorem q_196_95 : js_I 196 95 = some (.sipush 204, 3) := by decide +kernel
theorem q_196_98 : js_I 196 98 = some (.goto 40, 3) := by decide +kernel
theorem q_196_101 : js_I 196 101 = some (.iload_n 1, 1) := by decide +kernel
theorem q_196_102 : js_I 196 102 = some (.bipush 38, 2) := by decide +kernel
theorem q_196_104 : js_I 196 104 = some (.if_icmp .ne 15, 3) := by decide +kernel
theorem q_196_107 : js_I 196 107 = some (.iload_n 2, 1) := by decide +kernel
theorem q_196_108 : js_I 196 108 = some (.bipush 38, 2) := by decide +kernel
theorem q_196_110 : js_I 196 110 = some (.if_icmp .ne 9, 3) := by decide +kernel
theorem q_196_113 : js_I 196 113 = some (.sipush 205, 3) := by decide +kernel
theorem q_196_116 : js_I 196 116 = some (.goto 22, 3) := by decide +kernel
theorem q_196_119 : js_I 196 119 = some (.iload_n 1, 1) := by decide +kernel
theorem q_196_120 : js_I 196 120 = some (.bipush 124, 2) := by decide +kernel
theorem q_196_122 : js_I 196 122 = some (.if_icmp .ne 15, 3) := by decide +kernel
theorem q_196_125 : js_I 196 125 = some (.iload_n 2, 1) := by decide +kernel
theorem q_196_126 : js_I 196 126 = some (.bipush 124, 2) := by decide +kernel
theorem q_196_128 : js_I 196 128 = some (.if_icmp .ne 9, 3) := by decide +kernel
theorem q_196_131 : js_I 196 131 = some (.sipush 206, 3) := by decide +kernel
theorem q_196_134 : js_I 196 134 = some (.goto 4, 3) := by decide +kernel
theorem q_196_137 : js_I 196 137 = some (.iconst 0, 1) := by decide +kernel
theorem q_196_138 : js_I 196 138 = some (.putfield 25, 3) := by decide +kernel
theorem q_196_141 : js_I 196 141 = some (.aload_n 0, 1) := by decide +kernel
theorem q_196_142 : js_I 196 142 = some (.getfield 25, 3) := by decide +kernel
theorem q_196_145 : js_I 196 145 = some (.ifCond .eq 4, 3) := by decide +kernel
theorem q_196_149 : js_I 196 149 = some (.aload_n 0, 1) := by decide +kernel
theorem q_196_150 : js_I 196 150 = some (.aload_n 0, 1) := by decide +kernel
theorem q_196_151 : js_I 196 151 = some (.getfield 35, 3) := by decide +kernel
theorem q_196_154 : js_I 196 154 = some (.iconst 1, 1) := by decide +kernel
theorem q_196_155 : js_I 196 155 = some (.iadd, 1) := by decide +kernel
theorem q_196_156 : js_I 196 156 = some (.putfield 28, 3) := by decide +kernel
theorem q_196_159 : js_I 196 159 = some (.iload_n 1, 1) := by decide +kernel
theorem q_196_160 : js_I 196 160 = some (.bipush 40, 2) := by decide +kernel
theorem q_196_162 : js_I 196 162 = some (.if_icmp .eq 111, 3) := by decide +kernel
theorem q_196_165 : js_I 196 165 = some (.iload_n 1, 1) := by decide +kernel
theorem q_196_166 : js_I 196 166 = some (.bipush 41, 2) := by decide +kernel
theorem q_196_168 : js_I 196 168 = some (.if_icmp .eq 105, 3) := by decide +kernel
theorem q_196_171 : js_I 196 171 = some (.iload_n 1, 1) := by decide +kernel
theorem q_196_172 : js_I 196 172 = some (.bipush 123, 2) := by decide +kernel
theorem q_196_174 : js_I 196 174 = some (.if_icmp .eq 99, 3) := by decide +kernel
theorem q_196_177 : js_I 196 177 = some (.iload_n 1, 1) := by decide +kernel
theorem q_196_178 : js_I 196 178 = some (.bipush 125, 2) := by decide +kernel
theorem q_196_180 : js_I 196 180 = some (.if_icmp .eq 93, 3) := by decide +kernel
theorem q_196_183 : js_I 196 183 = some (.iload_n 1, 1) := by decide +kernel
theorem q_196_184 : js_I 196 184 = some (.bipush 91, 2) := by decide +kernel
theorem q_196_186 : js_I 196 186 = some (.if_icmp .eq 87, 3) := by decide +kernel
theorem q_196_189 : js_I 196 189 = some (.iload_n 1, 1) := by decide +kernel
theorem q_196_190 : js_I 196 190 = some (.bipush 93, 2) := by decide +kernel
theorem q_196_192 : js_I 196 192 = some (.if_icmp .eq 81, 3) := by decide +kernel
theorem q_196_195 : js_I 196 195 = some (.iload_n 1, 1) := by decide +kernel
theorem q_196_196 : js_I 196 196 = some (.bipush 44, 2) := by decide +kernel
theorem q_196_198 : js_I 196 198 = some (.if_icmp .eq 75, 3) := by decide +kernel
theorem q_196_201 : js_I 196 201 = some (.iload_n 1, 1) := by decide +kernel
theorem q_196_202 : js_I 196 202 = some (.bipush 59, 2) := by decide +kernel
theorem q_196_204 : js_I 196 204 = some (.if_icmp .eq 69, 3) := by decide +kernel
theorem q_196_207 : js_I 196 207 = some (.iload_n 1, 1) := by decide +kernel
theorem q_196_208 : js_I 196 208 = some (.bipush 58, 2) := by decide +kernel
theorem q_196_210 : js_I 196 210 = some (.if_icmp .eq 63, 3) := by decide +kernel
theorem q_196_213 : js_I 196 213 = some (.iload_n 1, 1) := by decide +kernel
theorem q_196_214 : js_I 196 214 = some (.bipush 63, 2) := by decide +kernel
theorem q_196_216 : js_I 196 216 = some (.if_icmp .eq 57, 3) := by decide +kernel
theorem q_196_219 : js_I 196 219 = some (.iload_n 1, 1) := by decide +kernel
theorem q_196_220 : js_I 196 220 = some (.bipush 61, 2) := by decide +kernel
theorem q_196_222 : js_I 196 222 = some (.if_icmp .eq 51, 3) := by decide +kernel
theorem q_196_225 : js_I 196 225 = some (.iload_n 1, 1) := by decide +kernel
theorem q_196_226 : js_I 196 226 = some (.bipush 43, 2) := by decide +kernel
theorem q_196_228 : js_I 196 228 = some (.if_icmp .eq 45, 3) := by decide +kernel
theorem q_196_231 : js_I 196 231 = some (.iload_n 1, 1) := by decide +kernel
theorem q_196_232 : js_I 196 232 = some (.bipush 45, 2) := by decide +kernel
theorem q_196_234 : js_I 196 234 = some (.if_icmp .eq 39, 3) := by decide +kernel
theorem q_196_237 : js_I 196 237 = some (.iload_n 1, 1) := by decide +kernel
theorem q_196_238 : js_I 196 238 = some (.bipush 42, 2) := by decide +kernel
theorem q_196_240 : js_I 196 240 = some (.if_icmp .eq 33, 3) := by decide +kernel
theorem q_196_243 : js_I 196 243 = some (.iload_n 1, 1) := by decide +kernel
theorem q_196_244 : js_I 196 244 = some (.bipush 47, 2) := by decide +kernel
theorem q_196_246 : js_I 196 246 = some (.if_icmp .eq 27, 3) := by decide +kernel
theorem q_196_249 : js_I 196 249 = some (.iload_n 1, 1) := by decide +kernel
theorem q_196_250 : js_I 196 250 = some (.bipush 37, 2) := by decide +kernel
theorem q_196_252 : js_I 196 252 = some (.if_icmp .eq 21, 3) := by decide +kernel
theorem q_196_255 : js_I 196 255 = some (.iload_n 1, 1) := by decide +kernel
theorem q_196_256 : js_I 196 256 = some (.bipush 60, 2) := by decide +kernel
theorem q_196_258 : js_I 196 258 = some (.if_icmp .eq 15, 3) := by decide +kernel
theorem q_196_261 : js_I 196 261 = some (.iload_n 1, 1) := by decide +kernel
theorem q_196_262 : js_I 196 262 = some (.bipush 62, 2) := by decide +kernel
theorem q_196_264 : js_I 196 264 = some (.if_icmp .eq 9, 3) := by decide +kernel
theorem q_196_267 : js_I 196 267 = some (.iload_n 1, 1) := by decide +kernel
theorem q_196_268 : js_I 196 268 = some (.bipush 33, 2) := by decide +kernel
theorem q_196_270 : js_I 196 270 = some (.if_icmp .ne 7, 3) := by decide +kernel
theorem q_196_277 : js_I 196 277 = some (.iconst 0, 1) := by decide +kernel
theorem q_196_148 : js_I 196 148 = some (.return_, 1) := by decide +kernel
theorem q_196_273 : js_I 196 273 = some (.iconst 1, 1) := by decide +kernel
theorem q_196_274 : js_I 196 274 = some (.goto 4, 3) := by decide +kernel
theorem q_196_278 : js_I 196 278 = some (.istore_n 3, 1) := by decide +kernel
theorem q_196_279 : js_I 196 279 = some (.aload_n 0, 1) := by decide +kernel
theorem q_196_280 : js_I 196 280 = some (.iload_n 3, 1) := by decide +kernel
theorem q_196_281 : js_I 196 281 = some (.ifCond .eq 7, 3) := by decide +kernel
theorem q_196_288 : js_I 196 288 = some (.sipush 2000, 3) := by decide +kernel
theorem q_196_284 : js_I 196 284 = some (.iload_n 1, 1) := by decide +kernel
theorem q_196_285 : js_I 196 285 = some (.goto 6, 3) := by decide +kernel
theorem q_196_291 : js_I 196 291 = some (.putfield 25, 3) := by decide +kernel
theorem q_196_294 : js_I 196 294 = some (.return_, 1) := by decide +kernel
theorem q_197_0 : js_I 197 0 = some (.aload_n 0, 1) := by decide +kernel
theorem q_197_1 : js_I 197 1 = some (.getfield 25, 3) := by decide +kernel
theorem q_197_4 : js_I 197 4 = some (.istore_n 1, 1) := by decide +kernel
theorem q_197_5 : js_I 197 5 = some (.aload_n 0, 1) := by decide +kernel
theorem q_197_6 : js_I 197 6 = some (.invokevirtual 68, 3) := by decide +kernel
theorem q_197_9 : js_I 197 9 = some (.iload_n 1, 1) := by decide +kernel
theorem q_197_10 : js_I 197 10 = some (.sipush 300, 3) := by decide +kernel
theorem q_197_13 : js_I 197 13 = some (.if_icmp .ne 88, 3) := by decide +kernel
theorem q_197_16 : js_I 197 16 = some (.aload_n 0, 1) := by decide +kernel
theorem q_197_17 : js_I 197 17 = some (.iconst 0, 1) := by decide +kernel
theorem q_197_18 : js_I 197 18 = some (.iconst (-1), 1) := by decide +kernel
theorem q_197_19 : js_I 197 19 = some (.invokevirtual 314, 3) := by decide +kernel
theorem q_197_101 : js_I 197 101 = some (.iload_n 1, 1) := by decide +kernel
theorem q_197_102 : js_I 197 102 = some (.sipush 301, 3) := by decide +kernel
theorem q_197_105 : js_I 197 105 = some (.if_icmp .ne 10, 3) := by decide +kernel
theorem q_197_108 : js_I 197 108 = some (.aload_n 0, 1) := by decide +kernel
theorem q_197_109 : js_I 197 109 = some (.invokevirtual 474, 3) := by decide +kernel
theorem q_197_115 : js_I 197 115 = some (.iload_n 1, 1) := by decide +kernel
theorem q_197_116 : js_I 197 116 = some (.sipush 306, 3) := by decide +kernel
theorem q_197_119 : js_I 197 119 = some (.if_icmp .ne 10, 3) := by decide +kernel
theorem q_197_122 : js_I 197 122 = some (.aload_n 0, 1) := by decide +kernel
theorem q_197_123 : js_I 197 123 = some (.invokevirtual 477, 3) := by decide +kernel
theorem q_197_129 : js_I 197 129 = some (.aload_n 0, 1) := by decide +kernel
theorem q_197_130 : js_I 197 130 = some (.iload_n 1, 1) := by decide +kernel
theorem q_197_131 : js_I 197 131 = some (.sipush 302, 3) := by decide +kernel
theorem q_197_134 : js_I 197 134 = some (.if_icmp .ne 7, 3) := by decide +kernel
theorem q_197_137 : js_I 197 137 = some (.iconst 1, 1) := by decide +kernel
theorem q_197_138 : js_I 197 138 = some (.goto 15, 3) := by decide +kernel
theorem q_197_141 : js_I 197 141 = some (.iload_n 1, 1) := by decide +kernel
theorem q_197_142 : js_I 197 142 = some (.sipush 303, 3) := by decide +kernel
theorem q_197_145 : js_I 197 145 = some (.if_icmp .ne 7, 3) := by decide +kernel
theorem q_197_148 : js_I 197 148 = some (.iconst 2, 1) := by decide +kernel
theorem q_197_149 : js_I 197 149 = some (.goto 4, 3) := by decide +kernel
theorem q_197_152 : js_I 197 152 = some (.iconst 3, 1) := by decide +kernel
theorem q_197_22 : js_I 197 22 = some (.istore_n 2, 1) := by decide +kernel
theorem q_197_23 : js_I 197 23 = some (.aload_n 0, 1) := by decide +kernel
theorem q_197_24 : js_I 197 24 = some (.bipush 61, 2) := by decide +kernel
theorem q_197_26 : js_I 197 26 = some (.invokevirtual 75, 3) := by decide +kernel
theorem q_197_29 : js_I 197 29 = some (.aload_n 0, 1) := by decide +kernel
theorem q_197_30 : js_I 197 30 = some (.invokevirtual 144, 3) := by decide +kernel
theorem q_197_33 : js_I 197 33 = some (.aload_n 0, 1) := by decide +kernel
theorem q_197_34 : js_I 197 34 = some (.invokevirtual 68, 3) := by decide +kernel
theorem q_197_37 : js_I 197 37 = some (.aload_n 0, 1) := by decide +kernel
theorem q_197_38 : js_I 197 38 = some (.bipush 59, 2) := by decide +kernel
theorem q_197_40 : js_I 197 40 = some (.invokevirtual 75, 3) := by decide +kernel
theorem q_197_43 : js_I 197 43 = some (.aload_n 0, 1) := by decide +kernel
theorem q_197_44 : js_I 197 44 = some (.getfield 22, 3) := by decide +kernel
theorem q_197_47 : js_I 197 47 = some (.ifCond .le 4, 3) := by decide +kernel
theorem q_197_50 : js_I 197 50 = some (.return_, 1) := by decide +kernel
theorem q_197_51 : js_I 197 51 = some (.aload_n 0, 1) := by decide +kernel
theorem q_197_52 : js_I 197 52 = some (.getfield 102, 3) := by decide +kernel
theorem q_197_55 : js_I 197 55 = some (.iload_n 2, 1) := by decide +kernel
theorem q_197_56 : js_I 197 56 = some (.aload_n 0, 1) := by decide +kernel
theorem q_197_57 : js_I 197 57 = some (.getfield 138, 3) := by decide +kernel
theorem q_197_60 : js_I 197 60 = some (.iastore, 1) := by decide +kernel
theorem q_197_61 : js_I 197 61 = some (.aload_n 0, 1) := by decide +kernel
theorem q_197_62 : js_I 197 62 = some (.getfield 105, 3) := by decide +kernel
theorem q_197_65 : js_I 197 65 = some (.iload_n 2, 1) := by decide +kernel
theorem q_197_66 : js_I 197 66 = some (.aload_n 0, 1) := by decide +kernel
theorem q_197_67 : js_I 197 67 = some (.getfield 141, 3) := by decide +kernel
theorem q_197_70 : js_I 197 70 = some (.iastore, 1) := by decide +kernel
theorem q_197_71 : js_I 197 71 = some (.aload_n 0, 1) := by decide +kernel
theorem q_197_72 : js_I 197 72 = some (.getfield 108, 3) := by decide +kernel
theorem q_197_75 : js_I 197 75 = some (.iload_n 2, 1) := by decide +kernel
theorem q_197_76 : js_I 197 76 = some (.aload_n 0, 1) := by decide +kernel
theorem q_197_77 : js_I 197 77 = some (.getfield 141, 3) := by decide +kernel
theorem q_197_80 : js_I 197 80 = some (.iastore, 1) := by decide +kernel
theorem q_197_81 : js_I 197 81 = some (.aload_n 0, 1) := by decide +kernel
theorem q_197_82 : js_I 197 82 = some (.getfield 126, 3) := by decide +kernel
theorem q_197_85 : js_I 197 85 = some (.iload_n 2, 1) := by decide +kernel
theorem q_197_86 : js_I 197 86 = some (.aload_n 0, 1) := by decide +kernel
theorem q_197_87 : js_I 197 87 = some (.getfield 141, 3) := by decide +kernel
theorem q_197_90 : js_I 197 90 = some (.iastore, 1) := by decide +kernel
theorem q_197_91 : js_I 197 91 = some (.aload_n 0, 1) := by decide +kernel
theorem q_197_92 : js_I 197 92 = some (.getfield 89, 3) := by decide +kernel
theorem q_197_95 : js_I 197 95 = some (.iload_n 2, 1) := by decide +kernel
theorem q_197_96 : js_I 197 96 = some (.iconst 1, 1) := by decide +kernel
theorem q_197_97 : js_I 197 97 = some (.bastore, 1) := by decide +kernel
theorem q_197_98 : js_I 197 98 = some (.goto 133, 3) := by decide +kernel
theorem q_197_231 : js_I 197 231 = some (.return_, 1) := by decide +kernel
theorem q_197_112 : js_I 197 112 = some (.goto 119, 3) := by decide +kernel
theorem q_197_126 : js_I 197 126 = some (.goto 105, 3) := by decide +kernel
theorem q_197_153 : js_I 197 153 = some (.iconst (-1), 1) := by decide +kernel
theorem q_197_154 : js_I 197 154 = some (.invokevirtual 314, 3) := by decide +kernel
theorem q_197_157 : js_I 197 157 = some (.istore_n 2, 1) := by decide +kernel
theorem q_197_158 : js_I 197 158 = some (.aload_n 0, 1) := by decide +kernel
theorem q_197_159 : js_I 197 159 = some (.iload_n 2, 1) := by decide +kernel
theorem q_197_160 : js_I 197 160 = some (.invokevirtual 317, 3) := by decide +kernel
theorem q_197_163 : js_I 197 163 = some (.aload_n 0, 1) := by decide +kernel
theorem q_197_164 : js_I 197 164 = some (.bipush 58, 2) := by decide +kernel
theorem q_197_166 : js_I 197 166 = some (.invokevirtual 75, 3) := by decide +kernel
theorem q_197_169 : js_I 197 169 = some (.aload_n 0, 1) := by decide +kernel
theorem q_197_170 : js_I 197 170 = some (.invokevirtual 320, 3) := by decide +kernel
theorem q_197_173 : js_I 197 173 = some (.aload_n 0, 1) := by decide +kernel
theorem q_197_174 : js_I 197 174 = some (.getfield 22, 3) := by decide +kernel
theorem q_197_177 : js_I 197 177 = some (.ifCond .ne 8, 3) := by decide +kernel
theorem q_197_180 : js_I 197 180 = some (.aload_n 0, 1) := by decide +kernel
theorem q_197_181 : js_I 197 181 = some (.iload_n 2, 1) := by decide +kernel
theorem q_197_182 : js_I 197 182 = some (.invokevirtual 323, 3) := by decide +kernel
theorem q_197_185 : js_I 197 185 = some (.iload_n 1, 1) := by decide +kernel
theorem q_197_186 : js_I 197 186 = some (.sipush 302, 3) := by decide +kernel
theorem q_197_189 : js_I 197 189 = some (.if_icmp .eq 22, 3) := by decide +kernel
theorem q_197_192 : js_I 197 192 = some (.aload_n 0, 1) := by decide +kernel
theorem q_197_193 : js_I 197 193 = some (.bipush 61, 2) := by decide +kernel
theorem q_197_195 : js_I 197 195 = some (.invokevirtual 75, 3) := by decide +kernel
theorem q_197_198 : js_I 197 198 = some (.aload_n 0, 1) := by decide +kernel
theorem q_197_199 : js_I 197 199 = some (.invokevirtual 144, 3) := by decide +kernel
theorem q_197_202 : js_I 197 202 = some (.aload_n 0, 1) := by decide +kernel
theorem q_197_203 : js_I 197 203 = some (.iload_n 2, 1) := by decide +kernel
theorem q_197_204 : js_I 197 204 = some (.invokevirtual 326, 3) := by decide +kernel
theorem q_197_207 : js_I 197 207 = some (.aload_n 0, 1) := by decide +kernel
theorem q_197_208 : js_I 197 208 = some (.invokevirtual 68, 3) := by decide +kernel
theorem q_197_211 : js_I 197 211 = some (.aload_n 0, 1) := by decide +kernel
theorem q_197_212 : js_I 197 212 = some (.bipush 59, 2) := by decide +kernel
theorem q_197_214 : js_I 197 214 = some (.invokevirtual 75, 3) := by decide +kernel
theorem q_197_217 : js_I 197 217 = some (.aload_n 0, 1) := by decide +kernel
theorem q_197_218 : js_I 197 218 = some (.getfield 22, 3) := by decide +kernel
theorem q_197_221 : js_I 197 221 = some (.ifCond .ne 10, 3) := by decide +kernel
theorem q_197_224 : js_I 197 224 = some (.aload_n 0, 1) := by decide +kernel
theorem q_197_225 : js_I 197 225 = some (.getfield 89, 3) := by decide +kernel
theorem q_197_228 : js_I 197 228 = some (.iload_n 2, 1) := by decide +kernel
theorem q_197_229 : js_I 197 229 = some (.iconst 1, 1) := by decide +kernel
theorem q_197_230 : js_I 197 230 = some (.bastore, 1) := by decide +kernel
theorem q_198_0 : js_I 198 0 = some (.aload_n 0, 1) := by decide +kernel
theorem q_198_1 : js_I 198 1 = some (.getfield 25, 3) := by decide +kernel
theorem q_198_4 : js_I 198 4 = some (.iconst 2, 1) := by decide +kernel
theorem q_198_5 : js_I 198 5 = some (.if_icmp .eq 15, 3) := by decide +kernel
theorem q_198_20 : js_I 198 20 = some (.aload_n 0, 1) := by decide +kernel
theorem q_198_21 : js_I 198 21 = some (.invokevirtual 96, 3) := by decide +kernel
theorem q_198_8 : js_I 198 8 = some (.aload_n 0, 1) := by decide +kernel
theorem q_198_9 : js_I 198 9 = some (.iconst 1, 1) := by decide +kernel
theorem q_198_10 : js_I 198 10 = some (.aload_n 0, 1) := by decide +kernel
theorem q_198_11 : js_I 198 11 = some (.getfield 35, 3) := by decide +kernel
theorem q_198_14 : js_I 198 14 = some (.invokevirtual 65, 3) := by decide +kernel
theorem q_198_17 : js_I 198 17 = some (.goto 19, 3) := by decide +kernel
theorem q_198_24 : js_I 198 24 = some (.ifCond .lt 12, 3) := by decide +kernel
theorem q_198_27 : js_I 198 27 = some (.aload_n 0, 1) := by decide +kernel
theorem q_198_28 : js_I 198 28 = some (.iconst 2, 1) := by decide +kernel
theorem q_198_29 : js_I 198 29 = some (.aload_n 0, 1) := by decide +kernel
theorem q_198_30 : js_I 198 30 = some (.getfield 35, 3) := by decide +kernel
theorem q_198_33 : js_I 198 33 = some (.invokevirtual 65, 3) := by decide +kernel
theorem q_198_36 : js_I 198 36 = some (.iload_n 2, 1) := by decide +kernel
theorem q_198_37 : js_I 198 37 = some (.istore_n 3, 1) := by decide +kernel
theorem q_198_38 : js_I 198 38 = some (.iload_n 3, 1) := by decide +kernel
theorem q_198_39 : js_I 198 39 = some (.ifCond .lt 41, 3) := by decide +kernel
theorem q_198_42 : js_I 198 42 = some (.iload_n 3, 1) := by decide +kernel
theorem q_198_43 : js_I 198 43 = some (.aload_n 0, 1) := by decide +kernel
theorem q_198_44 : js_I 198 44 = some (.getfield 86, 3) := by decide +kernel
theorem q_198_47 : js_I 198 47 = some (.if_icmp .ge 33, 3) := by decide +kernel
theorem q_198_50 : js_I 198 50 = some (.aload_n 0, 1) := by decide +kernel
theorem q_198_51 : js_I 198 51 = some (.getfield 22, 3) := by decide +kernel
theorem q_198_54 : js_I 198 54 = some (.ifCond .ne 26, 3) := by decide +kernel
theorem q_198_57 : js_I 198 57 = some (.aload_n 0, 1) := by decide +kernel
theorem q_198_58 : js_I 198 58 = some (.iload_n 3, 1) := by decide +kernel
theorem q_198_59 : js_I 198 59 = some (.invokevirtual 93, 3) := by decide +kernel
theorem q_198_62 : js_I 198 62 = some (.ifCond .eq 12, 3) := by decide +kernel
theorem q_198_65 : js_I 198 65 = some (.aload_n 0, 1) := by decide +kernel
theorem q_198_66 : js_I 198 66 = some (.iconst 2, 1) := by decide +kernel
theorem q_198_67 : js_I 198 67 = some (.aload_n 0, 1) := by decide +kernel
theorem q_198_68 : js_I 198 68 = some (.getfield 35, 3) := by decide +kernel
theorem q_198_71 : js_I 198 71 = some (.invokevirtual 65, 3) := by decide +kernel
theorem q_198_74 : js_I 198 74 = some (.iinc 3 1, 3) := by decide +kernel
theorem q_198_77 : js_I 198 77 = some (.goto (-39), 3) := by decide +kernel
theorem q_198_80 : js_I 198 80 = some (.aload_n 0, 1) := by decide +kernel
theorem q_198_81 : js_I 198 81 = some (.getfield 22, 3) := by decide +kernel
theorem q_198_84 : js_I 198 84 = some (.ifCond .ne 23, 3) := by decide +kernel
theorem q_198_87 : js_I 198 87 = some (.aload_n 0, 1) := by decide +kernel
theorem q_198_88 : js_I 198 88 = some (.getfield 86, 3) := by decide +kernel
theorem q_198_91 : js_I 198 91 = some (.sipush 400, 3) := by decide +kernel
theorem q_198_94 : js_I 198 94 = some (.if_icmp .ne 13, 3) := by decide +kernel
theorem q_198_97 : js_I 198 97 = some (.aload_n 0, 1) := by decide +kernel
theorem q_198_98 : js_I 198 98 = some (.bipush 10, 2) := by decide +kernel
theorem q_198_100 : js_I 198 100 = some (.aload_n 0, 1) := by decide +kernel
theorem q_198_101 : js_I 198 101 = some (.getfield 35, 3) := by decide +kernel
theorem q_198_104 : js_I 198 104 = some (.invokevirtual 65, 3) := by decide +kernel
theorem q_198_107 : js_I 198 107 = some (.aload_n 0, 1) := by decide +kernel
theorem q_198_108 : js_I 198 108 = some (.getfield 22, 3) := by decide +kernel
theorem q_198_111 : js_I 198 111 = some (.ifCond .le 5, 3) := by decide +kernel
theorem q_198_114 : js_I 198 114 = some (.iconst 0, 1) := by decide +kernel
theorem q_198_115 : js_I 198 115 = some (.ireturn, 1) := by decide +kernel
theorem q_198_116 : js_I 198 116 = some (.aload_n 0, 1) := by decide +kernel
theorem q_198_117 : js_I 198 117 = some (.getfield 86, 3) := by decide +kernel
theorem q_198_120 : js_I 198 120 = some (.istore_n 3, 1) := by decide +kernel
theorem q_198_121 : js_I 198 121 = some (.aload_n 0, 1) := by decide +kernel
theorem q_198_122 : js_I 198 122 = some (.getfield 99, 3) := by decide +kernel
theorem q_198_125 : js_I 198 125 = some (.iload_n 3, 1) := by decide +kernel
theorem q_198_126 : js_I 198 126 = some (.iload_n 1, 1) := by decide +kernel
theorem q_198_127 : js_I 198 127 = some (.iastore, 1) := by decide +kernel
theorem q_198_128 : js_I 198 128 = some (.aload_n 0, 1) := by decide +kernel
theorem q_198_129 : js_I 198 129 = some (.getfield 102, 3) := by decide +kernel
theorem q_198_132 : js_I 198 132 = some (.iload_n 3, 1) := by decide +kernel
theorem q_198_133 : js_I 198 133 = some (.iconst 0, 1) := by decide +kernel
theorem q_198_134 : js_I 198 134 = some (.iastore, 1) := by decide +kernel
theorem q_198_135 : js_I 198 135 = some (.aload_n 0, 1) := by decide +kernel
theorem q_198_136 : js_I 198 136 = some (.getfield 105, 3) := by decide +kernel
theorem q_198_139 : js_I 198 139 = some (.iload_n 3, 1) := by decide +kernel
theorem q_198_140 : js_I 198 140 = some (.iconst 0, 1) := by decide +kernel
theorem q_198_141 : js_I 198 141 = some (.iastore, 1) := by decide +kernel
theorem q_198_142 : js_I 198 142 = some (.aload_n 0, 1) := by decide +kernel
theorem q_198_143 : js_I 198 143 = some (.getfield 108, 3) := by decide +kernel
theorem q_198_146 : js_I 198 146 = some (.iload_n 3, 1) := by decide +kernel
theorem q_198_147 : js_I 198 147 = some (.iconst 0, 1) := by decide +kernel
theorem q_198_148 : js_I 198 148 = some (.iastore, 1) := by decide +kernel
theorem q_198_149 : js_I 198 149 = some (.aload_n 0, 1) := by decide +kernel
theorem q_198_150 : js_I 198 150 = some (.getfield 111, 3) := by decide +kernel
theorem q_198_153 : js_I 198 153 = some (.iload_n 3, 1) := by decide +kernel
theorem q_198_154 : js_I 198 154 = some (.iconst (-1), 1) := by decide +kernel
theorem q_198_155 : js_I 198 155 = some (.iastore, 1) := by decide +kernel
theorem q_198_156 : js_I 198 156 = some (.aload_n 0, 1) := by decide +kernel
theorem q_198_157 : js_I 198 157 = some (.getfield 114, 3) := by decide +kernel
theorem q_198_160 : js_I 198 160 = some (.iload_n 3, 1) := by decide +kernel
theorem q_198_161 : js_I 198 161 = some (.iconst 1, 1) := by decide +kernel
theorem q_198_162 : js_I 198 162 = some (.iastore, 1) := by decide +kernel
theorem q_198_163 : js_I 198 163 = some (.aload_n 0, 1) := by decide +kernel
theorem q_198_164 : js_I 198 164 = some (.getfield 117, 3) := by decide +kernel
theorem q_198_167 : js_I 198 167 = some (.iload_n 3, 1) := by decide +kernel
theorem q_198_168 : js_I 198 168 = some (.iconst 0, 1) := by decide +kernel
theorem q_198_169 : js_I 198 169 = some (.bastore, 1) := by decide +kernel
theorem q_198_170 : js_I 198 170 = some (.aload_n 0, 1) := by decide +kernel
theorem q_198_171 : js_I 198 171 = some (.getfield 120, 3) := by decide +kernel
theorem q_198_174 : js_I 198 174 = some (.iload_n 3, 1) := by decide +kernel
theorem q_198_175 : js_I 198 175 = some (.aload_n 0, 1) := by decide +kernel
theorem q_198_176 : js_I 198 176 = some (.getfield 123, 3) := by decide +kernel
theorem q_198_179 : js_I 198 179 = some (.iastore, 1) := by decide +kernel
theorem q_198_180 : js_I 198 180 = some (.aload_n 0, 1) := by decide +kernel
theorem q_198_181 : js_I 198 181 = some (.getfield 126, 3) := by decide +kernel
theorem q_198_184 : js_I 198 184 = some (.iload_n 3, 1) := by decide +kernel
theorem q_198_185 : js_I 198 185 = some (.iconst 0, 1) := by decide +kernel
theorem q_198_186 : js_I 198 186 = some (.iastore, 1) := by decide +kernel
theorem q_198_187 : js_I 198 187 = some (.aload_n 0, 1) := by decide +kernel
theorem q_198_188 : js_I 198 188 = some (.getfield 129, 3) := by decide +kernel
theorem q_198_191 : js_I 198 191 = some (.iload_n 3, 1) := by decide +kernel
theorem q_198_192 : js_I 198 192 = some (.iconst 0, 1) := by decide +kernel
theorem q_198_193 : js_I 198 193 = some (.iastore, 1) := by decide +kernel
theorem q_198_194 : js_I 198 194 = some (.aload_n 0, 1) := by decide +kernel
theorem q_198_195 : js_I 198 195 = some (.getfield 132, 3) := by decide +kernel
theorem q_198_198 : js_I 198 198 = some (.iload_n 3, 1) := by decide +kernel
theorem q_198_199 : js_I 198 199 = some (.iconst 0, 1) := by decide +kernel
theorem q_198_200 : js_I 198 200 = some (.iastore, 1) := by decide +kernel
theorem q_198_201 : js_I 198 201 = some (.aload_n 0, 1) := by decide +kernel
theorem q_198_202 : js_I 198 202 = some (.getfield 89, 3) := by decide +kernel
theorem q_198_205 : js_I 198 205 = some (.iload_n 3, 1) := by decide +kernel
theorem q_198_206 : js_I 198 206 = some (.iconst 0, 1) := by decide +kernel
theorem q_198_207 : js_I 198 207 = some (.bastore, 1) := by decide +kernel
theorem q_198_208 : js_I 198 208 = some (.aload_n 0, 1) := by decide +kernel
theorem q_198_209 : js_I 198 209 = some (.getfield 79, 3) := by decide +kernel
theorem q_198_212 : js_I 198 212 = some (.iload_n 3, 1) := by decide +kernel
theorem q_198_213 : js_I 198 213 = some (.aload_n 0, 1) := by decide +kernel
theorem q_198_214 : js_I 198 214 = some (.getfield 28, 3) := by decide +kernel
theorem q_198_217 : js_I 198 217 = some (.aload_n 0, 1) := by decide +kernel
theorem q_198_218 : js_I 198 218 = some (.getfield 35, 3) := by decide +kernel
theorem q_198_221 : js_I 198 221 = some (.isub, 1) := by decide +kernel
theorem q_198_222 : js_I 198 222 = some (.iastore, 1) := by decide +kernel
theorem q_198_223 : js_I 198 223 = some (.iconst 0, 1) := by decide +kernel
theorem q_198_224 : js_I 198 224 = some (.istore 4, 2) := by decide +kernel
theorem q_198_226 : js_I 198 226 = some (.iload 4, 2) := by decide +kernel
theorem q_198_228 : js_I 198 228 = some (.aload_n 0, 1) := by decide +kernel
theorem q_198_229 : js_I 198 229 = some (.getfield 79, 3) := by decide +kernel
theorem q_198_232 : js_I 198 232 = some (.iload_n 3, 1) := by decide +kernel
theorem q_198_233 : js_I 198 233 = some (.iaload, 1) := by decide +kernel
theorem q_198_234 : js_I 198 234 = some (.if_icmp .ge 33, 3) := by decide +kernel
theorem q_198_237 : js_I 198 237 = some (.aload_n 0, 1) := by decide +kernel
theorem q_198_238 : js_I 198 238 = some (.getfield 83, 3) := by decide +kernel
theorem q_198_241 : js_I 198 241 = some (.bipush 20, 2) := by decide +kernel
theorem q_198_243 : js_I 198 243 = some (.iload_n 3, 1) := by decide +kernel
theorem q_198_244 : js_I 198 244 = some (.imul, 1) := by decide +kernel
theorem q_198_245 : js_I 198 245 = some (.iload 4, 2) := by decide +kernel
theorem q_198_247 : js_I 198 247 = some (.iadd, 1) := by decide +kernel
theorem q_198_248 : js_I 198 248 = some (.aload_n 0, 1) := by decide +kernel
theorem q_198_249 : js_I 198 249 = some (.getfield 15, 3) := by decide +kernel
theorem q_198_252 : js_I 198 252 = some (.aload_n 0, 1) := by decide +kernel
theorem q_198_253 : js_I 198 253 = some (.getfield 35, 3) := by decide +kernel
theorem q_198_256 : js_I 198 256 = some (.iload 4, 2) := by decide +kernel
theorem q_198_258 : js_I 198 258 = some (.iadd, 1) := by decide +kernel
theorem q_198_259 : js_I 198 259 = some (.baload, 1) := by decide +kernel
theorem q_198_260 : js_I 198 260 = some (.bastore, 1) := by decide +kernel
theorem q_198_261 : js_I 198 261 = some (.iinc 4 1, 3) := by decide +kernel
theorem q_198_264 : js_I 198 264 = some (.goto (-38), 3) := by decide +kernel
theorem q_198_267 : js_I 198 267 = some (.aload_n 0, 1) := by decide +kernel
theorem q_198_268 : js_I 198 268 = some (.dup, 1) := by decide +kernel
theorem q_198_269 : js_I 198 269 = some (.getfield 86, 3) := by decide +kernel
theorem q_198_272 : js_I 198 272 = some (.iconst 1, 1) := by decide +kernel
theorem q_198_273 : js_I 198 273 = some (.iadd, 1) := by decide +kernel
theorem q_198_274 : js_I 198 274 = some (.putfield 86, 3) := by decide +kernel
theorem q_198_277 : js_I 198 277 = some (.aload_n 0, 1) := by decide +kernel
theorem q_198_278 : js_I 198 278 = some (.invokevirtual 68, 3) := by decide +kernel
theorem q_198_281 : js_I 198 281 = some (.iload_n 3, 1) := by decide +kernel
theorem q_198_282 : js_I 198 282 = some (.ireturn, 1) := by decide +kernel
theorem q_199_0 : js_I 199 0 = some (.aload_n 0, 1) := by decide +kernel
theorem q_199_1 : js_I 199 1 = some (.getfield 22, 3) := by decide +kernel
theorem q_199_4 : js_I 199 4 = some (.ifCond .ne 13, 3) := by decide +kernel
theorem q_199_7 : js_I 199 7 = some (.aload_n 0, 1) := by decide +kernel
theorem q_199_8 : js_I 199 8 = some (.iload_n 1, 1) := by decide +kernel
theorem q_199_9 : js_I 199 9 = some (.bipush 16, 2) := by decide +kernel
theorem q_199_11 : js_I 199 11 = some (.iload_n 2, 1) := by decide +kernel
theorem q_199_12 : js_I 199 12 = some (.imul, 1) := by decide +kernel
theorem q_199_13 : js_I 199 13 = some (.iadd, 1) := by decide +kernel
theorem q_199_14 : js_I 199 14 = some (.putfield 22, 3) := by decide +kernel
theorem q_199_17 : js_I 199 17 = some (.aload_n 0, 1) := by decide +kernel
theorem q_199_18 : js_I 199 18 = some (.iconst 0, 1) := by decide +kernel
theorem q_199_19 : js_I 199 19 = some (.putfield 25, 3) := by decide +kernel
theorem q_199_22 : js_I 199 22 = some (.return_, 1) := by decide +kernel
theorem q_200_0 : js_I 200 0 = some (.aload_n 0, 1) := by decide +kernel
theorem q_200_1 : js_I 200 1 = some (.getfield 25, 3) := by decide +kernel
theorem q_200_4 : js_I 200 4 = some (.iconst 2, 1) := by decide +kernel
theorem q_200_5 : js_I 200 5 = some (.if_icmp .eq 5, 3) := by decide +kernel
theorem q_200_10 : js_I 200 10 = some (.iconst 0, 1) := by decide +kernel
theorem q_200_11 : js_I 200 11 = some (.istore_n 1, 1) := by decide +kernel
theorem q_200_8 : js_I 200 8 = some (.iconst (-1), 1) := by decide +kernel
theorem q_200_9 : js_I 200 9 = some (.ireturn, 1) := by decide +kernel
theorem q_200_12 : js_I 200 12 = some (.iload_n 1, 1) := by decide +kernel
theorem q_200_13 : js_I 200 13 = some (.aload_n 0, 1) := by decide +kernel
theorem q_200_14 : js_I 200 14 = some (.getfield 86, 3) := by decide +kernel
theorem q_200_17 : js_I 200 17 = some (.if_icmp .ge 28, 3) := by decide +kernel
theorem q_200_20 : js_I 200 20 = some (.aload_n 0, 1) := by decide +kernel
theorem q_200_21 : js_I 200 21 = some (.getfield 89, 3) := by decide +kernel
theorem q_200_24 : js_I 200 24 = some (.iload_n 1, 1) := by decide +kernel
theorem q_200_25 : js_I 200 25 = some (.baload, 1) := by decide +kernel
theorem q_200_26 : js_I 200 26 = some (.ifCond .eq 13, 3) := by decide +kernel
theorem q_200_29 : js_I 200 29 = some (.aload_n 0, 1) := by decide +kernel
theorem q_200_30 : js_I 200 30 = some (.iload_n 1, 1) := by decide +kernel
theorem q_200_31 : js_I 200 31 = some (.invokevirtual 93, 3) := by decide +kernel
theorem q_200_45 : js_I 200 45 = some (.iconst (-1), 1) := by decide +kernel
theorem q_200_46 : js_I 200 46 = some (.ireturn, 1) := by decide +kernel
theorem q_200_34 : js_I 200 34 = some (.ifCond .eq 5, 3) := by decide +kernel
theorem q_200_37 : js_I 200 37 = some (.iload_n 1, 1) := by decide +kernel
theorem q_200_38 : js_I 200 38 = some (.ireturn, 1) := by decide +kernel
theorem q_200_39 : js_I 200 39 = some (.iinc 1 1, 3) := by decide +kernel
theorem q_200_42 : js_I 200 42 = some (.goto (-30), 3) := by decide +kernel
theorem q_201_0 : js_I 201 0 = some (.aload_n 0, 1) := by decide +kernel
theorem q_201_1 : js_I 201 1 = some (.getfield 79, 3) := by decide +kernel
theorem q_201_4 : js_I 201 4 = some (.iload_n 1, 1) := by decide +kernel
theorem q_201_5 : js_I 201 5 = some (.iaload, 1) := by decide +kernel
theorem q_201_6 : js_I 201 6 = some (.aload_n 0, 1) := by decide +kernel
theorem q_201_7 : js_I 201 7 = some (.getfield 28, 3) := by decide +kernel
theorem q_201_10 : js_I 201 10 = some (.aload_n 0, 1) := by decide +kernel
theorem q_201_11 : js_I 201 11 = some (.getfield 35, 3) := by decide +kernel
theorem q_201_14 : js_I 201 14 = some (.isub, 1) := by decide +kernel
theorem q_201_15 : js_I 201 15 = some (.if_icmp .ne 7, 3) := by decide +kernel
theorem q_201_18 : js_I 201 18 = some (.iconst 1, 1) := by decide +kernel
theorem q_201_19 : js_I 201 19 = some (.goto 4, 3) := by decide +kernel
theorem q_201_22 : js_I 201 22 = some (.iconst 0, 1) := by decide +kernel
theorem q_201_23 : js_I 201 23 = some (.istore_n 2, 1) := by decide +kernel
theorem q_201_24 : js_I 201 24 = some (.iconst 0, 1) := by decide +kernel
theorem q_201_25 : js_I 201 25 = some (.istore_n 3, 1) := by decide +kernel
theorem q_201_26 : js_I 201 26 = some (.iload_n 3, 1) := by decide +kernel
theorem q_201_27 : js_I 201 27 = some (.aload_n 0, 1) := by decide +kernel
theorem q_201_28 : js_I 201 28 = some (.getfield 79, 3) := by decide +kernel
theorem q_201_31 : js_I 201 31 = some (.iload_n 1, 1) := by decide +kernel
theorem q_201_32 : js_I 201 32 = some (.iaload, 1) := by decide +kernel
theorem q_201_33 : js_I 201 33 = some (.if_icmp .ge 44, 3) := by decide +kernel
theorem q_201_36 : js_I 201 36 = some (.iload_n 2, 1) := by decide +kernel
theorem q_201_37 : js_I 201 37 = some (.ifCond .eq 40, 3) := by decide +kernel
theorem q_201_77 : js_I 201 77 = some (.iload_n 2, 1) := by decide +kernel
theorem q_201_78 : js_I 201 78 = some (.ireturn, 1) := by decide +kernel
theorem q_201_40 : js_I 201 40 = some (.aload_n 0, 1) := by decide +kernel
theorem q_201_41 : js_I 201 41 = some (.getfield 83, 3) := by decide +kernel
theorem q_201_44 : js_I 201 44 = some (.bipush 20, 2) := by decide +kernel
theorem q_201_46 : js_I 201 46 = some (.iload_n 1, 1) := by decide +kernel
theorem q_201_47 : js_I 201 47 = some (.imul, 1) := by decide +kernel
theorem q_201_48 : js_I 201 48 = some (.iload_n 3, 1) := by decide +kernel
theorem q_201_49 : js_I 201 49 = some (.iadd, 1) := by decide +kernel
theorem q_201_50 : js_I 201 50 = some (.baload, 1) := by decide +kernel
theorem q_201_51 : js_I 201 51 = some (.aload_n 0, 1) := by decide +kernel
theorem q_201_52 : js_I 201 52 = some (.getfield 15, 3) := by decide +kernel
theorem q_201_55 : js_I 201 55 = some (.aload_n 0, 1) := by decide +kernel
theorem q_201_56 : js_I 201 56 = some (.getfield 35, 3) := by decide +kernel
theorem q_201_59 : js_I 201 59 = some (.iload_n 3, 1) := by decide +kernel
theorem q_201_60 : js_I 201 60 = some (.iadd, 1) := by decide +kernel
theorem q_201_61 : js_I 201 61 = some (.baload, 1) := by decide +kernel
theorem q_201_62 : js_I 201 62 = some (.if_icmp .ne 7, 3) := by decide +kernel
theorem q_201_65 : js_I 201 65 = some (.iconst 1, 1) := by decide +kernel
theorem q_201_66 : js_I 201 66 = some (.goto 4, 3) := by decide +kernel
theorem q_201_69 : js_I 201 69 = some (.iconst 0, 1) := by decide +kernel
theorem q_201_70 : js_I 201 70 = some (.istore_n 2, 1) := by decide +kernel
theorem q_201_71 : js_I 201 71 = some (.iinc 3 1, 3) := by decide +kernel
theorem q_201_74 : js_I 201 74 = some (.goto (-48), 3) := by decide +kernel
theorem q_202_0 : js_I 202 0 = some (.aload_n 0, 1) := by decide +kernel
theorem q_202_1 : js_I 202 1 = some (.getfield 25, 3) := by decide +kernel
theorem q_202_4 : js_I 202 4 = some (.iload_n 1, 1) := by decide +kernel
theorem q_202_5 : js_I 202 5 = some (.if_icmp .eq 12, 3) := by decide +kernel
theorem q_202_8 : js_I 202 8 = some (.aload_n 0, 1) := by decide +kernel
theorem q_202_9 : js_I 202 9 = some (.iconst 1, 1) := by decide +kernel
theorem q_202_10 : js_I 202 10 = some (.aload_n 0, 1) := by decide +kernel
theorem q_202_11 : js_I 202 11 = some (.getfield 35, 3) := by decide +kernel
theorem q_202_14 : js_I 202 14 = some (.invokevirtual 65, 3) := by decide +kernel
theorem q_202_17 : js_I 202 17 = some (.aload_n 0, 1) := by decide +kernel
theorem q_202_18 : js_I 202 18 = some (.invokevirtual 68, 3) := by decide +kernel
theorem q_202_21 : js_I 202 21 = some (.return_, 1) := by decide +kernel
theorem qf_12_62 : ip_lk (vt_FL.getD 12 []) 62 = some (12, 3) := by decide +kernel
theorem qf_12_138 : ip_lk (vt_FL.getD 12 []) 138 = some (12, 27) := by decide +kernel
theorem qf_12_141 : ip_lk (vt_FL.getD 12 []) 141 = some (12, 28) := by decide +kernel
theorem qf_12_89 : ip_lk (vt_FL.getD 12 []) 89 = some (12, 25) := by decide +kernel
theorem qf_12_132 : ip_lk (vt_FL.getD 12 []) 132 = some (12, 22) := by decide +kernel
theorem qm_12_314 : ip_lk (vt_ML.getD 12 []) 314 = some (198, 2, 1, 12) := by decide +kernel
theorem qm_12_144 : ip_lk (vt_ML.getD 12 []) 144 = some (203, 0, 1, 12) := by decide +kernel
theorem qm_12_474 : ip_lk (vt_ML.getD 12 []) 474 = some (204, 0, 1, 12) := by decide +kernel
theorem qm_12_477 : ip_lk (vt_ML.getD 12 []) 477 = some (206, 0, 1, 12) := by decide +kernel
theorem qm_12_317 : ip_lk (vt_ML.getD 12 []) 317 = some (215, 1, 1, 12) := by decide +kernel
theorem qm_12_320 : ip_lk (vt_ML.getD 12 []) 320 = some (208, 0, 1, 12) := by decide +kernel
theorem qm_12_323 : ip_lk (vt_ML.getD 12 []) 323 = some (210, 1, 1, 12) := by decide +kernel
theorem qm_12_326 : ip_lk (vt_ML.getD 12 []) 326 = some (216, 1, 1, 12) := by decide +kernel
theorem qm_12_96 : ip_lk (vt_ML.getD 12 []) 96 = some (200, 0, 1, 12) := by decide +kernel
theorem qm_12_93 : ip_lk (vt_ML.getD 12 []) 93 = some (201, 1, 1, 12) := by decide +kernel
theorem ww_106 : js_w 106 = 106 := by decide +kernel
theorem ww_46 : js_w 46 = 46 := by decide +kernel
theorem ww_60 : js_w 60 = 60 := by decide +kernel
theorem ww_61 : js_w 61 = 61 := by decide +kernel
theorem ww_62 : js_w 62 = 62 := by decide +kernel
theorem ww_33 : js_w 33 = 33 := by decide +kernel
theorem ww_38 : js_w 38 = 38 := by decide +kernel
theorem ww_124 : js_w 124 = 124 := by decide +kernel
theorem ww_40 : js_w 40 = 40 := by decide +kernel
theorem ww_41 : js_w 41 = 41 := by decide +kernel
theorem ww_123 : js_w 123 = 123 := by decide +kernel
theorem ww_125 : js_w 125 = 125 := by decide +kernel
theorem ww_91 : js_w 91 = 91 := by decide +kernel
theorem ww_93 : js_w 93 = 93 := by decide +kernel
theorem ww_44 : js_w 44 = 44 := by decide +kernel
theorem ww_59 : js_w 59 = 59 := by decide +kernel
theorem ww_58 : js_w 58 = 58 := by decide +kernel
theorem ww_63 : js_w 63 = 63 := by decide +kernel
theorem ww_43 : js_w 43 = 43 := by decide +kernel
theorem ww_45 : js_w 45 = 45 := by decide +kernel
theorem ww_42 : js_w 42 = 42 := by decide +kernel
theorem ww_37 : js_w 37 = 37 := by decide +kernel
theorem ww_400 : js_w 400 = 400 := by decide +kernel
-- 195: VitalTwinModel.word ()I
theorem b_195_0 {E : js_E} {d : Nat} {σ : js_S} : js_J E d 195 0 [(2, 83), (9, 0), (9, 0), (9, 0), (9, 0), (9, 0)] [] σ = js_J E d 195 4 [(2, 83), (0, 0), (0, 0), (9, 0), (9, 0), (9, 0)] [] σ :=
  (j_iconst q_195_0).trans <| (j_istore_n (l2 := [(2, 83), (0, 0), (9, 0), (9, 0), (9, 0), (9, 0)]) q_195_1 rfl (Nat.le_of_ble_eq_true rfl)).trans <| (j_iconst q_195_2).trans <| (j_istore_n (l2 := [(2, 83), (0, 0), (0, 0), (9, 0), (9, 0), (9, 0)]) q_195_3 rfl (Nat.le_of_ble_eq_true rfl)).trans <| rfl
theorem b_195_4 {E : js_E} {d : Nat} {σ : js_S} {x1 x2 : Int} {ux3 ux4 ux5 : js_v} : js_J E d 195 4 [(2, 83), (0, x1), (0, x2), ux3, ux4, ux5] [] σ = (if js_w x2 < 106 then js_J E d 195 15 [(2, 83), (0, x1), (0, x2), (0, 0), ux4, ux5] [] σ else js_r E (0, 2) σ) :=
  (j_iload_n q_195_4 rfl).trans <| (j_aload_n q_195_5 rfl).trans <| (j_get (ji := 3) (v := (2, 85)) q_195_6 (js_Fo qy_195 qf_12_62) js_o83 rfl rfl rfl rfl).trans <| (j_alen q_195_9 js_o85 (by decide) (by decide)).trans <| (j_cmpgeB (t := 128) q_195_10 rfl ww_106).trans (js_ite ((j_iconst q_195_13).trans <| (j_istore_n (l2 := [(2, 83), (0, x1), (0, x2), (0, 0), ux4, ux5]) q_195_14 rfl (Nat.le_of_ble_eq_true rfl)).trans <| rfl) ((j_iconst q_195_128).trans <| j_ireturn q_195_129 qr_195))
theorem b_195_15 {E : js_E} {d : Nat} {σ : js_S} {x1 x2 x3 : Int} {ux4 ux5 : js_v} : js_J E d 195 15 [(2, 83), (0, x1), (0, x2), (0, x3), ux4, ux5] [] σ = (if 0 ≤ js_w (x2 + x3) ∧ js_w (x2 + x3) < 106 then (if js_w ((js_c85.getD (js_w (x2 + x3)).toNat (0, 0)).2) = 32 then (if js_w x3 = js_w ((σ 83 7) - (σ 83 6)) then js_J E d 195 52 [(2, 83), (0, x1), (0, x2), (0, x3), ux4, ux5] [(0, 1)] σ else js_J E d 195 52 [(2, 83), (0, x1), (0, x2), (0, x3), ux4, ux5] [(0, 0)] σ) else js_J E d 195 15 [(2, 83), (0, x1), (0, x2), (0, x3 + 1), ux4, ux5] [] σ) else none) :=
  (j_aload_n q_195_15 rfl).trans <| (j_get (ji := 3) (v := (2, 85)) q_195_16 (js_Fo qy_195 qf_12_62) js_o83 rfl rfl rfl rfl).trans <| (j_iload_n q_195_19 rfl).trans <| (j_iload_n q_195_20 rfl).trans <| (j_iadd q_195_21).trans <| (j_caload q_195_22 js_o85).trans <| js_itp fun g0 => (j_bi q_195_23 rfl).trans <| (j_cmpeqB (t := 34) q_195_25 rfl ww_32).trans (js_ite ((j_iload_n q_195_34 rfl).trans <| (j_aload_n q_195_35 rfl).trans <| (j_get (ji := 7) (v := (0, σ 83 7)) q_195_36 (js_Fo qy_195 qf_12_28) js_o83 rfl rfl rfl rfl).trans <| (j_aload_n q_195_39 rfl).trans <| (j_get (ji := 6) (v := (0, σ 83 6)) q_195_40 (js_Fo qy_195 qf_12_35) js_o83 rfl rfl rfl rfl).trans <| (j_isub q_195_43).trans <| (j_cmpne (t := 51) q_195_44 rfl).trans (js_ite ((j_iconst q_195_47).trans <| (j_goto (t := 52) q_195_48 rfl).trans <| rfl) ((j_iconst q_195_51).trans <| rfl))) ((j_iinc (l2 := [(2, 83), (0, x1), (0, x2), (0, x3 + 1), ux4, ux5]) q_195_28 rfl rfl).trans <| (j_goto (t := 15) q_195_31 rfl).trans <| rfl))
theorem b_195_52 {E : js_E} {d : Nat} {σ : js_S} {x1 x2 x3 z0 : Int} {ux4 ux5 : js_v} : js_J E d 195 52 [(2, 83), (0, x1), (0, x2), (0, x3), ux4, ux5] [(0, z0)] σ = js_J E d 195 57 [(2, 83), (0, x1), (0, x2), (0, x3), (0, z0), (0, 0)] [] σ :=
  (j_istore (l2 := [(2, 83), (0, x1), (0, x2), (0, x3), (0, z0), ux5]) q_195_52 rfl (Nat.le_of_ble_eq_true rfl)).trans <| (j_iconst q_195_54).trans <| (j_istore (l2 := [(2, 83), (0, x1), (0, x2), (0, x3), (0, z0), (0, 0)]) q_195_55 rfl (Nat.le_of_ble_eq_true rfl)).trans <| rfl
theorem b_195_57 {E : js_E} {d : Nat} {σ : js_S} {x1 x2 x3 x4 x5 : Int} : js_J E d 195 57 [(2, 83), (0, x1), (0, x2), (0, x3), (0, x4), (0, x5)] [] σ = (if js_w x5 < js_w x3 then (if js_w x4 = 0 then js_J E d 195 105 [(2, 83), (0, x1), (0, x2), (0, x3), (0, x4), (0, x5)] [] σ else (if 0 ≤ js_w (x2 + x5) ∧ js_w (x2 + x5) < 106 then (if 0 ≤ js_w ((σ 83 6) + x5) ∧ js_w ((σ 83 6) + x5) < 65536 then (if js_w ((js_c85.getD (js_w (x2 + x5)).toNat (0, 0)).2) = js_w (σ 84 (js_w ((σ 83 6) + x5))) then js_J E d 195 97 [(2, 83), (0, x1), (0, x2), (0, x3), (0, x4), (0, x5)] [(0, 1)] σ else js_J E d 195 97 [(2, 83), (0, x1), (0, x2), (0, x3), (0, x4), (0, x5)] [(0, 0)] σ) else none) else none)) else js_J E d 195 105 [(2, 83), (0, x1), (0, x2), (0, x3), (0, x4), (0, x5)] [] σ) :=
  (j_iload q_195_57 rfl).trans <| (j_iload_n q_195_59 rfl).trans <| (j_cmpge (t := 105) q_195_60 rfl).trans (js_ite ((j_iload q_195_63 rfl).trans <| (j_ifeq (t := 105) q_195_65 rfl).trans (js_ite (rfl) ((j_aload_n q_195_68 rfl).trans <| (j_get (ji := 3) (v := (2, 85)) q_195_69 (js_Fo qy_195 qf_12_62) js_o83 rfl rfl rfl rfl).trans <| (j_iload_n q_195_72 rfl).trans <| (j_iload q_195_73 rfl).trans <| (j_iadd q_195_75).trans <| (j_caload q_195_76 js_o85).trans <| js_itp fun g0 => (j_aload_n q_195_77 rfl).trans <| (j_get (ji := 1) (v := (2, 84)) q_195_78 (js_Fo qy_195 qf_12_15) js_o83 rfl rfl rfl rfl).trans <| (j_aload_n q_195_81 rfl).trans <| (j_get (ji := 6) (v := (0, σ 83 6)) q_195_82 (js_Fo qy_195 qf_12_35) js_o83 rfl rfl rfl rfl).trans <| (j_iload q_195_85 rfl).trans <| (j_iadd q_195_87).trans <| (j_baload q_195_88 js_o84).trans <| js_itp fun g1 => (j_cmpne (t := 96) q_195_89 rfl).trans (js_ite ((j_iconst q_195_92).trans <| (j_goto (t := 97) q_195_93 rfl).trans <| rfl) ((j_iconst q_195_96).trans <| rfl))))) (rfl))
theorem b_195_97 {E : js_E} {d : Nat} {σ : js_S} {x1 x2 x3 x4 x5 z0 : Int} : js_J E d 195 97 [(2, 83), (0, x1), (0, x2), (0, x3), (0, x4), (0, x5)] [(0, z0)] σ = js_J E d 195 57 [(2, 83), (0, x1), (0, x2), (0, x3), (0, z0), (0, x5 + 1)] [] σ :=
  (j_istore (l2 := [(2, 83), (0, x1), (0, x2), (0, x3), (0, z0), (0, x5)]) q_195_97 rfl (Nat.le_of_ble_eq_true rfl)).trans <| (j_iinc (l2 := [(2, 83), (0, x1), (0, x2), (0, x3), (0, z0), (0, x5 + 1)]) q_195_99 rfl rfl).trans <| (j_goto (t := 57) q_195_102 rfl).trans <| rfl
theorem b_195_105 {E : js_E} {d : Nat} {σ : js_S} {x1 x2 x3 x4 x5 : Int} : js_J E d 195 105 [(2, 83), (0, x1), (0, x2), (0, x3), (0, x4), (0, x5)] [] σ = (if js_w x4 = 0 then js_J E d 195 4 [(2, 83), (0, x1 + 1), (0, x2 + (x3 + 1)), (0, x3), (0, x4), (0, x5)] [] σ else js_r E (0, 300 + x1) σ) :=
  (j_iload q_195_105 rfl).trans <| (j_ifeq (t := 116) q_195_107 rfl).trans (js_ite ((j_iinc (l2 := [(2, 83), (0, x1 + 1), (0, x2), (0, x3), (0, x4), (0, x5)]) q_195_116 rfl rfl).trans <| (j_iload_n q_195_119 rfl).trans <| (j_iload_n q_195_120 rfl).trans <| (j_iconst q_195_121).trans <| (j_iadd q_195_122).trans <| (j_iadd q_195_123).trans <| (j_istore_n (l2 := [(2, 83), (0, x1 + 1), (0, x2 + (x3 + 1)), (0, x3), (0, x4), (0, x5)]) q_195_124 rfl (Nat.le_of_ble_eq_true rfl)).trans <| (j_goto (t := 4) q_195_125 rfl).trans <| rfl) ((j_si q_195_110 rfl).trans <| (j_iload_n q_195_113 rfl).trans <| (j_iadd q_195_114).trans <| j_ireturn q_195_115 qr_195))
-- 196: VitalTwinModel.sign (II)V
theorem b_196_0 {E : js_E} {d : Nat} {σ : js_S} {x1 x2 : Int} : js_J E d 196 0 [(2, 83), (0, x1), (0, x2), (9, 0)] [] σ = (if js_w x1 = 46 then (if js_w x2 = 46 then js_J E d 196 138 [(2, 83), (0, x1), (0, x2), (9, 0)] [(0, 200), (2, 83)] (js_up σ 83 7 ((σ 83 6) + 2)) else js_J E d 196 29 [(2, 83), (0, x1), (0, x2), (9, 0)] [(2, 83)] (js_up σ 83 7 ((σ 83 6) + 2))) else js_J E d 196 29 [(2, 83), (0, x1), (0, x2), (9, 0)] [(2, 83)] (js_up σ 83 7 ((σ 83 6) + 2))) :=
  (j_aload_n q_196_0 rfl).trans <| (j_aload_n q_196_1 rfl).trans <| (j_get (ji := 6) (v := (0, σ 83 6)) q_196_2 (js_Fo qy_196 qf_12_35) js_o83 rfl rfl rfl rfl).trans <| (j_iconst q_196_5).trans <| (j_iadd q_196_6).trans <| (j_putI (ji := 7) q_196_7 (js_Fo qy_196 qf_12_28) rfl js_o83 rfl rfl rfl).trans <| (j_aload_n q_196_10 rfl).trans <| (j_iload_n q_196_11 rfl).trans <| (j_bi q_196_12 rfl).trans <| (j_cmpneB (t := 29) q_196_14 rfl ww_46).trans (js_ite ((j_iload_n q_196_17 rfl).trans <| (j_bi q_196_18 rfl).trans <| (j_cmpneB (t := 29) q_196_20 rfl ww_46).trans (js_ite ((j_si q_196_23 rfl).trans <| (j_goto (t := 138) q_196_26 rfl).trans <| rfl) (rfl))) (rfl))
theorem b_196_29 {E : js_E} {d : Nat} {σ : js_S} {x1 x2 : Int} : js_J E d 196 29 [(2, 83), (0, x1), (0, x2), (9, 0)] [(2, 83)] σ = (if js_w x1 = 60 then (if js_w x2 = 61 then js_J E d 196 138 [(2, 83), (0, x1), (0, x2), (9, 0)] [(0, 201), (2, 83)] σ else js_J E d 196 47 [(2, 83), (0, x1), (0, x2), (9, 0)] [(2, 83)] σ) else js_J E d 196 47 [(2, 83), (0, x1), (0, x2), (9, 0)] [(2, 83)] σ) :=
  (j_iload_n q_196_29 rfl).trans <| (j_bi q_196_30 rfl).trans <| (j_cmpneB (t := 47) q_196_32 rfl ww_60).trans (js_ite ((j_iload_n q_196_35 rfl).trans <| (j_bi q_196_36 rfl).trans <| (j_cmpneB (t := 47) q_196_38 rfl ww_61).trans (js_ite ((j_si q_196_41 rfl).trans <| (j_goto (t := 138) q_196_44 rfl).trans <| rfl) (rfl))) (rfl))
theorem b_196_47 {E : js_E} {d : Nat} {σ : js_S} {x1 x2 : Int} : js_J E d 196 47 [(2, 83), (0, x1), (0, x2), (9, 0)] [(2, 83)] σ = (if js_w x1 = 62 then (if js_w x2 = 61 then js_J E d 196 138 [(2, 83), (0, x1), (0, x2), (9, 0)] [(0, 202), (2, 83)] σ else js_J E d 196 65 [(2, 83), (0, x1), (0, x2), (9, 0)] [(2, 83)] σ) else js_J E d 196 65 [(2, 83), (0, x1), (0, x2), (9, 0)] [(2, 83)] σ) :=
  (j_iload_n q_196_47 rfl).trans <| (j_bi q_196_48 rfl).trans <| (j_cmpneB (t := 65) q_196_50 rfl ww_62).trans (js_ite ((j_iload_n q_196_53 rfl).trans <| (j_bi q_196_54 rfl).trans <| (j_cmpneB (t := 65) q_196_56 rfl ww_61).trans (js_ite ((j_si q_196_59 rfl).trans <| (j_goto (t := 138) q_196_62 rfl).trans <| rfl) (rfl))) (rfl))
theorem b_196_65 {E : js_E} {d : Nat} {σ : js_S} {x1 x2 : Int} : js_J E d 196 65 [(2, 83), (0, x1), (0, x2), (9, 0)] [(2, 83)] σ = (if js_w x1 = 61 then (if js_w x2 = 61 then js_J E d 196 138 [(2, 83), (0, x1), (0, x2), (9, 0)] [(0, 203), (2, 83)] σ else js_J E d 196 83 [(2, 83), (0, x1), (0, x2), (9, 0)] [(2, 83)] σ) else js_J E d 196 83 [(2, 83), (0, x1), (0, x2), (9, 0)] [(2, 83)] σ) :=
  (j_iload_n q_196_65 rfl).trans <| (j_bi q_196_66 rfl).trans <| (j_cmpneB (t := 83) q_196_68 rfl ww_61).trans (js_ite ((j_iload_n q_196_71 rfl).trans <| (j_bi q_196_72 rfl).trans <| (j_cmpneB (t := 83) q_196_74 rfl ww_61).trans (js_ite ((j_si q_196_77 rfl).trans <| (j_goto (t := 138) q_196_80 rfl).trans <| rfl) (rfl))) (rfl))
theorem b_196_83 {E : js_E} {d : Nat} {σ : js_S} {x1 x2 : Int} : js_J E d 196 83 [(2, 83), (0, x1), (0, x2), (9, 0)] [(2, 83)] σ = (if js_w x1 = 33 then (if js_w x2 = 61 then js_J E d 196 138 [(2, 83), (0, x1), (0, x2), (9, 0)] [(0, 204), (2, 83)] σ else js_J E d 196 101 [(2, 83), (0, x1), (0, x2), (9, 0)] [(2, 83)] σ) else js_J E d 196 101 [(2, 83), (0, x1), (0, x2), (9, 0)] [(2, 83)] σ) :=
  (j_iload_n q_196_83 rfl).trans <| (j_bi q_196_84 rfl).trans <| (j_cmpneB (t := 101) q_196_86 rfl ww_33).trans (js_ite ((j_iload_n q_196_89 rfl).trans <| (j_bi q_196_90 rfl).trans <| (j_cmpneB (t := 101) q_196_92 rfl ww_61).trans (js_ite ((j_si q_196_95 rfl).trans <| (j_goto (t := 138) q_196_98 rfl).trans <| rfl) (rfl))) (rfl))
theorem b_196_101 {E : js_E} {d : Nat} {σ : js_S} {x1 x2 : Int} : js_J E d 196 101 [(2, 83), (0, x1), (0, x2), (9, 0)] [(2, 83)] σ = (if js_w x1 = 38 then (if js_w x2 = 38 then js_J E d 196 138 [(2, 83), (0, x1), (0, x2), (9, 0)] [(0, 205), (2, 83)] σ else js_J E d 196 119 [(2, 83), (0, x1), (0, x2), (9, 0)] [(2, 83)] σ) else js_J E d 196 119 [(2, 83), (0, x1), (0, x2), (9, 0)] [(2, 83)] σ) :=
  (j_iload_n q_196_101 rfl).trans <| (j_bi q_196_102 rfl).trans <| (j_cmpneB (t := 119) q_196_104 rfl ww_38).trans (js_ite ((j_iload_n q_196_107 rfl).trans <| (j_bi q_196_108 rfl).trans <| (j_cmpneB (t := 119) q_196_110 rfl ww_38).trans (js_ite ((j_si q_196_113 rfl).trans <| (j_goto (t := 138) q_196_116 rfl).trans <| rfl) (rfl))) (rfl))
theorem b_196_119 {E : js_E} {d : Nat} {σ : js_S} {x1 x2 : Int} : js_J E d 196 119 [(2, 83), (0, x1), (0, x2), (9, 0)] [(2, 83)] σ = (if js_w x1 = 124 then (if js_w x2 = 124 then js_J E d 196 138 [(2, 83), (0, x1), (0, x2), (9, 0)] [(0, 206), (2, 83)] σ else js_J E d 196 137 [(2, 83), (0, x1), (0, x2), (9, 0)] [(2, 83)] σ) else js_J E d 196 137 [(2, 83), (0, x1), (0, x2), (9, 0)] [(2, 83)] σ) :=
  (j_iload_n q_196_119 rfl).trans <| (j_bi q_196_120 rfl).trans <| (j_cmpneB (t := 137) q_196_122 rfl ww_124).trans (js_ite ((j_iload_n q_196_125 rfl).trans <| (j_bi q_196_126 rfl).trans <| (j_cmpneB (t := 137) q_196_128 rfl ww_124).trans (js_ite ((j_si q_196_131 rfl).trans <| (j_goto (t := 138) q_196_134 rfl).trans <| rfl) (rfl))) (rfl))
theorem b_196_137 {E : js_E} {d : Nat} {σ : js_S} {x1 x2 : Int} : js_J E d 196 137 [(2, 83), (0, x1), (0, x2), (9, 0)] [(2, 83)] σ = js_J E d 196 138 [(2, 83), (0, x1), (0, x2), (9, 0)] [(0, 0), (2, 83)] σ :=
  (j_iconst q_196_137).trans <| rfl
theorem b_196_138 {E : js_E} {d : Nat} {σ : js_S} {x1 x2 z1 : Int} : js_J E d 196 138 [(2, 83), (0, x1), (0, x2), (9, 0)] [(0, z1), (2, 83)] σ = (if js_w z1 = 0 then (if js_w x1 = 40 then js_J E d 196 273 [(2, 83), (0, x1), (0, x2), (9, 0)] [] (js_up (js_up σ 83 5 z1) 83 7 ((σ 83 6) + 1)) else (if js_w x1 = 41 then js_J E d 196 273 [(2, 83), (0, x1), (0, x2), (9, 0)] [] (js_up (js_up σ 83 5 z1) 83 7 ((σ 83 6) + 1)) else (if js_w x1 = 123 then js_J E d 196 273 [(2, 83), (0, x1), (0, x2), (9, 0)] [] (js_up (js_up σ 83 5 z1) 83 7 ((σ 83 6) + 1)) else (if js_w x1 = 125 then js_J E d 196 273 [(2, 83), (0, x1), (0, x2), (9, 0)] [] (js_up (js_up σ 83 5 z1) 83 7 ((σ 83 6) + 1)) else (if js_w x1 = 91 then js_J E d 196 273 [(2, 83), (0, x1), (0, x2), (9, 0)] [] (js_up (js_up σ 83 5 z1) 83 7 ((σ 83 6) + 1)) else (if js_w x1 = 93 then js_J E d 196 273 [(2, 83), (0, x1), (0, x2), (9, 0)] [] (js_up (js_up σ 83 5 z1) 83 7 ((σ 83 6) + 1)) else (if js_w x1 = 44 then js_J E d 196 273 [(2, 83), (0, x1), (0, x2), (9, 0)] [] (js_up (js_up σ 83 5 z1) 83 7 ((σ 83 6) + 1)) else (if js_w x1 = 59 then js_J E d 196 273 [(2, 83), (0, x1), (0, x2), (9, 0)] [] (js_up (js_up σ 83 5 z1) 83 7 ((σ 83 6) + 1)) else (if js_w x1 = 58 then js_J E d 196 273 [(2, 83), (0, x1), (0, x2), (9, 0)] [] (js_up (js_up σ 83 5 z1) 83 7 ((σ 83 6) + 1)) else (if js_w x1 = 63 then js_J E d 196 273 [(2, 83), (0, x1), (0, x2), (9, 0)] [] (js_up (js_up σ 83 5 z1) 83 7 ((σ 83 6) + 1)) else (if js_w x1 = 61 then js_J E d 196 273 [(2, 83), (0, x1), (0, x2), (9, 0)] [] (js_up (js_up σ 83 5 z1) 83 7 ((σ 83 6) + 1)) else (if js_w x1 = 43 then js_J E d 196 273 [(2, 83), (0, x1), (0, x2), (9, 0)] [] (js_up (js_up σ 83 5 z1) 83 7 ((σ 83 6) + 1)) else (if js_w x1 = 45 then js_J E d 196 273 [(2, 83), (0, x1), (0, x2), (9, 0)] [] (js_up (js_up σ 83 5 z1) 83 7 ((σ 83 6) + 1)) else (if js_w x1 = 42 then js_J E d 196 273 [(2, 83), (0, x1), (0, x2), (9, 0)] [] (js_up (js_up σ 83 5 z1) 83 7 ((σ 83 6) + 1)) else (if js_w x1 = 47 then js_J E d 196 273 [(2, 83), (0, x1), (0, x2), (9, 0)] [] (js_up (js_up σ 83 5 z1) 83 7 ((σ 83 6) + 1)) else (if js_w x1 = 37 then js_J E d 196 273 [(2, 83), (0, x1), (0, x2), (9, 0)] [] (js_up (js_up σ 83 5 z1) 83 7 ((σ 83 6) + 1)) else (if js_w x1 = 60 then js_J E d 196 273 [(2, 83), (0, x1), (0, x2), (9, 0)] [] (js_up (js_up σ 83 5 z1) 83 7 ((σ 83 6) + 1)) else (if js_w x1 = 62 then js_J E d 196 273 [(2, 83), (0, x1), (0, x2), (9, 0)] [] (js_up (js_up σ 83 5 z1) 83 7 ((σ 83 6) + 1)) else (if js_w x1 = 33 then js_J E d 196 273 [(2, 83), (0, x1), (0, x2), (9, 0)] [] (js_up (js_up σ 83 5 z1) 83 7 ((σ 83 6) + 1)) else js_J E d 196 278 [(2, 83), (0, x1), (0, x2), (9, 0)] [(0, 0)] (js_up (js_up σ 83 5 z1) 83 7 ((σ 83 6) + 1))))))))))))))))))))) else js_r0 E (js_up σ 83 5 z1)) :=
  (j_putI (ji := 5) q_196_138 (js_Fo qy_196 qf_12_25) rfl js_o83 rfl rfl rfl).trans <| (j_aload_n q_196_141 rfl).trans <| (j_get (ji := 5) (v := (0, z1)) q_196_142 (js_Fo qy_196 qf_12_25) js_o83 rfl rfl rfl (congrArg (Prod.mk 0) ((js_up_same _ _ _ _)))).trans <| (j_ifeq (t := 149) q_196_145 rfl).trans (js_ite ((j_aload_n q_196_149 rfl).trans <| (j_aload_n q_196_150 rfl).trans <| (j_get (ji := 6) (v := (0, σ 83 6)) q_196_151 (js_Fo qy_196 qf_12_35) js_o83 rfl rfl rfl (congrArg (Prod.mk 0) ((js_up_ni _ (by decide))))).trans <| (j_iconst q_196_154).trans <| (j_iadd q_196_155).trans <| (j_putI (ji := 7) q_196_156 (js_Fo qy_196 qf_12_28) rfl js_o83 rfl rfl rfl).trans <| (j_iload_n q_196_159 rfl).trans <| (j_bi q_196_160 rfl).trans <| (j_cmpeqB (t := 273) q_196_162 rfl ww_40).trans (js_ite (rfl) ((j_iload_n q_196_165 rfl).trans <| (j_bi q_196_166 rfl).trans <| (j_cmpeqB (t := 273) q_196_168 rfl ww_41).trans (js_ite (rfl) ((j_iload_n q_196_171 rfl).trans <| (j_bi q_196_172 rfl).trans <| (j_cmpeqB (t := 273) q_196_174 rfl ww_123).trans (js_ite (rfl) ((j_iload_n q_196_177 rfl).trans <| (j_bi q_196_178 rfl).trans <| (j_cmpeqB (t := 273) q_196_180 rfl ww_125).trans (js_ite (rfl) ((j_iload_n q_196_183 rfl).trans <| (j_bi q_196_184 rfl).trans <| (j_cmpeqB (t := 273) q_196_186 rfl ww_91).trans (js_ite (rfl) ((j_iload_n q_196_189 rfl).trans <| (j_bi q_196_190 rfl).trans <| (j_cmpeqB (t := 273) q_196_192 rfl ww_93).trans (js_ite (rfl) ((j_iload_n q_196_195 rfl).trans <| (j_bi q_196_196 rfl).trans <| (j_cmpeqB (t := 273) q_196_198 rfl ww_44).trans (js_ite (rfl) ((j_iload_n q_196_201 rfl).trans <| (j_bi q_196_202 rfl).trans <| (j_cmpeqB (t := 273) q_196_204 rfl ww_59).trans (js_ite (rfl) ((j_iload_n q_196_207 rfl).trans <| (j_bi q_196_208 rfl).trans <| (j_cmpeqB (t := 273) q_196_210 rfl ww_58).trans (js_ite (rfl) ((j_iload_n q_196_213 rfl).trans <| (j_bi q_196_214 rfl).trans <| (j_cmpeqB (t := 273) q_196_216 rfl ww_63).trans (js_ite (rfl) ((j_iload_n q_196_219 rfl).trans <| (j_bi q_196_220 rfl).trans <| (j_cmpeqB (t := 273) q_196_222 rfl ww_61).trans (js_ite (rfl) ((j_iload_n q_196_225 rfl).trans <| (j_bi q_196_226 rfl).trans <| (j_cmpeqB (t := 273) q_196_228 rfl ww_43).trans (js_ite (rfl) ((j_iload_n q_196_231 rfl).trans <| (j_bi q_196_232 rfl).trans <| (j_cmpeqB (t := 273) q_196_234 rfl ww_45).trans (js_ite (rfl) ((j_iload_n q_196_237 rfl).trans <| (j_bi q_196_238 rfl).trans <| (j_cmpeqB (t := 273) q_196_240 rfl ww_42).trans (js_ite (rfl) ((j_iload_n q_196_243 rfl).trans <| (j_bi q_196_244 rfl).trans <| (j_cmpeqB (t := 273) q_196_246 rfl ww_47).trans (js_ite (rfl) ((j_iload_n q_196_249 rfl).trans <| (j_bi q_196_250 rfl).trans <| (j_cmpeqB (t := 273) q_196_252 rfl ww_37).trans (js_ite (rfl) ((j_iload_n q_196_255 rfl).trans <| (j_bi q_196_256 rfl).trans <| (j_cmpeqB (t := 273) q_196_258 rfl ww_60).trans (js_ite (rfl) ((j_iload_n q_196_261 rfl).trans <| (j_bi q_196_262 rfl).trans <| (j_cmpeqB (t := 273) q_196_264 rfl ww_62).trans (js_ite (rfl) ((j_iload_n q_196_267 rfl).trans <| (j_bi q_196_268 rfl).trans <| (j_cmpneB (t := 277) q_196_270 rfl ww_33).trans (js_ite (rfl) ((j_iconst q_196_277).trans <| rfl))))))))))))))))))))))))))))))))))))))) (j_return q_196_148 qr_196))
theorem b_196_273 {E : js_E} {d : Nat} {σ : js_S} {x1 x2 : Int} : js_J E d 196 273 [(2, 83), (0, x1), (0, x2), (9, 0)] [] σ = js_J E d 196 278 [(2, 83), (0, x1), (0, x2), (9, 0)] [(0, 1)] σ :=
  (j_iconst q_196_273).trans <| (j_goto (t := 278) q_196_274 rfl).trans <| rfl
theorem b_196_278 {E : js_E} {d : Nat} {σ : js_S} {x1 x2 z0 : Int} : js_J E d 196 278 [(2, 83), (0, x1), (0, x2), (9, 0)] [(0, z0)] σ = (if js_w z0 = 0 then js_J E d 196 291 [(2, 83), (0, x1), (0, x2), (0, z0)] [(0, 2000), (2, 83)] σ else js_J E d 196 291 [(2, 83), (0, x1), (0, x2), (0, z0)] [(0, x1), (2, 83)] σ) :=
  (j_istore_n (l2 := [(2, 83), (0, x1), (0, x2), (0, z0)]) q_196_278 rfl (Nat.le_of_ble_eq_true rfl)).trans <| (j_aload_n q_196_279 rfl).trans <| (j_iload_n q_196_280 rfl).trans <| (j_ifeq (t := 288) q_196_281 rfl).trans (js_ite ((j_si q_196_288 rfl).trans <| rfl) ((j_iload_n q_196_284 rfl).trans <| (j_goto (t := 291) q_196_285 rfl).trans <| rfl))
theorem b_196_291 {E : js_E} {d : Nat} {σ : js_S} {x1 x2 x3 z1 : Int} : js_J E d 196 291 [(2, 83), (0, x1), (0, x2), (0, x3)] [(0, z1), (2, 83)] σ = js_r0 E (js_up σ 83 5 z1) :=
  (j_putI (ji := 5) q_196_291 (js_Fo qy_196 qf_12_25) rfl js_o83 rfl rfl rfl).trans <| j_return q_196_294 qr_196
-- 197: VitalTwinModel.declaration ()V
theorem b_197_0 {E : js_E} {d : Nat} {σ : js_S} : js_J E d 197 0 [(2, 83), (9, 0), (9, 0)] [] σ = js_J E d 197 6 [(2, 83), (0, σ 83 5), (9, 0)] [(2, 83)] σ :=
  (j_aload_n q_197_0 rfl).trans <| (j_get (ji := 5) (v := (0, σ 83 5)) q_197_1 (js_Fo qy_197 qf_12_25) js_o83 rfl rfl rfl rfl).trans <| (j_istore_n (l2 := [(2, 83), (0, σ 83 5), (9, 0)]) q_197_4 rfl (Nat.le_of_ble_eq_true rfl)).trans <| (j_aload_n q_197_5 rfl).trans <| rfl
theorem k_197_6 {E : js_E} {d : Nat} {σ σ2 : js_S} {x1 : Int} (hd : 1 ≤ d) (hz : js_J E (d - 1) 191 0 [(2, 83), (9, 0), (9, 0), (9, 0), (9, 0), (9, 0)] [] σ = js_r0 E σ2) : js_J E d 197 6 [(2, 83), (0, x1), (9, 0)] [(2, 83)] σ = js_J E d 197 9 [(2, 83), (0, x1), (9, 0)] [] σ2 :=
  j_call0 (m := 5) (js_caV q_197_6 (js_Mo qy_197 qm_12_68)) (js_agV (av := []) (st := []) rfl rfl js_o83 rfl) rfl rfl (by rw [ql_191]; exact Nat.le_of_ble_eq_true rfl) (Nat.le_of_ble_eq_true rfl) hd hz
theorem b_197_9 {E : js_E} {d : Nat} {σ : js_S} {x1 : Int} : js_J E d 197 9 [(2, 83), (0, x1), (9, 0)] [] σ = (if js_w x1 = 300 then js_J E d 197 19 [(2, 83), (0, x1), (9, 0)] [(0, (-1)), (0, 0), (2, 83)] σ else (if js_w x1 = 301 then js_J E d 197 109 [(2, 83), (0, x1), (9, 0)] [(2, 83)] σ else (if js_w x1 = 306 then js_J E d 197 123 [(2, 83), (0, x1), (9, 0)] [(2, 83)] σ else (if js_w x1 = 302 then js_J E d 197 153 [(2, 83), (0, x1), (9, 0)] [(0, 1), (2, 83)] σ else (if js_w x1 = 303 then js_J E d 197 153 [(2, 83), (0, x1), (9, 0)] [(0, 2), (2, 83)] σ else js_J E d 197 153 [(2, 83), (0, x1), (9, 0)] [(0, 3), (2, 83)] σ))))) :=
  (j_iload_n q_197_9 rfl).trans <| (j_si q_197_10 rfl).trans <| (j_cmpneB (t := 101) q_197_13 rfl ww_300).trans (js_ite ((j_aload_n q_197_16 rfl).trans <| (j_iconst q_197_17).trans <| (j_iconst q_197_18).trans <| rfl) ((j_iload_n q_197_101 rfl).trans <| (j_si q_197_102 rfl).trans <| (j_cmpneB (t := 115) q_197_105 rfl ww_301).trans (js_ite ((j_aload_n q_197_108 rfl).trans <| rfl) ((j_iload_n q_197_115 rfl).trans <| (j_si q_197_116 rfl).trans <| (j_cmpneB (t := 129) q_197_119 rfl ww_306).trans (js_ite ((j_aload_n q_197_122 rfl).trans <| rfl) ((j_aload_n q_197_129 rfl).trans <| (j_iload_n q_197_130 rfl).trans <| (j_si q_197_131 rfl).trans <| (j_cmpneB (t := 141) q_197_134 rfl ww_302).trans (js_ite ((j_iconst q_197_137).trans <| (j_goto (t := 153) q_197_138 rfl).trans <| rfl) ((j_iload_n q_197_141 rfl).trans <| (j_si q_197_142 rfl).trans <| (j_cmpneB (t := 152) q_197_145 rfl ww_303).trans (js_ite ((j_iconst q_197_148).trans <| (j_goto (t := 153) q_197_149 rfl).trans <| rfl) ((j_iconst q_197_152).trans <| rfl))))))))))
theorem k_197_19 {E : js_E} {d : Nat} {σ σ2 : js_S} {x1 z1 z2 : Int} {v : Int} (hd : 1 ≤ d) (hz : js_J E (d - 1) 198 0 [(2, 83), (0, z1), (0, z2), (9, 0), (9, 0)] [] σ = js_r E (0, v) σ2) : js_J E d 197 19 [(2, 83), (0, x1), (9, 0)] [(0, z2), (0, z1), (2, 83)] σ = js_J E d 197 22 [(2, 83), (0, x1), (9, 0)] [(0, v)] σ2 :=
  j_call (m := 2) (js_caV q_197_19 (js_Mo qy_197 qm_12_314)) (js_agV (av := [(0, z1), (0, z2)]) (st := []) rfl rfl js_o83 rfl) rfl rfl (by rw [ql_198]; exact Nat.le_of_ble_eq_true rfl) (Nat.le_of_ble_eq_true rfl) hd hz
theorem b_197_22 {E : js_E} {d : Nat} {σ : js_S} {x1 z0 : Int} : js_J E d 197 22 [(2, 83), (0, x1), (9, 0)] [(0, z0)] σ = js_J E d 197 26 [(2, 83), (0, x1), (0, z0)] [(0, 61), (2, 83)] σ :=
  (j_istore_n (l2 := [(2, 83), (0, x1), (0, z0)]) q_197_22 rfl (Nat.le_of_ble_eq_true rfl)).trans <| (j_aload_n q_197_23 rfl).trans <| (j_bi q_197_24 rfl).trans <| rfl
theorem k_197_26 {E : js_E} {d : Nat} {σ σ2 : js_S} {x1 x2 z1 : Int} (hd : 1 ≤ d) (hz : js_J E (d - 1) 202 0 [(2, 83), (0, z1)] [] σ = js_r0 E σ2) : js_J E d 197 26 [(2, 83), (0, x1), (0, x2)] [(0, z1), (2, 83)] σ = js_J E d 197 29 [(2, 83), (0, x1), (0, x2)] [] σ2 :=
  j_call0 (m := 0) (js_caV q_197_26 (js_Mo qy_197 qm_12_75)) (js_agV (av := [(0, z1)]) (st := []) rfl rfl js_o83 rfl) rfl rfl (by rw [ql_202]; exact Nat.le_of_ble_eq_true rfl) (Nat.le_of_ble_eq_true rfl) hd hz
theorem b_197_29 {E : js_E} {d : Nat} {σ : js_S} {x1 x2 : Int} : js_J E d 197 29 [(2, 83), (0, x1), (0, x2)] [] σ = js_J E d 197 30 [(2, 83), (0, x1), (0, x2)] [(2, 83)] σ :=
  (j_aload_n q_197_29 rfl).trans <| rfl
theorem k_197_30 {E : js_E} {d : Nat} {σ σ2 : js_S} {x1 x2 : Int} (hd : 1 ≤ d) (hz : js_J E (d - 1) 203 0 [(2, 83), (9, 0), (9, 0)] [] σ = js_r0 E σ2) : js_J E d 197 30 [(2, 83), (0, x1), (0, x2)] [(2, 83)] σ = js_J E d 197 33 [(2, 83), (0, x1), (0, x2)] [] σ2 :=
  j_call0 (m := 2) (js_caV q_197_30 (js_Mo qy_197 qm_12_144)) (js_agV (av := []) (st := []) rfl rfl js_o83 rfl) rfl rfl (by rw [ql_203]; exact Nat.le_of_ble_eq_true rfl) (Nat.le_of_ble_eq_true rfl) hd hz
theorem b_197_33 {E : js_E} {d : Nat} {σ : js_S} {x1 x2 : Int} : js_J E d 197 33 [(2, 83), (0, x1), (0, x2)] [] σ = js_J E d 197 34 [(2, 83), (0, x1), (0, x2)] [(2, 83)] σ :=
  (j_aload_n q_197_33 rfl).trans <| rfl
theorem k_197_34 {E : js_E} {d : Nat} {σ σ2 : js_S} {x1 x2 : Int} (hd : 1 ≤ d) (hz : js_J E (d - 1) 191 0 [(2, 83), (9, 0), (9, 0), (9, 0), (9, 0), (9, 0)] [] σ = js_r0 E σ2) : js_J E d 197 34 [(2, 83), (0, x1), (0, x2)] [(2, 83)] σ = js_J E d 197 37 [(2, 83), (0, x1), (0, x2)] [] σ2 :=
  j_call0 (m := 5) (js_caV q_197_34 (js_Mo qy_197 qm_12_68)) (js_agV (av := []) (st := []) rfl rfl js_o83 rfl) rfl rfl (by rw [ql_191]; exact Nat.le_of_ble_eq_true rfl) (Nat.le_of_ble_eq_true rfl) hd hz
theorem b_197_37 {E : js_E} {d : Nat} {σ : js_S} {x1 x2 : Int} : js_J E d 197 37 [(2, 83), (0, x1), (0, x2)] [] σ = js_J E d 197 40 [(2, 83), (0, x1), (0, x2)] [(0, 59), (2, 83)] σ :=
  (j_aload_n q_197_37 rfl).trans <| (j_bi q_197_38 rfl).trans <| rfl
theorem k_197_40 {E : js_E} {d : Nat} {σ σ2 : js_S} {x1 x2 z1 : Int} (hd : 1 ≤ d) (hz : js_J E (d - 1) 202 0 [(2, 83), (0, z1)] [] σ = js_r0 E σ2) : js_J E d 197 40 [(2, 83), (0, x1), (0, x2)] [(0, z1), (2, 83)] σ = js_J E d 197 43 [(2, 83), (0, x1), (0, x2)] [] σ2 :=
  j_call0 (m := 0) (js_caV q_197_40 (js_Mo qy_197 qm_12_75)) (js_agV (av := [(0, z1)]) (st := []) rfl rfl js_o83 rfl) rfl rfl (by rw [ql_202]; exact Nat.le_of_ble_eq_true rfl) (Nat.le_of_ble_eq_true rfl) hd hz
theorem b_197_43 {E : js_E} {d : Nat} {σ : js_S} {x1 x2 : Int} : js_J E d 197 43 [(2, 83), (0, x1), (0, x2)] [] σ = (if 0 < js_w (σ 83 9) then js_r0 E σ else (if 0 ≤ js_w x2 ∧ js_w x2 < 400 then js_r0 E (js_up (js_up (js_up (js_up (js_up σ 87 (js_w x2) (σ 83 27)) 88 (js_w x2) (σ 83 28)) 89 (js_w x2) (σ 83 28)) 94 (js_w x2) (σ 83 28)) 99 (js_w x2) (js_iand 1 1)) else none)) :=
  (j_aload_n q_197_43 rfl).trans <| (j_get (ji := 9) (v := (0, σ 83 9)) q_197_44 (js_Fo qy_197 qf_12_22) js_o83 rfl rfl rfl rfl).trans <| (j_ifle (t := 51) q_197_47 rfl).trans (js_ite (j_return q_197_50 qr_197) ((j_aload_n q_197_51 rfl).trans <| (j_get (ji := 13) (v := (2, 87)) q_197_52 (js_Fo qy_197 qf_12_102) js_o83 rfl rfl rfl rfl).trans <| (j_iload_n q_197_55 rfl).trans <| (j_aload_n q_197_56 rfl).trans <| (j_get (ji := 27) (v := (0, σ 83 27)) q_197_57 (js_Fo qy_197 qf_12_138) js_o83 rfl rfl rfl rfl).trans <| (j_iastore q_197_60 js_o87).trans <| js_itp fun g0 => (j_aload_n q_197_61 rfl).trans <| (j_get (ji := 14) (v := (2, 88)) q_197_62 (js_Fo qy_197 qf_12_105) js_o83 rfl rfl rfl rfl).trans <| (j_iload_n q_197_65 rfl).trans <| (j_aload_n q_197_66 rfl).trans <| (j_get (ji := 28) (v := (0, σ 83 28)) q_197_67 (js_Fo qy_197 qf_12_141) js_o83 rfl rfl rfl (congrArg (Prod.mk 0) ((js_up_na _ (by decide))))).trans <| (j_iastore q_197_70 js_o88).trans <| (if_pos g0).trans <| (j_aload_n q_197_71 rfl).trans <| (j_get (ji := 15) (v := (2, 89)) q_197_72 (js_Fo qy_197 qf_12_108) js_o83 rfl rfl rfl rfl).trans <| (j_iload_n q_197_75 rfl).trans <| (j_aload_n q_197_76 rfl).trans <| (j_get (ji := 28) (v := (0, σ 83 28)) q_197_77 (js_Fo qy_197 qf_12_141) js_o83 rfl rfl rfl (congrArg (Prod.mk 0) ((js_up_na _ (by decide)).trans <| (js_up_na _ (by decide))))).trans <| (j_iastore q_197_80 js_o89).trans <| (if_pos g0).trans <| (j_aload_n q_197_81 rfl).trans <| (j_get (ji := 20) (v := (2, 94)) q_197_82 (js_Fo qy_197 qf_12_126) js_o83 rfl rfl rfl rfl).trans <| (j_iload_n q_197_85 rfl).trans <| (j_aload_n q_197_86 rfl).trans <| (j_get (ji := 28) (v := (0, σ 83 28)) q_197_87 (js_Fo qy_197 qf_12_141) js_o83 rfl rfl rfl (congrArg (Prod.mk 0) ((js_up_na _ (by decide)).trans <| (js_up_na _ (by decide)).trans <| (js_up_na _ (by decide))))).trans <| (j_iastore q_197_90 js_o94).trans <| (if_pos g0).trans <| (j_aload_n q_197_91 rfl).trans <| (j_get (ji := 25) (v := (2, 99)) q_197_92 (js_Fo qy_197 qf_12_89) js_o83 rfl rfl rfl rfl).trans <| (j_iload_n q_197_95 rfl).trans <| (j_iconst q_197_96).trans <| (j_zastore q_197_97 js_o99).trans <| (if_pos g0).trans <| (j_goto (t := 231) q_197_98 rfl).trans <| j_return q_197_231 qr_197))
theorem k_197_109 {E : js_E} {d : Nat} {σ σ2 : js_S} {x1 : Int} (hd : 1 ≤ d) (hz : js_J E (d - 1) 204 0 [(2, 83), (9, 0), (9, 0), (9, 0), (9, 0)] [] σ = js_r0 E σ2) : js_J E d 197 109 [(2, 83), (0, x1), (9, 0)] [(2, 83)] σ = js_J E d 197 112 [(2, 83), (0, x1), (9, 0)] [] σ2 :=
  j_call0 (m := 4) (js_caV q_197_109 (js_Mo qy_197 qm_12_474)) (js_agV (av := []) (st := []) rfl rfl js_o83 rfl) rfl rfl (by rw [ql_204]; exact Nat.le_of_ble_eq_true rfl) (Nat.le_of_ble_eq_true rfl) hd hz
theorem b_197_112 {E : js_E} {d : Nat} {σ : js_S} {x1 : Int} : js_J E d 197 112 [(2, 83), (0, x1), (9, 0)] [] σ = js_r0 E σ :=
  (j_goto (t := 231) q_197_112 rfl).trans <| j_return q_197_231 qr_197
theorem k_197_123 {E : js_E} {d : Nat} {σ σ2 : js_S} {x1 : Int} (hd : 1 ≤ d) (hz : js_J E (d - 1) 206 0 [(2, 83), (9, 0), (9, 0), (9, 0), (9, 0)] [] σ = js_r0 E σ2) : js_J E d 197 123 [(2, 83), (0, x1), (9, 0)] [(2, 83)] σ = js_J E d 197 126 [(2, 83), (0, x1), (9, 0)] [] σ2 :=
  j_call0 (m := 4) (js_caV q_197_123 (js_Mo qy_197 qm_12_477)) (js_agV (av := []) (st := []) rfl rfl js_o83 rfl) rfl rfl (by rw [ql_206]; exact Nat.le_of_ble_eq_true rfl) (Nat.le_of_ble_eq_true rfl) hd hz
theorem b_197_126 {E : js_E} {d : Nat} {σ : js_S} {x1 : Int} : js_J E d 197 126 [(2, 83), (0, x1), (9, 0)] [] σ = js_r0 E σ :=
  (j_goto (t := 231) q_197_126 rfl).trans <| j_return q_197_231 qr_197
theorem b_197_153 {E : js_E} {d : Nat} {σ : js_S} {x1 z1 : Int} : js_J E d 197 153 [(2, 83), (0, x1), (9, 0)] [(0, z1), (2, 83)] σ = js_J E d 197 154 [(2, 83), (0, x1), (9, 0)] [(0, (-1)), (0, z1), (2, 83)] σ :=
  (j_iconst q_197_153).trans <| rfl
theorem k_197_154 {E : js_E} {d : Nat} {σ σ2 : js_S} {x1 z1 z2 : Int} {v : Int} (hd : 1 ≤ d) (hz : js_J E (d - 1) 198 0 [(2, 83), (0, z1), (0, z2), (9, 0), (9, 0)] [] σ = js_r E (0, v) σ2) : js_J E d 197 154 [(2, 83), (0, x1), (9, 0)] [(0, z2), (0, z1), (2, 83)] σ = js_J E d 197 157 [(2, 83), (0, x1), (9, 0)] [(0, v)] σ2 :=
  j_call (m := 2) (js_caV q_197_154 (js_Mo qy_197 qm_12_314)) (js_agV (av := [(0, z1), (0, z2)]) (st := []) rfl rfl js_o83 rfl) rfl rfl (by rw [ql_198]; exact Nat.le_of_ble_eq_true rfl) (Nat.le_of_ble_eq_true rfl) hd hz
theorem b_197_157 {E : js_E} {d : Nat} {σ : js_S} {x1 z0 : Int} : js_J E d 197 157 [(2, 83), (0, x1), (9, 0)] [(0, z0)] σ = js_J E d 197 160 [(2, 83), (0, x1), (0, z0)] [(0, z0), (2, 83)] σ :=
  (j_istore_n (l2 := [(2, 83), (0, x1), (0, z0)]) q_197_157 rfl (Nat.le_of_ble_eq_true rfl)).trans <| (j_aload_n q_197_158 rfl).trans <| (j_iload_n q_197_159 rfl).trans <| rfl
theorem k_197_160 {E : js_E} {d : Nat} {σ σ2 : js_S} {x1 x2 z1 : Int} (hd : 1 ≤ d) (hz : js_J E (d - 1) 215 0 [(2, 83), (0, z1)] [] σ = js_r0 E σ2) : js_J E d 197 160 [(2, 83), (0, x1), (0, x2)] [(0, z1), (2, 83)] σ = js_J E d 197 163 [(2, 83), (0, x1), (0, x2)] [] σ2 :=
  j_call0 (m := 0) (js_caV q_197_160 (js_Mo qy_197 qm_12_317)) (js_agV (av := [(0, z1)]) (st := []) rfl rfl js_o83 rfl) rfl rfl (by rw [ql_215]; exact Nat.le_of_ble_eq_true rfl) (Nat.le_of_ble_eq_true rfl) hd hz
theorem b_197_163 {E : js_E} {d : Nat} {σ : js_S} {x1 x2 : Int} : js_J E d 197 163 [(2, 83), (0, x1), (0, x2)] [] σ = js_J E d 197 166 [(2, 83), (0, x1), (0, x2)] [(0, 58), (2, 83)] σ :=
  (j_aload_n q_197_163 rfl).trans <| (j_bi q_197_164 rfl).trans <| rfl
theorem k_197_166 {E : js_E} {d : Nat} {σ σ2 : js_S} {x1 x2 z1 : Int} (hd : 1 ≤ d) (hz : js_J E (d - 1) 202 0 [(2, 83), (0, z1)] [] σ = js_r0 E σ2) : js_J E d 197 166 [(2, 83), (0, x1), (0, x2)] [(0, z1), (2, 83)] σ = js_J E d 197 169 [(2, 83), (0, x1), (0, x2)] [] σ2 :=
  j_call0 (m := 0) (js_caV q_197_166 (js_Mo qy_197 qm_12_75)) (js_agV (av := [(0, z1)]) (st := []) rfl rfl js_o83 rfl) rfl rfl (by rw [ql_202]; exact Nat.le_of_ble_eq_true rfl) (Nat.le_of_ble_eq_true rfl) hd hz
theorem b_197_169 {E : js_E} {d : Nat} {σ : js_S} {x1 x2 : Int} : js_J E d 197 169 [(2, 83), (0, x1), (0, x2)] [] σ = js_J E d 197 170 [(2, 83), (0, x1), (0, x2)] [(2, 83)] σ :=
  (j_aload_n q_197_169 rfl).trans <| rfl
theorem k_197_170 {E : js_E} {d : Nat} {σ σ2 : js_S} {x1 x2 : Int} (hd : 1 ≤ d) (hz : js_J E (d - 1) 208 0 [(2, 83), (9, 0)] [] σ = js_r0 E σ2) : js_J E d 197 170 [(2, 83), (0, x1), (0, x2)] [(2, 83)] σ = js_J E d 197 173 [(2, 83), (0, x1), (0, x2)] [] σ2 :=
  j_call0 (m := 1) (js_caV q_197_170 (js_Mo qy_197 qm_12_320)) (js_agV (av := []) (st := []) rfl rfl js_o83 rfl) rfl rfl (by rw [ql_208]; exact Nat.le_of_ble_eq_true rfl) (Nat.le_of_ble_eq_true rfl) hd hz
theorem b_197_173 {E : js_E} {d : Nat} {σ : js_S} {x1 x2 : Int} : js_J E d 197 173 [(2, 83), (0, x1), (0, x2)] [] σ = (if js_w (σ 83 9) = 0 then js_J E d 197 182 [(2, 83), (0, x1), (0, x2)] [(0, x2), (2, 83)] σ else js_J E d 197 185 [(2, 83), (0, x1), (0, x2)] [] σ) :=
  (j_aload_n q_197_173 rfl).trans <| (j_get (ji := 9) (v := (0, σ 83 9)) q_197_174 (js_Fo qy_197 qf_12_22) js_o83 rfl rfl rfl rfl).trans <| (j_ifne (t := 185) q_197_177 rfl).trans (js_ite ((j_aload_n q_197_180 rfl).trans <| (j_iload_n q_197_181 rfl).trans <| rfl) (rfl))
theorem k_197_182 {E : js_E} {d : Nat} {σ σ2 : js_S} {x1 x2 z1 : Int} (hd : 1 ≤ d) (hz : js_J E (d - 1) 210 0 [(2, 83), (0, z1)] [] σ = js_r0 E σ2) : js_J E d 197 182 [(2, 83), (0, x1), (0, x2)] [(0, z1), (2, 83)] σ = js_J E d 197 185 [(2, 83), (0, x1), (0, x2)] [] σ2 :=
  j_call0 (m := 0) (js_caV q_197_182 (js_Mo qy_197 qm_12_323)) (js_agV (av := [(0, z1)]) (st := []) rfl rfl js_o83 rfl) rfl rfl (by rw [ql_210]; exact Nat.le_of_ble_eq_true rfl) (Nat.le_of_ble_eq_true rfl) hd hz
theorem b_197_185 {E : js_E} {d : Nat} {σ : js_S} {x1 x2 : Int} : js_J E d 197 185 [(2, 83), (0, x1), (0, x2)] [] σ = (if js_w x1 = 302 then js_J E d 197 211 [(2, 83), (0, x1), (0, x2)] [] σ else js_J E d 197 195 [(2, 83), (0, x1), (0, x2)] [(0, 61), (2, 83)] σ) :=
  (j_iload_n q_197_185 rfl).trans <| (j_si q_197_186 rfl).trans <| (j_cmpeqB (t := 211) q_197_189 rfl ww_302).trans (js_ite (rfl) ((j_aload_n q_197_192 rfl).trans <| (j_bi q_197_193 rfl).trans <| rfl))
theorem k_197_195 {E : js_E} {d : Nat} {σ σ2 : js_S} {x1 x2 z1 : Int} (hd : 1 ≤ d) (hz : js_J E (d - 1) 202 0 [(2, 83), (0, z1)] [] σ = js_r0 E σ2) : js_J E d 197 195 [(2, 83), (0, x1), (0, x2)] [(0, z1), (2, 83)] σ = js_J E d 197 198 [(2, 83), (0, x1), (0, x2)] [] σ2 :=
  j_call0 (m := 0) (js_caV q_197_195 (js_Mo qy_197 qm_12_75)) (js_agV (av := [(0, z1)]) (st := []) rfl rfl js_o83 rfl) rfl rfl (by rw [ql_202]; exact Nat.le_of_ble_eq_true rfl) (Nat.le_of_ble_eq_true rfl) hd hz
theorem b_197_198 {E : js_E} {d : Nat} {σ : js_S} {x1 x2 : Int} : js_J E d 197 198 [(2, 83), (0, x1), (0, x2)] [] σ = js_J E d 197 199 [(2, 83), (0, x1), (0, x2)] [(2, 83)] σ :=
  (j_aload_n q_197_198 rfl).trans <| rfl
theorem k_197_199 {E : js_E} {d : Nat} {σ σ2 : js_S} {x1 x2 : Int} (hd : 1 ≤ d) (hz : js_J E (d - 1) 203 0 [(2, 83), (9, 0), (9, 0)] [] σ = js_r0 E σ2) : js_J E d 197 199 [(2, 83), (0, x1), (0, x2)] [(2, 83)] σ = js_J E d 197 202 [(2, 83), (0, x1), (0, x2)] [] σ2 :=
  j_call0 (m := 2) (js_caV q_197_199 (js_Mo qy_197 qm_12_144)) (js_agV (av := []) (st := []) rfl rfl js_o83 rfl) rfl rfl (by rw [ql_203]; exact Nat.le_of_ble_eq_true rfl) (Nat.le_of_ble_eq_true rfl) hd hz
theorem b_197_202 {E : js_E} {d : Nat} {σ : js_S} {x1 x2 : Int} : js_J E d 197 202 [(2, 83), (0, x1), (0, x2)] [] σ = js_J E d 197 204 [(2, 83), (0, x1), (0, x2)] [(0, x2), (2, 83)] σ :=
  (j_aload_n q_197_202 rfl).trans <| (j_iload_n q_197_203 rfl).trans <| rfl
theorem k_197_204 {E : js_E} {d : Nat} {σ σ2 : js_S} {x1 x2 z1 : Int} (hd : 1 ≤ d) (hz : js_J E (d - 1) 216 0 [(2, 83), (0, z1)] [] σ = js_r0 E σ2) : js_J E d 197 204 [(2, 83), (0, x1), (0, x2)] [(0, z1), (2, 83)] σ = js_J E d 197 207 [(2, 83), (0, x1), (0, x2)] [] σ2 :=
  j_call0 (m := 0) (js_caV q_197_204 (js_Mo qy_197 qm_12_326)) (js_agV (av := [(0, z1)]) (st := []) rfl rfl js_o83 rfl) rfl rfl (by rw [ql_216]; exact Nat.le_of_ble_eq_true rfl) (Nat.le_of_ble_eq_true rfl) hd hz
theorem b_197_207 {E : js_E} {d : Nat} {σ : js_S} {x1 x2 : Int} : js_J E d 197 207 [(2, 83), (0, x1), (0, x2)] [] σ = js_J E d 197 208 [(2, 83), (0, x1), (0, x2)] [(2, 83)] σ :=
  (j_aload_n q_197_207 rfl).trans <| rfl
theorem k_197_208 {E : js_E} {d : Nat} {σ σ2 : js_S} {x1 x2 : Int} (hd : 1 ≤ d) (hz : js_J E (d - 1) 191 0 [(2, 83), (9, 0), (9, 0), (9, 0), (9, 0), (9, 0)] [] σ = js_r0 E σ2) : js_J E d 197 208 [(2, 83), (0, x1), (0, x2)] [(2, 83)] σ = js_J E d 197 211 [(2, 83), (0, x1), (0, x2)] [] σ2 :=
  j_call0 (m := 5) (js_caV q_197_208 (js_Mo qy_197 qm_12_68)) (js_agV (av := []) (st := []) rfl rfl js_o83 rfl) rfl rfl (by rw [ql_191]; exact Nat.le_of_ble_eq_true rfl) (Nat.le_of_ble_eq_true rfl) hd hz
theorem b_197_211 {E : js_E} {d : Nat} {σ : js_S} {x1 x2 : Int} : js_J E d 197 211 [(2, 83), (0, x1), (0, x2)] [] σ = js_J E d 197 214 [(2, 83), (0, x1), (0, x2)] [(0, 59), (2, 83)] σ :=
  (j_aload_n q_197_211 rfl).trans <| (j_bi q_197_212 rfl).trans <| rfl
theorem k_197_214 {E : js_E} {d : Nat} {σ σ2 : js_S} {x1 x2 z1 : Int} (hd : 1 ≤ d) (hz : js_J E (d - 1) 202 0 [(2, 83), (0, z1)] [] σ = js_r0 E σ2) : js_J E d 197 214 [(2, 83), (0, x1), (0, x2)] [(0, z1), (2, 83)] σ = js_J E d 197 217 [(2, 83), (0, x1), (0, x2)] [] σ2 :=
  j_call0 (m := 0) (js_caV q_197_214 (js_Mo qy_197 qm_12_75)) (js_agV (av := [(0, z1)]) (st := []) rfl rfl js_o83 rfl) rfl rfl (by rw [ql_202]; exact Nat.le_of_ble_eq_true rfl) (Nat.le_of_ble_eq_true rfl) hd hz
theorem b_197_217 {E : js_E} {d : Nat} {σ : js_S} {x1 x2 : Int} : js_J E d 197 217 [(2, 83), (0, x1), (0, x2)] [] σ = (if js_w (σ 83 9) = 0 then (if 0 ≤ js_w x2 ∧ js_w x2 < 400 then js_r0 E (js_up σ 99 (js_w x2) (js_iand 1 1)) else none) else js_r0 E σ) :=
  (j_aload_n q_197_217 rfl).trans <| (j_get (ji := 9) (v := (0, σ 83 9)) q_197_218 (js_Fo qy_197 qf_12_22) js_o83 rfl rfl rfl rfl).trans <| (j_ifne (t := 231) q_197_221 rfl).trans (js_ite ((j_aload_n q_197_224 rfl).trans <| (j_get (ji := 25) (v := (2, 99)) q_197_225 (js_Fo qy_197 qf_12_89) js_o83 rfl rfl rfl rfl).trans <| (j_iload_n q_197_228 rfl).trans <| (j_iconst q_197_229).trans <| (j_zastore q_197_230 js_o99).trans <| js_itp fun g0 => j_return q_197_231 qr_197) (j_return q_197_231 qr_197))
-- 198: VitalTwinModel.tell (II)I
theorem b_198_0 {E : js_E} {d : Nat} {σ : js_S} {x1 x2 : Int} : js_J E d 198 0 [(2, 83), (0, x1), (0, x2), (9, 0), (9, 0)] [] σ = (if js_w (σ 83 5) = 2 then js_J E d 198 21 [(2, 83), (0, x1), (0, x2), (9, 0), (9, 0)] [(2, 83)] σ else js_J E d 198 14 [(2, 83), (0, x1), (0, x2), (9, 0), (9, 0)] [(0, σ 83 6), (0, 1), (2, 83)] σ) :=
  (j_aload_n q_198_0 rfl).trans <| (j_get (ji := 5) (v := (0, σ 83 5)) q_198_1 (js_Fo qy_198 qf_12_25) js_o83 rfl rfl rfl rfl).trans <| (j_iconst q_198_4).trans <| (j_cmpeqB (t := 20) q_198_5 rfl ww_2).trans (js_ite ((j_aload_n q_198_20 rfl).trans <| rfl) ((j_aload_n q_198_8 rfl).trans <| (j_iconst q_198_9).trans <| (j_aload_n q_198_10 rfl).trans <| (j_get (ji := 6) (v := (0, σ 83 6)) q_198_11 (js_Fo qy_198 qf_12_35) js_o83 rfl rfl rfl rfl).trans <| rfl))
theorem k_198_14 {E : js_E} {d : Nat} {σ σ2 : js_S} {x1 x2 z1 z2 : Int} (hd : 1 ≤ d) (hz : js_J E (d - 1) 199 0 [(2, 83), (0, z1), (0, z2)] [] σ = js_r0 E σ2) : js_J E d 198 14 [(2, 83), (0, x1), (0, x2), (9, 0), (9, 0)] [(0, z2), (0, z1), (2, 83)] σ = js_J E d 198 17 [(2, 83), (0, x1), (0, x2), (9, 0), (9, 0)] [] σ2 :=
  j_call0 (m := 0) (js_caV q_198_14 (js_Mo qy_198 qm_12_65)) (js_agV (av := [(0, z1), (0, z2)]) (st := []) rfl rfl js_o83 rfl) rfl rfl (by rw [ql_199]; exact Nat.le_of_ble_eq_true rfl) (Nat.le_of_ble_eq_true rfl) hd hz
theorem b_198_17 {E : js_E} {d : Nat} {σ : js_S} {x1 x2 : Int} : js_J E d 198 17 [(2, 83), (0, x1), (0, x2), (9, 0), (9, 0)] [] σ = js_J E d 198 36 [(2, 83), (0, x1), (0, x2), (9, 0), (9, 0)] [] σ :=
  (j_goto (t := 36) q_198_17 rfl).trans <| rfl
theorem k_198_21 {E : js_E} {d : Nat} {σ σ2 : js_S} {x1 x2 : Int} {v : Int} (hd : 1 ≤ d) (hz : js_J E (d - 1) 200 0 [(2, 83), (9, 0)] [] σ = js_r E (0, v) σ2) : js_J E d 198 21 [(2, 83), (0, x1), (0, x2), (9, 0), (9, 0)] [(2, 83)] σ = js_J E d 198 24 [(2, 83), (0, x1), (0, x2), (9, 0), (9, 0)] [(0, v)] σ2 :=
  j_call (m := 1) (js_caV q_198_21 (js_Mo qy_198 qm_12_96)) (js_agV (av := []) (st := []) rfl rfl js_o83 rfl) rfl rfl (by rw [ql_200]; exact Nat.le_of_ble_eq_true rfl) (Nat.le_of_ble_eq_true rfl) hd hz
theorem b_198_24 {E : js_E} {d : Nat} {σ : js_S} {x1 x2 z0 : Int} : js_J E d 198 24 [(2, 83), (0, x1), (0, x2), (9, 0), (9, 0)] [(0, z0)] σ = (if js_w z0 < 0 then js_J E d 198 36 [(2, 83), (0, x1), (0, x2), (9, 0), (9, 0)] [] σ else js_J E d 198 33 [(2, 83), (0, x1), (0, x2), (9, 0), (9, 0)] [(0, σ 83 6), (0, 2), (2, 83)] σ) :=
  (j_iflt (t := 36) q_198_24 rfl).trans (js_ite (rfl) ((j_aload_n q_198_27 rfl).trans <| (j_iconst q_198_28).trans <| (j_aload_n q_198_29 rfl).trans <| (j_get (ji := 6) (v := (0, σ 83 6)) q_198_30 (js_Fo qy_198 qf_12_35) js_o83 rfl rfl rfl rfl).trans <| rfl))
theorem k_198_33 {E : js_E} {d : Nat} {σ σ2 : js_S} {x1 x2 z1 z2 : Int} (hd : 1 ≤ d) (hz : js_J E (d - 1) 199 0 [(2, 83), (0, z1), (0, z2)] [] σ = js_r0 E σ2) : js_J E d 198 33 [(2, 83), (0, x1), (0, x2), (9, 0), (9, 0)] [(0, z2), (0, z1), (2, 83)] σ = js_J E d 198 36 [(2, 83), (0, x1), (0, x2), (9, 0), (9, 0)] [] σ2 :=
  j_call0 (m := 0) (js_caV q_198_33 (js_Mo qy_198 qm_12_65)) (js_agV (av := [(0, z1), (0, z2)]) (st := []) rfl rfl js_o83 rfl) rfl rfl (by rw [ql_199]; exact Nat.le_of_ble_eq_true rfl) (Nat.le_of_ble_eq_true rfl) hd hz
theorem b_198_36 {E : js_E} {d : Nat} {σ : js_S} {x1 x2 : Int} : js_J E d 198 36 [(2, 83), (0, x1), (0, x2), (9, 0), (9, 0)] [] σ = js_J E d 198 38 [(2, 83), (0, x1), (0, x2), (0, x2), (9, 0)] [] σ :=
  (j_iload_n q_198_36 rfl).trans <| (j_istore_n (l2 := [(2, 83), (0, x1), (0, x2), (0, x2), (9, 0)]) q_198_37 rfl (Nat.le_of_ble_eq_true rfl)).trans <| rfl
theorem b_198_38 {E : js_E} {d : Nat} {σ : js_S} {x1 x2 x3 : Int} : js_J E d 198 38 [(2, 83), (0, x1), (0, x2), (0, x3), (9, 0)] [] σ = (if js_w x3 < 0 then js_J E d 198 80 [(2, 83), (0, x1), (0, x2), (0, x3), (9, 0)] [] σ else (if js_w x3 < js_w (σ 83 11) then (if js_w (σ 83 9) = 0 then js_J E d 198 59 [(2, 83), (0, x1), (0, x2), (0, x3), (9, 0)] [(0, x3), (2, 83)] σ else js_J E d 198 80 [(2, 83), (0, x1), (0, x2), (0, x3), (9, 0)] [] σ) else js_J E d 198 80 [(2, 83), (0, x1), (0, x2), (0, x3), (9, 0)] [] σ)) :=
  (j_iload_n q_198_38 rfl).trans <| (j_iflt (t := 80) q_198_39 rfl).trans (js_ite (rfl) ((j_iload_n q_198_42 rfl).trans <| (j_aload_n q_198_43 rfl).trans <| (j_get (ji := 11) (v := (0, σ 83 11)) q_198_44 (js_Fo qy_198 qf_12_86) js_o83 rfl rfl rfl rfl).trans <| (j_cmpge (t := 80) q_198_47 rfl).trans (js_ite ((j_aload_n q_198_50 rfl).trans <| (j_get (ji := 9) (v := (0, σ 83 9)) q_198_51 (js_Fo qy_198 qf_12_22) js_o83 rfl rfl rfl rfl).trans <| (j_ifne (t := 80) q_198_54 rfl).trans (js_ite ((j_aload_n q_198_57 rfl).trans <| (j_iload_n q_198_58 rfl).trans <| rfl) (rfl))) (rfl))))
theorem k_198_59 {E : js_E} {d : Nat} {σ σ2 : js_S} {x1 x2 x3 z1 : Int} {v : Int} (hd : 1 ≤ d) (hz : js_J E (d - 1) 201 0 [(2, 83), (0, z1), (9, 0), (9, 0)] [] σ = js_r E (0, v) σ2) : js_J E d 198 59 [(2, 83), (0, x1), (0, x2), (0, x3), (9, 0)] [(0, z1), (2, 83)] σ = js_J E d 198 62 [(2, 83), (0, x1), (0, x2), (0, x3), (9, 0)] [(0, v)] σ2 :=
  j_call (m := 2) (js_caV q_198_59 (js_Mo qy_198 qm_12_93)) (js_agV (av := [(0, z1)]) (st := []) rfl rfl js_o83 rfl) rfl rfl (by rw [ql_201]; exact Nat.le_of_ble_eq_true rfl) (Nat.le_of_ble_eq_true rfl) hd hz
theorem b_198_62 {E : js_E} {d : Nat} {σ : js_S} {x1 x2 x3 z0 : Int} : js_J E d 198 62 [(2, 83), (0, x1), (0, x2), (0, x3), (9, 0)] [(0, z0)] σ = (if js_w z0 = 0 then js_J E d 198 74 [(2, 83), (0, x1), (0, x2), (0, x3), (9, 0)] [] σ else js_J E d 198 71 [(2, 83), (0, x1), (0, x2), (0, x3), (9, 0)] [(0, σ 83 6), (0, 2), (2, 83)] σ) :=
  (j_ifeq (t := 74) q_198_62 rfl).trans (js_ite (rfl) ((j_aload_n q_198_65 rfl).trans <| (j_iconst q_198_66).trans <| (j_aload_n q_198_67 rfl).trans <| (j_get (ji := 6) (v := (0, σ 83 6)) q_198_68 (js_Fo qy_198 qf_12_35) js_o83 rfl rfl rfl rfl).trans <| rfl))
theorem k_198_71 {E : js_E} {d : Nat} {σ σ2 : js_S} {x1 x2 x3 z1 z2 : Int} (hd : 1 ≤ d) (hz : js_J E (d - 1) 199 0 [(2, 83), (0, z1), (0, z2)] [] σ = js_r0 E σ2) : js_J E d 198 71 [(2, 83), (0, x1), (0, x2), (0, x3), (9, 0)] [(0, z2), (0, z1), (2, 83)] σ = js_J E d 198 74 [(2, 83), (0, x1), (0, x2), (0, x3), (9, 0)] [] σ2 :=
  j_call0 (m := 0) (js_caV q_198_71 (js_Mo qy_198 qm_12_65)) (js_agV (av := [(0, z1), (0, z2)]) (st := []) rfl rfl js_o83 rfl) rfl rfl (by rw [ql_199]; exact Nat.le_of_ble_eq_true rfl) (Nat.le_of_ble_eq_true rfl) hd hz
theorem b_198_74 {E : js_E} {d : Nat} {σ : js_S} {x1 x2 x3 : Int} : js_J E d 198 74 [(2, 83), (0, x1), (0, x2), (0, x3), (9, 0)] [] σ = js_J E d 198 38 [(2, 83), (0, x1), (0, x2), (0, x3 + 1), (9, 0)] [] σ :=
  (j_iinc (l2 := [(2, 83), (0, x1), (0, x2), (0, x3 + 1), (9, 0)]) q_198_74 rfl rfl).trans <| (j_goto (t := 38) q_198_77 rfl).trans <| rfl
theorem b_198_80 {E : js_E} {d : Nat} {σ : js_S} {x1 x2 x3 : Int} : js_J E d 198 80 [(2, 83), (0, x1), (0, x2), (0, x3), (9, 0)] [] σ = (if js_w (σ 83 9) = 0 then (if js_w (σ 83 11) = 400 then js_J E d 198 104 [(2, 83), (0, x1), (0, x2), (0, x3), (9, 0)] [(0, σ 83 6), (0, 10), (2, 83)] σ else js_J E d 198 107 [(2, 83), (0, x1), (0, x2), (0, x3), (9, 0)] [] σ) else js_J E d 198 107 [(2, 83), (0, x1), (0, x2), (0, x3), (9, 0)] [] σ) :=
  (j_aload_n q_198_80 rfl).trans <| (j_get (ji := 9) (v := (0, σ 83 9)) q_198_81 (js_Fo qy_198 qf_12_22) js_o83 rfl rfl rfl rfl).trans <| (j_ifne (t := 107) q_198_84 rfl).trans (js_ite ((j_aload_n q_198_87 rfl).trans <| (j_get (ji := 11) (v := (0, σ 83 11)) q_198_88 (js_Fo qy_198 qf_12_86) js_o83 rfl rfl rfl rfl).trans <| (j_si q_198_91 rfl).trans <| (j_cmpneB (t := 107) q_198_94 rfl ww_400).trans (js_ite ((j_aload_n q_198_97 rfl).trans <| (j_bi q_198_98 rfl).trans <| (j_aload_n q_198_100 rfl).trans <| (j_get (ji := 6) (v := (0, σ 83 6)) q_198_101 (js_Fo qy_198 qf_12_35) js_o83 rfl rfl rfl rfl).trans <| rfl) (rfl))) (rfl))
theorem k_198_104 {E : js_E} {d : Nat} {σ σ2 : js_S} {x1 x2 x3 z1 z2 : Int} (hd : 1 ≤ d) (hz : js_J E (d - 1) 199 0 [(2, 83), (0, z1), (0, z2)] [] σ = js_r0 E σ2) : js_J E d 198 104 [(2, 83), (0, x1), (0, x2), (0, x3), (9, 0)] [(0, z2), (0, z1), (2, 83)] σ = js_J E d 198 107 [(2, 83), (0, x1), (0, x2), (0, x3), (9, 0)] [] σ2 :=
  j_call0 (m := 0) (js_caV q_198_104 (js_Mo qy_198 qm_12_65)) (js_agV (av := [(0, z1), (0, z2)]) (st := []) rfl rfl js_o83 rfl) rfl rfl (by rw [ql_199]; exact Nat.le_of_ble_eq_true rfl) (Nat.le_of_ble_eq_true rfl) hd hz
theorem b_198_107 {E : js_E} {d : Nat} {σ : js_S} {x1 x2 x3 : Int} : js_J E d 198 107 [(2, 83), (0, x1), (0, x2), (0, x3), (9, 0)] [] σ = (if 0 < js_w (σ 83 9) then js_r E (0, 0) σ else (if 0 ≤ js_w (σ 83 11) ∧ js_w (σ 83 11) < 400 then js_J E d 198 226 [(2, 83), (0, x1), (0, x2), (0, σ 83 11), (0, 0)] [] (js_up (js_up (js_up (js_up (js_up (js_up (js_up (js_up (js_up (js_up (js_up (js_up (js_up σ 86 (js_w (σ 83 11)) x1) 87 (js_w (σ 83 11)) 0) 88 (js_w (σ 83 11)) 0) 89 (js_w (σ 83 11)) 0) 90 (js_w (σ 83 11)) (-1)) 91 (js_w (σ 83 11)) 1) 92 (js_w (σ 83 11)) (js_iand 0 1)) 93 (js_w (σ 83 11)) (σ 83 26)) 94 (js_w (σ 83 11)) 0) 95 (js_w (σ 83 11)) 0) 96 (js_w (σ 83 11)) 0) 99 (js_w (σ 83 11)) (js_iand 0 1)) 97 (js_w (σ 83 11)) ((σ 83 7) - (σ 83 6))) else none)) :=
  (j_aload_n q_198_107 rfl).trans <| (j_get (ji := 9) (v := (0, σ 83 9)) q_198_108 (js_Fo qy_198 qf_12_22) js_o83 rfl rfl rfl rfl).trans <| (j_ifle (t := 116) q_198_111 rfl).trans (js_ite ((j_iconst q_198_114).trans <| j_ireturn q_198_115 qr_198) ((j_aload_n q_198_116 rfl).trans <| (j_get (ji := 11) (v := (0, σ 83 11)) q_198_117 (js_Fo qy_198 qf_12_86) js_o83 rfl rfl rfl rfl).trans <| (j_istore_n (l2 := [(2, 83), (0, x1), (0, x2), (0, σ 83 11), (9, 0)]) q_198_120 rfl (Nat.le_of_ble_eq_true rfl)).trans <| (j_aload_n q_198_121 rfl).trans <| (j_get (ji := 12) (v := (2, 86)) q_198_122 (js_Fo qy_198 qf_12_99) js_o83 rfl rfl rfl rfl).trans <| (j_iload_n q_198_125 rfl).trans <| (j_iload_n q_198_126 rfl).trans <| (j_iastore q_198_127 js_o86).trans <| js_itp fun g0 => (j_aload_n q_198_128 rfl).trans <| (j_get (ji := 13) (v := (2, 87)) q_198_129 (js_Fo qy_198 qf_12_102) js_o83 rfl rfl rfl rfl).trans <| (j_iload_n q_198_132 rfl).trans <| (j_iconst q_198_133).trans <| (j_iastore q_198_134 js_o87).trans <| (if_pos g0).trans <| (j_aload_n q_198_135 rfl).trans <| (j_get (ji := 14) (v := (2, 88)) q_198_136 (js_Fo qy_198 qf_12_105) js_o83 rfl rfl rfl rfl).trans <| (j_iload_n q_198_139 rfl).trans <| (j_iconst q_198_140).trans <| (j_iastore q_198_141 js_o88).trans <| (if_pos g0).trans <| (j_aload_n q_198_142 rfl).trans <| (j_get (ji := 15) (v := (2, 89)) q_198_143 (js_Fo qy_198 qf_12_108) js_o83 rfl rfl rfl rfl).trans <| (j_iload_n q_198_146 rfl).trans <| (j_iconst q_198_147).trans <| (j_iastore q_198_148 js_o89).trans <| (if_pos g0).trans <| (j_aload_n q_198_149 rfl).trans <| (j_get (ji := 16) (v := (2, 90)) q_198_150 (js_Fo qy_198 qf_12_111) js_o83 rfl rfl rfl rfl).trans <| (j_iload_n q_198_153 rfl).trans <| (j_iconst q_198_154).trans <| (j_iastore q_198_155 js_o90).trans <| (if_pos g0).trans <| (j_aload_n q_198_156 rfl).trans <| (j_get (ji := 17) (v := (2, 91)) q_198_157 (js_Fo qy_198 qf_12_114) js_o83 rfl rfl rfl rfl).trans <| (j_iload_n q_198_160 rfl).trans <| (j_iconst q_198_161).trans <| (j_iastore q_198_162 js_o91).trans <| (if_pos g0).trans <| (j_aload_n q_198_163 rfl).trans <| (j_get (ji := 18) (v := (2, 92)) q_198_164 (js_Fo qy_198 qf_12_117) js_o83 rfl rfl rfl rfl).trans <| (j_iload_n q_198_167 rfl).trans <| (j_iconst q_198_168).trans <| (j_zastore q_198_169 js_o92).trans <| (if_pos g0).trans <| (j_aload_n q_198_170 rfl).trans <| (j_get (ji := 19) (v := (2, 93)) q_198_171 (js_Fo qy_198 qf_12_120) js_o83 rfl rfl rfl rfl).trans <| (j_iload_n q_198_174 rfl).trans <| (j_aload_n q_198_175 rfl).trans <| (j_get (ji := 26) (v := (0, σ 83 26)) q_198_176 (js_Fo qy_198 qf_12_123) js_o83 rfl rfl rfl (congrArg (Prod.mk 0) ((js_up_na _ (by decide)).trans <| (js_up_na _ (by decide)).trans <| (js_up_na _ (by decide)).trans <| (js_up_na _ (by decide)).trans <| (js_up_na _ (by decide)).trans <| (js_up_na _ (by decide)).trans <| (js_up_na _ (by decide))))).trans <| (j_iastore q_198_179 js_o93).trans <| (if_pos g0).trans <| (j_aload_n q_198_180 rfl).trans <| (j_get (ji := 20) (v := (2, 94)) q_198_181 (js_Fo qy_198 qf_12_126) js_o83 rfl rfl rfl rfl).trans <| (j_iload_n q_198_184 rfl).trans <| (j_iconst q_198_185).trans <| (j_iastore q_198_186 js_o94).trans <| (if_pos g0).trans <| (j_aload_n q_198_187 rfl).trans <| (j_get (ji := 21) (v := (2, 95)) q_198_188 (js_Fo qy_198 qf_12_129) js_o83 rfl rfl rfl rfl).trans <| (j_iload_n q_198_191 rfl).trans <| (j_iconst q_198_192).trans <| (j_iastore q_198_193 js_o95).trans <| (if_pos g0).trans <| (j_aload_n q_198_194 rfl).trans <| (j_get (ji := 22) (v := (2, 96)) q_198_195 (js_Fo qy_198 qf_12_132) js_o83 rfl rfl rfl rfl).trans <| (j_iload_n q_198_198 rfl).trans <| (j_iconst q_198_199).trans <| (j_iastore q_198_200 js_o96).trans <| (if_pos g0).trans <| (j_aload_n q_198_201 rfl).trans <| (j_get (ji := 25) (v := (2, 99)) q_198_202 (js_Fo qy_198 qf_12_89) js_o83 rfl rfl rfl rfl).trans <| (j_iload_n q_198_205 rfl).trans <| (j_iconst q_198_206).trans <| (j_zastore q_198_207 js_o99).trans <| (if_pos g0).trans <| (j_aload_n q_198_208 rfl).trans <| (j_get (ji := 23) (v := (2, 97)) q_198_209 (js_Fo qy_198 qf_12_79) js_o83 rfl rfl rfl rfl).trans <| (j_iload_n q_198_212 rfl).trans <| (j_aload_n q_198_213 rfl).trans <| (j_get (ji := 7) (v := (0, σ 83 7)) q_198_214 (js_Fo qy_198 qf_12_28) js_o83 rfl rfl rfl (congrArg (Prod.mk 0) ((js_up_na _ (by decide)).trans <| (js_up_na _ (by decide)).trans <| (js_up_na _ (by decide)).trans <| (js_up_na _ (by decide)).trans <| (js_up_na _ (by decide)).trans <| (js_up_na _ (by decide)).trans <| (js_up_na _ (by decide)).trans <| (js_up_na _ (by decide)).trans <| (js_up_na _ (by decide)).trans <| (js_up_na _ (by decide)).trans <| (js_up_na _ (by decide)).trans <| (js_up_na _ (by decide))))).trans <| (j_aload_n q_198_217 rfl).trans <| (j_get (ji := 6) (v := (0, σ 83 6)) q_198_218 (js_Fo qy_198 qf_12_35) js_o83 rfl rfl rfl (congrArg (Prod.mk 0) ((js_up_na _ (by decide)).trans <| (js_up_na _ (by decide)).trans <| (js_up_na _ (by decide)).trans <| (js_up_na _ (by decide)).trans <| (js_up_na _ (by decide)).trans <| (js_up_na _ (by decide)).trans <| (js_up_na _ (by decide)).trans <| (js_up_na _ (by decide)).trans <| (js_up_na _ (by decide)).trans <| (js_up_na _ (by decide)).trans <| (js_up_na _ (by decide)).trans <| (js_up_na _ (by decide))))).trans <| (j_isub q_198_221).trans <| (j_iastore q_198_222 js_o97).trans <| (if_pos g0).trans <| (j_iconst q_198_223).trans <| (j_istore (l2 := [(2, 83), (0, x1), (0, x2), (0, σ 83 11), (0, 0)]) q_198_224 rfl (Nat.le_of_ble_eq_true rfl)).trans <| rfl))
theorem b_198_226 {E : js_E} {d : Nat} {σ : js_S} {x1 x2 x3 x4 : Int} : js_J E d 198 226 [(2, 83), (0, x1), (0, x2), (0, x3), (0, x4)] [] σ = (if 0 ≤ js_w x3 ∧ js_w x3 < 400 then (if js_w x4 < js_w (σ 97 (js_w x3)) then (if 0 ≤ js_w ((σ 83 6) + x4) ∧ js_w ((σ 83 6) + x4) < 65536 then (if 0 ≤ js_w ((20 * x3) + x4) ∧ js_w ((20 * x3) + x4) < 8000 then js_J E d 198 226 [(2, 83), (0, x1), (0, x2), (0, x3), (0, x4 + 1)] [] (js_up σ 98 (js_w ((20 * x3) + x4)) (js_i2b (σ 84 (js_w ((σ 83 6) + x4))))) else none) else none) else js_J E d 198 278 [(2, 83), (0, x1), (0, x2), (0, x3), (0, x4)] [(2, 83)] (js_up σ 83 11 ((σ 83 11) + 1))) else none) :=
  (j_iload q_198_226 rfl).trans <| (j_aload_n q_198_228 rfl).trans <| (j_get (ji := 23) (v := (2, 97)) q_198_229 (js_Fo qy_198 qf_12_79) js_o83 rfl rfl rfl rfl).trans <| (j_iload_n q_198_232 rfl).trans <| (j_iaload q_198_233 js_o97).trans <| js_itp fun g0 => (j_cmpge (t := 267) q_198_234 rfl).trans (js_ite ((j_aload_n q_198_237 rfl).trans <| (j_get (ji := 24) (v := (2, 98)) q_198_238 (js_Fo qy_198 qf_12_83) js_o83 rfl rfl rfl rfl).trans <| (j_bi q_198_241 rfl).trans <| (j_iload_n q_198_243 rfl).trans <| (j_imul q_198_244).trans <| (j_iload q_198_245 rfl).trans <| (j_iadd q_198_247).trans <| (j_aload_n q_198_248 rfl).trans <| (j_get (ji := 1) (v := (2, 84)) q_198_249 (js_Fo qy_198 qf_12_15) js_o83 rfl rfl rfl rfl).trans <| (j_aload_n q_198_252 rfl).trans <| (j_get (ji := 6) (v := (0, σ 83 6)) q_198_253 (js_Fo qy_198 qf_12_35) js_o83 rfl rfl rfl rfl).trans <| (j_iload q_198_256 rfl).trans <| (j_iadd q_198_258).trans <| (j_baload q_198_259 js_o84).trans <| js_itp fun g1 => (j_bastore q_198_260 js_o98).trans <| js_itp fun g2 => (j_iinc (l2 := [(2, 83), (0, x1), (0, x2), (0, x3), (0, x4 + 1)]) q_198_261 rfl rfl).trans <| (j_goto (t := 226) q_198_264 rfl).trans <| rfl) ((j_aload_n q_198_267 rfl).trans <| (j_dupr q_198_268).trans <| (j_get (ji := 11) (v := (0, σ 83 11)) q_198_269 (js_Fo qy_198 qf_12_86) js_o83 rfl rfl rfl rfl).trans <| (j_iconst q_198_272).trans <| (j_iadd q_198_273).trans <| (j_putI (ji := 11) q_198_274 (js_Fo qy_198 qf_12_86) rfl js_o83 rfl rfl rfl).trans <| (j_aload_n q_198_277 rfl).trans <| rfl))
theorem k_198_278 {E : js_E} {d : Nat} {σ σ2 : js_S} {x1 x2 x3 x4 : Int} (hd : 1 ≤ d) (hz : js_J E (d - 1) 191 0 [(2, 83), (9, 0), (9, 0), (9, 0), (9, 0), (9, 0)] [] σ = js_r0 E σ2) : js_J E d 198 278 [(2, 83), (0, x1), (0, x2), (0, x3), (0, x4)] [(2, 83)] σ = js_J E d 198 281 [(2, 83), (0, x1), (0, x2), (0, x3), (0, x4)] [] σ2 :=
  j_call0 (m := 5) (js_caV q_198_278 (js_Mo qy_198 qm_12_68)) (js_agV (av := []) (st := []) rfl rfl js_o83 rfl) rfl rfl (by rw [ql_191]; exact Nat.le_of_ble_eq_true rfl) (Nat.le_of_ble_eq_true rfl) hd hz
theorem b_198_281 {E : js_E} {d : Nat} {σ : js_S} {x1 x2 x3 x4 : Int} : js_J E d 198 281 [(2, 83), (0, x1), (0, x2), (0, x3), (0, x4)] [] σ = js_r E (0, x3) σ :=
  (j_iload_n q_198_281 rfl).trans <| j_ireturn q_198_282 qr_198
-- 199: VitalTwinModel.bad (II)V
theorem b_199_0 {E : js_E} {d : Nat} {σ : js_S} {x1 x2 : Int} : js_J E d 199 0 [(2, 83), (0, x1), (0, x2)] [] σ = (if js_w (σ 83 9) = 0 then js_J E d 199 17 [(2, 83), (0, x1), (0, x2)] [] (js_up σ 83 9 (x1 + (16 * x2))) else js_J E d 199 17 [(2, 83), (0, x1), (0, x2)] [] σ) :=
  (j_aload_n q_199_0 rfl).trans <| (j_get (ji := 9) (v := (0, σ 83 9)) q_199_1 (js_Fo qy_199 qf_12_22) js_o83 rfl rfl rfl rfl).trans <| (j_ifne (t := 17) q_199_4 rfl).trans (js_ite ((j_aload_n q_199_7 rfl).trans <| (j_iload_n q_199_8 rfl).trans <| (j_bi q_199_9 rfl).trans <| (j_iload_n q_199_11 rfl).trans <| (j_imul q_199_12).trans <| (j_iadd q_199_13).trans <| (j_putI (ji := 9) q_199_14 (js_Fo qy_199 qf_12_22) rfl js_o83 rfl rfl rfl).trans <| rfl) (rfl))
theorem b_199_17 {E : js_E} {d : Nat} {σ : js_S} {x1 x2 : Int} : js_J E d 199 17 [(2, 83), (0, x1), (0, x2)] [] σ = js_r0 E (js_up σ 83 5 0) :=
  (j_aload_n q_199_17 rfl).trans <| (j_iconst q_199_18).trans <| (j_putI (ji := 5) q_199_19 (js_Fo qy_199 qf_12_25) rfl js_o83 rfl rfl rfl).trans <| j_return q_199_22 qr_199
-- 200: VitalTwinModel.find ()I
theorem b_200_0 {E : js_E} {d : Nat} {σ : js_S} : js_J E d 200 0 [(2, 83), (9, 0)] [] σ = (if js_w (σ 83 5) = 2 then js_J E d 200 12 [(2, 83), (0, 0)] [] σ else js_r E (0, (-1)) σ) :=
  (j_aload_n q_200_0 rfl).trans <| (j_get (ji := 5) (v := (0, σ 83 5)) q_200_1 (js_Fo qy_200 qf_12_25) js_o83 rfl rfl rfl rfl).trans <| (j_iconst q_200_4).trans <| (j_cmpeqB (t := 10) q_200_5 rfl ww_2).trans (js_ite ((j_iconst q_200_10).trans <| (j_istore_n (l2 := [(2, 83), (0, 0)]) q_200_11 rfl (Nat.le_of_ble_eq_true rfl)).trans <| rfl) ((j_iconst q_200_8).trans <| j_ireturn q_200_9 qr_200))
theorem b_200_12 {E : js_E} {d : Nat} {σ : js_S} {x1 : Int} : js_J E d 200 12 [(2, 83), (0, x1)] [] σ = (if js_w x1 < js_w (σ 83 11) then (if 0 ≤ js_w x1 ∧ js_w x1 < 400 then (if js_w (σ 99 (js_w x1)) = 0 then js_J E d 200 39 [(2, 83), (0, x1)] [] σ else js_J E d 200 31 [(2, 83), (0, x1)] [(0, x1), (2, 83)] σ) else none) else js_r E (0, (-1)) σ) :=
  (j_iload_n q_200_12 rfl).trans <| (j_aload_n q_200_13 rfl).trans <| (j_get (ji := 11) (v := (0, σ 83 11)) q_200_14 (js_Fo qy_200 qf_12_86) js_o83 rfl rfl rfl rfl).trans <| (j_cmpge (t := 45) q_200_17 rfl).trans (js_ite ((j_aload_n q_200_20 rfl).trans <| (j_get (ji := 25) (v := (2, 99)) q_200_21 (js_Fo qy_200 qf_12_89) js_o83 rfl rfl rfl rfl).trans <| (j_iload_n q_200_24 rfl).trans <| (j_zaload q_200_25 js_o99).trans <| js_itp fun g0 => (j_ifeq (t := 39) q_200_26 rfl).trans (js_ite (rfl) ((j_aload_n q_200_29 rfl).trans <| (j_iload_n q_200_30 rfl).trans <| rfl))) ((j_iconst q_200_45).trans <| j_ireturn q_200_46 qr_200))
theorem k_200_31 {E : js_E} {d : Nat} {σ σ2 : js_S} {x1 z1 : Int} {v : Int} (hd : 1 ≤ d) (hz : js_J E (d - 1) 201 0 [(2, 83), (0, z1), (9, 0), (9, 0)] [] σ = js_r E (0, v) σ2) : js_J E d 200 31 [(2, 83), (0, x1)] [(0, z1), (2, 83)] σ = js_J E d 200 34 [(2, 83), (0, x1)] [(0, v)] σ2 :=
  j_call (m := 2) (js_caV q_200_31 (js_Mo qy_200 qm_12_93)) (js_agV (av := [(0, z1)]) (st := []) rfl rfl js_o83 rfl) rfl rfl (by rw [ql_201]; exact Nat.le_of_ble_eq_true rfl) (Nat.le_of_ble_eq_true rfl) hd hz
theorem b_200_34 {E : js_E} {d : Nat} {σ : js_S} {x1 z0 : Int} : js_J E d 200 34 [(2, 83), (0, x1)] [(0, z0)] σ = (if js_w z0 = 0 then js_J E d 200 39 [(2, 83), (0, x1)] [] σ else js_r E (0, x1) σ) :=
  (j_ifeq (t := 39) q_200_34 rfl).trans (js_ite (rfl) ((j_iload_n q_200_37 rfl).trans <| j_ireturn q_200_38 qr_200))
theorem b_200_39 {E : js_E} {d : Nat} {σ : js_S} {x1 : Int} : js_J E d 200 39 [(2, 83), (0, x1)] [] σ = js_J E d 200 12 [(2, 83), (0, x1 + 1)] [] σ :=
  (j_iinc (l2 := [(2, 83), (0, x1 + 1)]) q_200_39 rfl rfl).trans <| (j_goto (t := 12) q_200_42 rfl).trans <| rfl
-- 201: VitalTwinModel.isNamed (I)Z
theorem b_201_0 {E : js_E} {d : Nat} {σ : js_S} {x1 : Int} : js_J E d 201 0 [(2, 83), (0, x1), (9, 0), (9, 0)] [] σ = (if 0 ≤ js_w x1 ∧ js_w x1 < 400 then (if js_w (σ 97 (js_w x1)) = js_w ((σ 83 7) - (σ 83 6)) then js_J E d 201 23 [(2, 83), (0, x1), (9, 0), (9, 0)] [(0, 1)] σ else js_J E d 201 23 [(2, 83), (0, x1), (9, 0), (9, 0)] [(0, 0)] σ) else none) :=
  (j_aload_n q_201_0 rfl).trans <| (j_get (ji := 23) (v := (2, 97)) q_201_1 (js_Fo qy_201 qf_12_79) js_o83 rfl rfl rfl rfl).trans <| (j_iload_n q_201_4 rfl).trans <| (j_iaload q_201_5 js_o97).trans <| js_itp fun g0 => (j_aload_n q_201_6 rfl).trans <| (j_get (ji := 7) (v := (0, σ 83 7)) q_201_7 (js_Fo qy_201 qf_12_28) js_o83 rfl rfl rfl rfl).trans <| (j_aload_n q_201_10 rfl).trans <| (j_get (ji := 6) (v := (0, σ 83 6)) q_201_11 (js_Fo qy_201 qf_12_35) js_o83 rfl rfl rfl rfl).trans <| (j_isub q_201_14).trans <| (j_cmpne (t := 22) q_201_15 rfl).trans (js_ite ((j_iconst q_201_18).trans <| (j_goto (t := 23) q_201_19 rfl).trans <| rfl) ((j_iconst q_201_22).trans <| rfl))
theorem b_201_23 {E : js_E} {d : Nat} {σ : js_S} {x1 z0 : Int} : js_J E d 201 23 [(2, 83), (0, x1), (9, 0), (9, 0)] [(0, z0)] σ = js_J E d 201 26 [(2, 83), (0, x1), (0, z0), (0, 0)] [] σ :=
  (j_istore_n (l2 := [(2, 83), (0, x1), (0, z0), (9, 0)]) q_201_23 rfl (Nat.le_of_ble_eq_true rfl)).trans <| (j_iconst q_201_24).trans <| (j_istore_n (l2 := [(2, 83), (0, x1), (0, z0), (0, 0)]) q_201_25 rfl (Nat.le_of_ble_eq_true rfl)).trans <| rfl
theorem b_201_26 {E : js_E} {d : Nat} {σ : js_S} {x1 x2 x3 : Int} : js_J E d 201 26 [(2, 83), (0, x1), (0, x2), (0, x3)] [] σ = (if 0 ≤ js_w x1 ∧ js_w x1 < 400 then (if js_w x3 < js_w (σ 97 (js_w x1)) then (if js_w x2 = 0 then (if js_w x2 = 0 ∨ js_w x2 = 1 then js_r E (0, x2) σ else none) else (if 0 ≤ js_w ((20 * x1) + x3) ∧ js_w ((20 * x1) + x3) < 8000 then (if 0 ≤ js_w ((σ 83 6) + x3) ∧ js_w ((σ 83 6) + x3) < 65536 then (if js_w (σ 98 (js_w ((20 * x1) + x3))) = js_w (σ 84 (js_w ((σ 83 6) + x3))) then js_J E d 201 70 [(2, 83), (0, x1), (0, x2), (0, x3)] [(0, 1)] σ else js_J E d 201 70 [(2, 83), (0, x1), (0, x2), (0, x3)] [(0, 0)] σ) else none) else none)) else (if js_w x2 = 0 ∨ js_w x2 = 1 then js_r E (0, x2) σ else none)) else none) :=
  (j_iload_n q_201_26 rfl).trans <| (j_aload_n q_201_27 rfl).trans <| (j_get (ji := 23) (v := (2, 97)) q_201_28 (js_Fo qy_201 qf_12_79) js_o83 rfl rfl rfl rfl).trans <| (j_iload_n q_201_31 rfl).trans <| (j_iaload q_201_32 js_o97).trans <| js_itp fun g0 => (j_cmpge (t := 77) q_201_33 rfl).trans (js_ite ((j_iload_n q_201_36 rfl).trans <| (j_ifeq (t := 77) q_201_37 rfl).trans (js_ite ((j_iload_n q_201_77 rfl).trans <| j_breturn q_201_78 qr_201) ((j_aload_n q_201_40 rfl).trans <| (j_get (ji := 24) (v := (2, 98)) q_201_41 (js_Fo qy_201 qf_12_83) js_o83 rfl rfl rfl rfl).trans <| (j_bi q_201_44 rfl).trans <| (j_iload_n q_201_46 rfl).trans <| (j_imul q_201_47).trans <| (j_iload_n q_201_48 rfl).trans <| (j_iadd q_201_49).trans <| (j_baload q_201_50 js_o98).trans <| js_itp fun g1 => (j_aload_n q_201_51 rfl).trans <| (j_get (ji := 1) (v := (2, 84)) q_201_52 (js_Fo qy_201 qf_12_15) js_o83 rfl rfl rfl rfl).trans <| (j_aload_n q_201_55 rfl).trans <| (j_get (ji := 6) (v := (0, σ 83 6)) q_201_56 (js_Fo qy_201 qf_12_35) js_o83 rfl rfl rfl rfl).trans <| (j_iload_n q_201_59 rfl).trans <| (j_iadd q_201_60).trans <| (j_baload q_201_61 js_o84).trans <| js_itp fun g2 => (j_cmpne (t := 69) q_201_62 rfl).trans (js_ite ((j_iconst q_201_65).trans <| (j_goto (t := 70) q_201_66 rfl).trans <| rfl) ((j_iconst q_201_69).trans <| rfl))))) ((j_iload_n q_201_77 rfl).trans <| j_breturn q_201_78 qr_201))
theorem b_201_70 {E : js_E} {d : Nat} {σ : js_S} {x1 x2 x3 z0 : Int} : js_J E d 201 70 [(2, 83), (0, x1), (0, x2), (0, x3)] [(0, z0)] σ = js_J E d 201 26 [(2, 83), (0, x1), (0, z0), (0, x3 + 1)] [] σ :=
  (j_istore_n (l2 := [(2, 83), (0, x1), (0, z0), (0, x3)]) q_201_70 rfl (Nat.le_of_ble_eq_true rfl)).trans <| (j_iinc (l2 := [(2, 83), (0, x1), (0, z0), (0, x3 + 1)]) q_201_71 rfl rfl).trans <| (j_goto (t := 26) q_201_74 rfl).trans <| rfl
-- 202: VitalTwinModel.take (I)V
theorem b_202_0 {E : js_E} {d : Nat} {σ : js_S} {x1 : Int} : js_J E d 202 0 [(2, 83), (0, x1)] [] σ = (if js_w (σ 83 5) = js_w x1 then js_J E d 202 17 [(2, 83), (0, x1)] [] σ else js_J E d 202 14 [(2, 83), (0, x1)] [(0, σ 83 6), (0, 1), (2, 83)] σ) :=
  (j_aload_n q_202_0 rfl).trans <| (j_get (ji := 5) (v := (0, σ 83 5)) q_202_1 (js_Fo qy_202 qf_12_25) js_o83 rfl rfl rfl rfl).trans <| (j_iload_n q_202_4 rfl).trans <| (j_cmpeq (t := 17) q_202_5 rfl).trans (js_ite (rfl) ((j_aload_n q_202_8 rfl).trans <| (j_iconst q_202_9).trans <| (j_aload_n q_202_10 rfl).trans <| (j_get (ji := 6) (v := (0, σ 83 6)) q_202_11 (js_Fo qy_202 qf_12_35) js_o83 rfl rfl rfl rfl).trans <| rfl))
theorem k_202_14 {E : js_E} {d : Nat} {σ σ2 : js_S} {x1 z1 z2 : Int} (hd : 1 ≤ d) (hz : js_J E (d - 1) 199 0 [(2, 83), (0, z1), (0, z2)] [] σ = js_r0 E σ2) : js_J E d 202 14 [(2, 83), (0, x1)] [(0, z2), (0, z1), (2, 83)] σ = js_J E d 202 17 [(2, 83), (0, x1)] [] σ2 :=
  j_call0 (m := 0) (js_caV q_202_14 (js_Mo qy_202 qm_12_65)) (js_agV (av := [(0, z1), (0, z2)]) (st := []) rfl rfl js_o83 rfl) rfl rfl (by rw [ql_199]; exact Nat.le_of_ble_eq_true rfl) (Nat.le_of_ble_eq_true rfl) hd hz
theorem b_202_17 {E : js_E} {d : Nat} {σ : js_S} {x1 : Int} : js_J E d 202 17 [(2, 83), (0, x1)] [] σ = js_J E d 202 18 [(2, 83), (0, x1)] [(2, 83)] σ :=
  (j_aload_n q_202_17 rfl).trans <| rfl
theorem k_202_18 {E : js_E} {d : Nat} {σ σ2 : js_S} {x1 : Int} (hd : 1 ≤ d) (hz : js_J E (d - 1) 191 0 [(2, 83), (9, 0), (9, 0), (9, 0), (9, 0), (9, 0)] [] σ = js_r0 E σ2) : js_J E d 202 18 [(2, 83), (0, x1)] [(2, 83)] σ = js_J E d 202 21 [(2, 83), (0, x1)] [] σ2 :=
  j_call0 (m := 5) (js_caV q_202_18 (js_Mo qy_202 qm_12_68)) (js_agV (av := []) (st := []) rfl rfl js_o83 rfl) rfl rfl (by rw [ql_191]; exact Nat.le_of_ble_eq_true rfl) (Nat.le_of_ble_eq_true rfl) hd hz
theorem b_202_21 {E : js_E} {d : Nat} {σ : js_S} {x1 : Int} : js_J E d 202 21 [(2, 83), (0, x1)] [] σ = js_r0 E σ :=
  j_return q_202_21 qr_202
