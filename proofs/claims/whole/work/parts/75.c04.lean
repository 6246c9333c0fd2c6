/-! part 75.c04: block equations of the class's (and the law's helpers') methods 72 to 88 (printed by wip/whole/tools/gen71.py) -/
theorem qy_74 : vt_O 74 = 1 := by decide +kernel
theorem qr_74 : vt_rc.getD 74 0 = 0 := by decide +kernel
theorem ql_74 : vt_ml.getD 74 0 = 3 := by decide +kernel
theorem qy_80 : vt_O 80 = 5 := by decide +kernel
theorem qr_80 : vt_rc.getD 80 0 = 0 := by decide +kernel
theorem ql_80 : vt_ml.getD 80 0 = 6 := by decide +kernel
theorem qy_83 : vt_O 83 = 5 := by decide +kernel
theorem qr_83 : vt_rc.getD 83 0 = 0 := by decide +kernel
theorem ql_83 : vt_ml.getD 83 0 = 4 := by decide +kernel
theorem qy_84 : vt_O 84 = 5 := by decide +kernel
theorem qr_84 : vt_rc.getD 84 0 = 0 := by decide +kernel
theorem ql_84 : vt_ml.getD 84 0 = 4 := by decide +kernel
theorem qy_81 : vt_O 81 = 5 := by decide +kernel
theorem qr_81 : vt_rc.getD 81 0 = 0 := by decide +kernel
theorem ql_81 : vt_ml.getD 81 0 = 3 := by decide +kernel
theorem qy_86 : vt_O 86 = 5 := by decide +kernel
theorem qr_86 : vt_rc.getD 86 0 = 1 := by decide +kernel
theorem ql_86 : vt_ml.getD 86 0 = 1 := by decide +kernel
theorem qy_88 : vt_O 88 = 5 := by decide +kernel
theorem qr_88 : vt_rc.getD 88 0 = 0 := by decide +kernel
theorem ql_88 : vt_ml.getD 88 0 = 2 := by decide +kernel
theorem qy_89 : vt_O 89 = 5 := by decide +kernel
theorem qr_89 : vt_rc.getD 89 0 = 0 := by decide +kernel
theorem ql_89 : vt_ml.getD 89 0 = 20 := by decide +kernel
theorem q_72_0 : js_I 72 0 = some (.aload_n 0, 1) := by decide +kernel
theorem q_72_1 : js_I 72 1 = some (.getfield 78, 3) := by decide +kernel
theorem q_72_4 : js_I 72 4 = some (.ifCond .ge 7, 3) := by decide +kernel
theorem q_72_7 : js_I 72 7 = some (.iconst 0, 1) := by decide +kernel
theorem q_72_8 : js_I 72 8 = some (.goto 11, 3) := by decide +kernel
theorem q_72_19 : js_I 72 19 = some (.ireturn, 1) := by decide +kernel
theorem q_72_11 : js_I 72 11 = some (.iconst 2, 1) := by decide +kernel
theorem q_72_12 : js_I 72 12 = some (.aload_n 0, 1) := by decide +kernel
theorem q_72_13 : js_I 72 13 = some (.getfield 78, 3) := by decide +kernel
theorem q_72_16 : js_I 72 16 = some (.imul, 1) := by decide +kernel
theorem q_72_17 : js_I 72 17 = some (.iconst 1, 1) := by decide +kernel
theorem q_72_18 : js_I 72 18 = some (.iadd, 1) := by decide +kernel
theorem q_73_0 : js_I 73 0 = some (.aload_n 0, 1) := by decide +kernel
theorem q_73_1 : js_I 73 1 = some (.bipush 27, 2) := by decide +kernel
theorem q_73_3 : js_I 73 3 = some (.aload_n 1, 1) := by decide +kernel
theorem q_73_4 : js_I 73 4 = some (.getfield 81, 3) := by decide +kernel
theorem q_73_7 : js_I 73 7 = some (.iconst 0, 1) := by decide +kernel
theorem q_73_8 : js_I 73 8 = some (.iconst 1, 1) := by decide +kernel
theorem q_73_9 : js_I 73 9 = some (.iconst 0, 1) := by decide +kernel
theorem q_73_10 : js_I 73 10 = some (.iconst 0, 1) := by decide +kernel
theorem q_73_11 : js_I 73 11 = some (.invokevirtual 74, 3) := by decide +kernel
theorem q_73_14 : js_I 73 14 = some (.aload_n 0, 1) := by decide +kernel
theorem q_73_15 : js_I 73 15 = some (.aload_n 0, 1) := by decide +kernel
theorem q_73_16 : js_I 73 16 = some (.getfield 64, 3) := by decide +kernel
theorem q_73_19 : js_I 73 19 = some (.aload_n 1, 1) := by decide +kernel
theorem q_73_20 : js_I 73 20 = some (.getfield 104, 3) := by decide +kernel
theorem q_73_23 : js_I 73 23 = some (.invokestatic 97, 3) := by decide +kernel
theorem q_73_26 : js_I 73 26 = some (.putfield 64, 3) := by decide +kernel
theorem q_73_29 : js_I 73 29 = some (.aload_n 0, 1) := by decide +kernel
theorem q_73_30 : js_I 73 30 = some (.aload_n 1, 1) := by decide +kernel
theorem q_73_31 : js_I 73 31 = some (.getfield 107, 3) := by decide +kernel
theorem q_73_34 : js_I 73 34 = some (.i2l, 1) := by decide +kernel
theorem q_73_35 : js_I 73 35 = some (.invokevirtual 108, 3) := by decide +kernel
theorem q_73_38 : js_I 73 38 = some (.return_, 1) := by decide +kernel
theorem q_74_0 : js_I 74 0 = some (.aload_n 0, 1) := by decide +kernel
theorem q_74_1 : js_I 74 1 = some (.ldc2_w 112, 3) := by decide +kernel
theorem q_74_4 : js_I 74 4 = some (.aload_n 0, 1) := by decide +kernel
theorem q_74_5 : js_I 74 5 = some (.getfield 52, 3) := by decide +kernel
theorem q_74_8 : js_I 74 8 = some (.i2l, 1) := by decide +kernel
theorem q_74_9 : js_I 74 9 = some (.lload_n 1, 1) := by decide +kernel
theorem q_74_10 : js_I 74 10 = some (.ladd, 1) := by decide +kernel
theorem q_74_11 : js_I 74 11 = some (.invokestatic 114, 3) := by decide +kernel
theorem q_74_14 : js_I 74 14 = some (.l2i, 1) := by decide +kernel
theorem q_74_15 : js_I 74 15 = some (.putfield 52, 3) := by decide +kernel
theorem q_74_18 : js_I 74 18 = some (.return_, 1) := by decide +kernel
theorem q_75_0 : js_I 75 0 = some (.aload_n 0, 1) := by decide +kernel
theorem q_75_1 : js_I 75 1 = some (.iload_n 1, 1) := by decide +kernel
theorem q_75_2 : js_I 75 2 = some (.putfield 130, 3) := by decide +kernel
theorem q_75_5 : js_I 75 5 = some (.aload_n 0, 1) := by decide +kernel
theorem q_75_6 : js_I 75 6 = some (.iload_n 2, 1) := by decide +kernel
theorem q_75_7 : js_I 75 7 = some (.putfield 94, 3) := by decide +kernel
theorem q_75_10 : js_I 75 10 = some (.aload_n 0, 1) := by decide +kernel
theorem q_75_11 : js_I 75 11 = some (.iload_n 3, 1) := by decide +kernel
theorem q_75_12 : js_I 75 12 = some (.putfield 97, 3) := by decide +kernel
theorem q_75_15 : js_I 75 15 = some (.return_, 1) := by decide +kernel
theorem q_76_0 : js_I 76 0 = some (.aload_n 0, 1) := by decide +kernel
theorem q_76_1 : js_I 76 1 = some (.getfield 33, 3) := by decide +kernel
theorem q_76_4 : js_I 76 4 = some (.bipush 91, 2) := by decide +kernel
theorem q_76_6 : js_I 76 6 = some (.invokevirtual 124, 3) := by decide +kernel
theorem q_76_9 : js_I 76 9 = some (.aload_n 0, 1) := by decide +kernel
theorem q_76_10 : js_I 76 10 = some (.invokevirtual 177, 3) := by decide +kernel
theorem q_76_13 : js_I 76 13 = some (.aload_n 0, 1) := by decide +kernel
theorem q_76_14 : js_I 76 14 = some (.iconst 0, 1) := by decide +kernel
theorem q_76_15 : js_I 76 15 = some (.iconst 0, 1) := by decide +kernel
theorem q_76_16 : js_I 76 16 = some (.aload_n 1, 1) := by decide +kernel
theorem q_76_17 : js_I 76 17 = some (.getfield 256, 3) := by decide +kernel
theorem q_76_20 : js_I 76 20 = some (.iconst 1, 1) := by decide +kernel
theorem q_76_21 : js_I 76 21 = some (.isub, 1) := by decide +kernel
theorem q_76_22 : js_I 76 22 = some (.invokevirtual 259, 3) := by decide +kernel
theorem q_76_25 : js_I 76 25 = some (.aload_n 0, 1) := by decide +kernel
theorem q_76_26 : js_I 76 26 = some (.getfield 33, 3) := by decide +kernel
theorem q_76_29 : js_I 76 29 = some (.bipush 93, 2) := by decide +kernel
theorem q_76_31 : js_I 76 31 = some (.invokevirtual 191, 3) := by decide +kernel
theorem q_76_34 : js_I 76 34 = some (.return_, 1) := by decide +kernel
theorem q_77_0 : js_I 77 0 = some (.aload_n 0, 1) := by decide +kernel
theorem q_77_1 : js_I 77 1 = some (.iconst 4, 1) := by decide +kernel
theorem q_77_2 : js_I 77 2 = some (.aload_n 1, 1) := by decide +kernel
theorem q_77_3 : js_I 77 3 = some (.getfield 81, 3) := by decide +kernel
theorem q_77_6 : js_I 77 6 = some (.aload_n 1, 1) := by decide +kernel
theorem q_77_7 : js_I 77 7 = some (.getfield 88, 3) := by decide +kernel
theorem q_77_10 : js_I 77 10 = some (.aload_n 1, 1) := by decide +kernel
theorem q_77_11 : js_I 77 11 = some (.getfield 91, 3) := by decide +kernel
theorem q_77_14 : js_I 77 14 = some (.aload_n 1, 1) := by decide +kernel
theorem q_77_15 : js_I 77 15 = some (.getfield 94, 3) := by decide +kernel
theorem q_77_18 : js_I 77 18 = some (.aload_n 1, 1) := by decide +kernel
theorem q_77_19 : js_I 77 19 = some (.invokestatic 84, 3) := by decide +kernel
theorem q_77_22 : js_I 77 22 = some (.invokevirtual 74, 3) := by decide +kernel
theorem q_77_25 : js_I 77 25 = some (.return_, 1) := by decide +kernel
theorem q_78_0 : js_I 78 0 = some (.aload_n 0, 1) := by decide +kernel
theorem q_78_1 : js_I 78 1 = some (.iconst 1, 1) := by decide +kernel
theorem q_78_2 : js_I 78 2 = some (.aload_n 1, 1) := by decide +kernel
theorem q_78_3 : js_I 78 3 = some (.getfield 81, 3) := by decide +kernel
theorem q_78_6 : js_I 78 6 = some (.iconst 0, 1) := by decide +kernel
theorem q_78_7 : js_I 78 7 = some (.iload_n 2, 1) := by decide +kernel
theorem q_78_8 : js_I 78 8 = some (.iload_n 3, 1) := by decide +kernel
theorem q_78_9 : js_I 78 9 = some (.aload_n 1, 1) := by decide +kernel
theorem q_78_10 : js_I 78 10 = some (.invokestatic 84, 3) := by decide +kernel
theorem q_78_13 : js_I 78 13 = some (.invokevirtual 74, 3) := by decide +kernel
theorem q_78_16 : js_I 78 16 = some (.return_, 1) := by decide +kernel
theorem q_79_0 : js_I 79 0 = some (.aload_n 0, 1) := by decide +kernel
theorem q_79_1 : js_I 79 1 = some (.getfield 33, 3) := by decide +kernel
theorem q_79_4 : js_I 79 4 = some (.getfield 65, 3) := by decide +kernel
theorem q_79_7 : js_I 79 7 = some (.istore_n 1, 1) := by decide +kernel
theorem q_79_8 : js_I 79 8 = some (.iload_n 1, 1) := by decide +kernel
theorem q_79_9 : js_I 79 9 = some (.lookupswitch 227 #[(3, 75), (40, 169), (216, 124), (217, 124), (218, 194), (219, 194), (220, 213), (221, 220)], 75) := by decide +kernel
theorem q_79_84 : js_I 79 84 = some (.aload_n 0, 1) := by decide +kernel
theorem q_79_85 : js_I 79 85 = some (.iconst 0, 1) := by decide +kernel
theorem q_79_86 : js_I 79 86 = some (.aload_n 0, 1) := by decide +kernel
theorem q_79_87 : js_I 79 87 = some (.getfield 33, 3) := by decide +kernel
theorem q_79_90 : js_I 79 90 = some (.invokevirtual 187, 3) := by decide +kernel
theorem q_79_93 : js_I 79 93 = some (.aload_n 0, 1) := by decide +kernel
theorem q_79_94 : js_I 79 94 = some (.getfield 33, 3) := by decide +kernel
theorem q_79_97 : js_I 79 97 = some (.invokevirtual 187, 3) := by decide +kernel
theorem q_79_100 : js_I 79 100 = some (.invokevirtual 147, 3) := by decide +kernel
theorem q_79_103 : js_I 79 103 = some (.aload_n 0, 1) := by decide +kernel
theorem q_79_104 : js_I 79 104 = some (.getfield 47, 3) := by decide +kernel
theorem q_79_107 : js_I 79 107 = some (.iconst 0, 1) := by decide +kernel
theorem q_79_108 : js_I 79 108 = some (.aload_n 0, 1) := by decide +kernel
theorem q_79_109 : js_I 79 109 = some (.getfield 94, 3) := by decide +kernel
theorem q_79_112 : js_I 79 112 = some (.aload_n 0, 1) := by decide +kernel
theorem q_79_113 : js_I 79 113 = some (.getfield 94, 3) := by decide +kernel
theorem q_79_116 : js_I 79 116 = some (.aload_n 0, 1) := by decide +kernel
theorem q_79_117 : js_I 79 117 = some (.getfield 97, 3) := by decide +kernel
theorem q_79_120 : js_I 79 120 = some (.invokevirtual 100, 3) := by decide +kernel
theorem q_79_123 : js_I 79 123 = some (.aload_n 0, 1) := by decide +kernel
theorem q_79_124 : js_I 79 124 = some (.getfield 33, 3) := by decide +kernel
theorem q_79_127 : js_I 79 127 = some (.invokevirtual 140, 3) := by decide +kernel
theorem q_79_130 : js_I 79 130 = some (.goto 121, 3) := by decide +kernel
theorem q_79_133 : js_I 79 133 = some (.aload_n 0, 1) := by decide +kernel
theorem q_79_134 : js_I 79 134 = some (.iconst 1, 1) := by decide +kernel
theorem q_79_135 : js_I 79 135 = some (.iconst 0, 1) := by decide +kernel
theorem q_79_136 : js_I 79 136 = some (.iconst 1, 1) := by decide +kernel
theorem q_79_137 : js_I 79 137 = some (.invokevirtual 147, 3) := by decide +kernel
theorem q_79_140 : js_I 79 140 = some (.aload_n 0, 1) := by decide +kernel
theorem q_79_141 : js_I 79 141 = some (.getfield 47, 3) := by decide +kernel
theorem q_79_144 : js_I 79 144 = some (.iconst 0, 1) := by decide +kernel
theorem q_79_145 : js_I 79 145 = some (.iload_n 1, 1) := by decide +kernel
theorem q_79_146 : js_I 79 146 = some (.sipush 216, 3) := by decide +kernel
theorem q_79_149 : js_I 79 149 = some (.if_icmp .ne 7, 3) := by decide +kernel
theorem q_79_152 : js_I 79 152 = some (.iconst 1, 1) := by decide +kernel
theorem q_79_153 : js_I 79 153 = some (.goto 4, 3) := by decide +kernel
theorem q_79_156 : js_I 79 156 = some (.iconst 0, 1) := by decide +kernel
theorem q_79_157 : js_I 79 157 = some (.aload_n 0, 1) := by decide +kernel
theorem q_79_158 : js_I 79 158 = some (.getfield 94, 3) := by decide +kernel
theorem q_79_161 : js_I 79 161 = some (.aload_n 0, 1) := by decide +kernel
theorem q_79_162 : js_I 79 162 = some (.getfield 97, 3) := by decide +kernel
theorem q_79_165 : js_I 79 165 = some (.invokevirtual 100, 3) := by decide +kernel
theorem q_79_168 : js_I 79 168 = some (.aload_n 0, 1) := by decide +kernel
theorem q_79_169 : js_I 79 169 = some (.getfield 33, 3) := by decide +kernel
theorem q_79_172 : js_I 79 172 = some (.invokevirtual 140, 3) := by decide +kernel
theorem q_79_175 : js_I 79 175 = some (.goto 76, 3) := by decide +kernel
theorem q_79_178 : js_I 79 178 = some (.aload_n 0, 1) := by decide +kernel
theorem q_79_179 : js_I 79 179 = some (.getfield 33, 3) := by decide +kernel
theorem q_79_182 : js_I 79 182 = some (.bipush 40, 2) := by decide +kernel
theorem q_79_184 : js_I 79 184 = some (.invokevirtual 124, 3) := by decide +kernel
theorem q_79_187 : js_I 79 187 = some (.aload_n 0, 1) := by decide +kernel
theorem q_79_188 : js_I 79 188 = some (.invokevirtual 177, 3) := by decide +kernel
theorem q_79_191 : js_I 79 191 = some (.aload_n 0, 1) := by decide +kernel
theorem q_79_192 : js_I 79 192 = some (.getfield 33, 3) := by decide +kernel
theorem q_79_195 : js_I 79 195 = some (.bipush 41, 2) := by decide +kernel
theorem q_79_197 : js_I 79 197 = some (.invokevirtual 191, 3) := by decide +kernel
theorem q_79_200 : js_I 79 200 = some (.goto 51, 3) := by decide +kernel
theorem q_79_203 : js_I 79 203 = some (.aload_n 0, 1) := by decide +kernel
theorem q_79_204 : js_I 79 204 = some (.iload_n 1, 1) := by decide +kernel
theorem q_79_205 : js_I 79 205 = some (.sipush 218, 3) := by decide +kernel
theorem q_79_208 : js_I 79 208 = some (.if_icmp .ne 7, 3) := by decide +kernel
theorem q_79_211 : js_I 79 211 = some (.iconst 1, 1) := by decide +kernel
theorem q_79_212 : js_I 79 212 = some (.goto 4, 3) := by decide +kernel
theorem q_79_215 : js_I 79 215 = some (.iconst 0, 1) := by decide +kernel
theorem q_79_216 : js_I 79 216 = some (.invokevirtual 194, 3) := by decide +kernel
theorem q_79_219 : js_I 79 219 = some (.goto 32, 3) := by decide +kernel
theorem q_79_222 : js_I 79 222 = some (.aload_n 0, 1) := by decide +kernel
theorem q_79_223 : js_I 79 223 = some (.invokevirtual 197, 3) := by decide +kernel
theorem q_79_226 : js_I 79 226 = some (.goto 25, 3) := by decide +kernel
theorem q_79_229 : js_I 79 229 = some (.aload_n 0, 1) := by decide +kernel
theorem q_79_230 : js_I 79 230 = some (.invokevirtual 200, 3) := by decide +kernel
theorem q_79_233 : js_I 79 233 = some (.goto 18, 3) := by decide +kernel
theorem q_79_236 : js_I 79 236 = some (.aload_n 0, 1) := by decide +kernel
theorem q_79_237 : js_I 79 237 = some (.getfield 33, 3) := by decide +kernel
theorem q_79_240 : js_I 79 240 = some (.iconst 1, 1) := by decide +kernel
theorem q_79_241 : js_I 79 241 = some (.aload_n 0, 1) := by decide +kernel
theorem q_79_242 : js_I 79 242 = some (.getfield 33, 3) := by decide +kernel
theorem q_79_245 : js_I 79 245 = some (.getfield 56, 3) := by decide +kernel
theorem q_79_248 : js_I 79 248 = some (.invokevirtual 127, 3) := by decide +kernel
theorem q_79_251 : js_I 79 251 = some (.return_, 1) := by decide +kernel
theorem q_80_0 : js_I 80 0 = some (.aload_n 0, 1) := by decide +kernel
theorem q_80_1 : js_I 80 1 = some (.getfield 33, 3) := by decide +kernel
theorem q_80_4 : js_I 80 4 = some (.getfield 56, 3) := by decide +kernel
theorem q_80_7 : js_I 80 7 = some (.istore_n 2, 1) := by decide +kernel
theorem q_80_8 : js_I 80 8 = some (.aload_n 0, 1) := by decide +kernel
theorem q_80_9 : js_I 80 9 = some (.getfield 33, 3) := by decide +kernel
theorem q_80_12 : js_I 80 12 = some (.invokevirtual 140, 3) := by decide +kernel
theorem q_80_15 : js_I 80 15 = some (.aload_n 0, 1) := by decide +kernel
theorem q_80_16 : js_I 80 16 = some (.getfield 33, 3) := by decide +kernel
theorem q_80_19 : js_I 80 19 = some (.bipush 40, 2) := by decide +kernel
theorem q_80_21 : js_I 80 21 = some (.invokevirtual 124, 3) := by decide +kernel
theorem q_80_24 : js_I 80 24 = some (.aload_n 0, 1) := by decide +kernel
theorem q_80_25 : js_I 80 25 = some (.invokevirtual 177, 3) := by decide +kernel
theorem q_80_28 : js_I 80 28 = some (.aload_n 0, 1) := by decide +kernel
theorem q_80_29 : js_I 80 29 = some (.getfield 130, 3) := by decide +kernel
theorem q_80_32 : js_I 80 32 = some (.istore_n 3, 1) := by decide +kernel
theorem q_80_33 : js_I 80 33 = some (.aload_n 0, 1) := by decide +kernel
theorem q_80_34 : js_I 80 34 = some (.getfield 94, 3) := by decide +kernel
theorem q_80_37 : js_I 80 37 = some (.istore 4, 2) := by decide +kernel
theorem q_80_39 : js_I 80 39 = some (.aload_n 0, 1) := by decide +kernel
theorem q_80_40 : js_I 80 40 = some (.getfield 97, 3) := by decide +kernel
theorem q_80_43 : js_I 80 43 = some (.istore 5, 2) := by decide +kernel
theorem q_80_45 : js_I 80 45 = some (.aload_n 0, 1) := by decide +kernel
theorem q_80_46 : js_I 80 46 = some (.getfield 47, 3) := by decide +kernel
theorem q_80_49 : js_I 80 49 = some (.aload_n 0, 1) := by decide +kernel
theorem q_80_50 : js_I 80 50 = some (.getfield 94, 3) := by decide +kernel
theorem q_80_53 : js_I 80 53 = some (.aload_n 0, 1) := by decide +kernel
theorem q_80_54 : js_I 80 54 = some (.getfield 97, 3) := by decide +kernel
theorem q_80_57 : js_I 80 57 = some (.invokevirtual 137, 3) := by decide +kernel
theorem q_80_60 : js_I 80 60 = some (.pop, 1) := by decide +kernel
theorem q_80_61 : js_I 80 61 = some (.aload_n 0, 1) := by decide +kernel
theorem q_80_62 : js_I 80 62 = some (.getfield 33, 3) := by decide +kernel
theorem q_80_65 : js_I 80 65 = some (.bipush 44, 2) := by decide +kernel
theorem q_80_67 : js_I 80 67 = some (.invokevirtual 180, 3) := by decide +kernel
theorem q_80_70 : js_I 80 70 = some (.aload_n 0, 1) := by decide +kernel
theorem q_80_71 : js_I 80 71 = some (.invokevirtual 177, 3) := by decide +kernel
theorem q_80_74 : js_I 80 74 = some (.aload_n 0, 1) := by decide +kernel
theorem q_80_75 : js_I 80 75 = some (.iload_n 3, 1) := by decide +kernel
theorem q_80_76 : js_I 80 76 = some (.iload_n 2, 1) := by decide +kernel
theorem q_80_77 : js_I 80 77 = some (.invokevirtual 203, 3) := by decide +kernel
theorem q_80_80 : js_I 80 80 = some (.iload_n 1, 1) := by decide +kernel
theorem q_80_81 : js_I 80 81 = some (.ifCond .eq 29, 3) := by decide +kernel
theorem q_80_110 : js_I 80 110 = some (.aload_n 0, 1) := by decide +kernel
theorem q_80_111 : js_I 80 111 = some (.iconst 0, 1) := by decide +kernel
theorem q_80_112 : js_I 80 112 = some (.iload 4, 2) := by decide +kernel
theorem q_80_114 : js_I 80 114 = some (.aload_n 0, 1) := by decide +kernel
theorem q_80_115 : js_I 80 115 = some (.getfield 94, 3) := by decide +kernel
theorem q_80_118 : js_I 80 118 = some (.invokestatic 185, 3) := by decide +kernel
theorem q_80_121 : js_I 80 121 = some (.iload 5, 2) := by decide +kernel
theorem q_80_123 : js_I 80 123 = some (.aload_n 0, 1) := by decide +kernel
theorem q_80_124 : js_I 80 124 = some (.getfield 97, 3) := by decide +kernel
theorem q_80_127 : js_I 80 127 = some (.invokestatic 185, 3) := by decide +kernel
theorem q_80_130 : js_I 80 130 = some (.invokevirtual 147, 3) := by decide +kernel
theorem q_80_84 : js_I 80 84 = some (.aload_n 0, 1) := by decide +kernel
theorem q_80_85 : js_I 80 85 = some (.iconst 0, 1) := by decide +kernel
theorem q_80_86 : js_I 80 86 = some (.iload 4, 2) := by decide +kernel
theorem q_80_88 : js_I 80 88 = some (.aload_n 0, 1) := by decide +kernel
theorem q_80_89 : js_I 80 89 = some (.getfield 94, 3) := by decide +kernel
theorem q_80_92 : js_I 80 92 = some (.invokestatic 183, 3) := by decide +kernel
theorem q_80_95 : js_I 80 95 = some (.iload 5, 2) := by decide +kernel
theorem q_80_97 : js_I 80 97 = some (.aload_n 0, 1) := by decide +kernel
theorem q_80_98 : js_I 80 98 = some (.getfield 97, 3) := by decide +kernel
theorem q_80_101 : js_I 80 101 = some (.invokestatic 183, 3) := by decide +kernel
theorem q_80_104 : js_I 80 104 = some (.invokevirtual 147, 3) := by decide +kernel
theorem q_80_107 : js_I 80 107 = some (.goto 26, 3) := by decide +kernel
theorem q_80_133 : js_I 80 133 = some (.aload_n 0, 1) := by decide +kernel
theorem q_80_134 : js_I 80 134 = some (.getfield 47, 3) := by decide +kernel
theorem q_80_137 : js_I 80 137 = some (.iload_n 1, 1) := by decide +kernel
theorem q_80_138 : js_I 80 138 = some (.ifCond .eq 8, 3) := by decide +kernel
theorem q_80_146 : js_I 80 146 = some (.bipush 12, 2) := by decide +kernel
theorem q_80_141 : js_I 80 141 = some (.bipush 11, 2) := by decide +kernel
theorem q_80_143 : js_I 80 143 = some (.goto 5, 3) := by decide +kernel
theorem q_80_148 : js_I 80 148 = some (.aload_n 0, 1) := by decide +kernel
theorem q_80_149 : js_I 80 149 = some (.getfield 94, 3) := by decide +kernel
theorem q_80_152 : js_I 80 152 = some (.aload_n 0, 1) := by decide +kernel
theorem q_80_153 : js_I 80 153 = some (.getfield 97, 3) := by decide +kernel
theorem q_80_156 : js_I 80 156 = some (.invokevirtual 104, 3) := by decide +kernel
theorem q_80_159 : js_I 80 159 = some (.aload_n 0, 1) := by decide +kernel
theorem q_80_160 : js_I 80 160 = some (.getfield 33, 3) := by decide +kernel
theorem q_80_163 : js_I 80 163 = some (.bipush 41, 2) := by decide +kernel
theorem q_80_165 : js_I 80 165 = some (.invokevirtual 191, 3) := by decide +kernel
theorem q_80_168 : js_I 80 168 = some (.return_, 1) := by decide +kernel
theorem q_81_0 : js_I 81 0 = some (.iload_n 1, 1) := by decide +kernel
theorem q_81_1 : js_I 81 1 = some (.ifCond .ne 10, 3) := by decide +kernel
theorem q_81_4 : js_I 81 4 = some (.aload_n 0, 1) := by decide +kernel
theorem q_81_5 : js_I 81 5 = some (.getfield 130, 3) := by decide +kernel
theorem q_81_8 : js_I 81 8 = some (.ifCond .eq 12, 3) := by decide +kernel
theorem q_81_11 : js_I 81 11 = some (.aload_n 0, 1) := by decide +kernel
theorem q_81_12 : js_I 81 12 = some (.getfield 33, 3) := by decide +kernel
theorem q_81_15 : js_I 81 15 = some (.iconst 5, 1) := by decide +kernel
theorem q_81_16 : js_I 81 16 = some (.iload_n 2, 1) := by decide +kernel
theorem q_81_17 : js_I 81 17 = some (.invokevirtual 127, 3) := by decide +kernel
theorem q_81_20 : js_I 81 20 = some (.return_, 1) := by decide +kernel
theorem q_82_0 : js_I 82 0 = some (.aload_n 0, 1) := by decide +kernel
theorem q_82_1 : js_I 82 1 = some (.iconst 3, 1) := by decide +kernel
theorem q_82_2 : js_I 82 2 = some (.iconst 0, 1) := by decide +kernel
theorem q_82_3 : js_I 82 3 = some (.iconst 0, 1) := by decide +kernel
theorem q_82_4 : js_I 82 4 = some (.iconst 1, 1) := by decide +kernel
theorem q_82_5 : js_I 82 5 = some (.iconst 0, 1) := by decide +kernel
theorem q_82_6 : js_I 82 6 = some (.iconst 0, 1) := by decide +kernel
theorem q_82_7 : js_I 82 7 = some (.invokevirtual 74, 3) := by decide +kernel
theorem q_82_10 : js_I 82 10 = some (.aload_n 0, 1) := by decide +kernel
theorem q_82_11 : js_I 82 11 = some (.iconst 0, 1) := by decide +kernel
theorem q_82_12 : js_I 82 12 = some (.sipush 1024, 3) := by decide +kernel
theorem q_82_15 : js_I 82 15 = some (.aload_n 0, 1) := by decide +kernel
theorem q_82_16 : js_I 82 16 = some (.getfield 58, 3) := by decide +kernel
theorem q_82_19 : js_I 82 19 = some (.invokestatic 68, 3) := by decide +kernel
theorem q_82_22 : js_I 82 22 = some (.iconst 1, 1) := by decide +kernel
theorem q_82_23 : js_I 82 23 = some (.isub, 1) := by decide +kernel
theorem q_82_24 : js_I 82 24 = some (.invokestatic 97, 3) := by decide +kernel
theorem q_82_27 : js_I 82 27 = some (.putfield 58, 3) := by decide +kernel
theorem q_82_30 : js_I 82 30 = some (.aload_n 0, 1) := by decide +kernel
theorem q_82_31 : js_I 82 31 = some (.iconst 1, 1) := by decide +kernel
theorem q_82_32 : js_I 82 32 = some (.aload_n 0, 1) := by decide +kernel
theorem q_82_33 : js_I 82 33 = some (.getfield 58, 3) := by decide +kernel
theorem q_82_36 : js_I 82 36 = some (.iconst 0, 1) := by decide +kernel
theorem q_82_37 : js_I 82 37 = some (.aload_n 0, 1) := by decide +kernel
theorem q_82_38 : js_I 82 38 = some (.getfield 36, 3) := by decide +kernel
theorem q_82_41 : js_I 82 41 = some (.aload_n 0, 1) := by decide +kernel
theorem q_82_42 : js_I 82 42 = some (.getfield 58, 3) := by decide +kernel
theorem q_82_45 : js_I 82 45 = some (.iaload, 1) := by decide +kernel
theorem q_82_46 : js_I 82 46 = some (.aload_n 0, 1) := by decide +kernel
theorem q_82_47 : js_I 82 47 = some (.getfield 39, 3) := by decide +kernel
theorem q_82_50 : js_I 82 50 = some (.aload_n 0, 1) := by decide +kernel
theorem q_82_51 : js_I 82 51 = some (.getfield 58, 3) := by decide +kernel
theorem q_82_54 : js_I 82 54 = some (.iaload, 1) := by decide +kernel
theorem q_82_55 : js_I 82 55 = some (.aload_n 0, 1) := by decide +kernel
theorem q_82_56 : js_I 82 56 = some (.invokevirtual 100, 3) := by decide +kernel
theorem q_82_59 : js_I 82 59 = some (.invokevirtual 74, 3) := by decide +kernel
theorem q_82_62 : js_I 82 62 = some (.aload_n 0, 1) := by decide +kernel
theorem q_82_63 : js_I 82 63 = some (.iload_n 1, 1) := by decide +kernel
theorem q_82_64 : js_I 82 64 = some (.iconst 0, 1) := by decide +kernel
theorem q_82_65 : js_I 82 65 = some (.iconst 0, 1) := by decide +kernel
theorem q_82_66 : js_I 82 66 = some (.iload_n 2, 1) := by decide +kernel
theorem q_82_67 : js_I 82 67 = some (.iload_n 3, 1) := by decide +kernel
theorem q_82_68 : js_I 82 68 = some (.iconst 0, 1) := by decide +kernel
theorem q_82_69 : js_I 82 69 = some (.invokevirtual 74, 3) := by decide +kernel
theorem q_82_72 : js_I 82 72 = some (.return_, 1) := by decide +kernel
theorem q_83_0 : js_I 83 0 = some (.aload_n 0, 1) := by decide +kernel
theorem q_83_1 : js_I 83 1 = some (.getfield 33, 3) := by decide +kernel
theorem q_83_4 : js_I 83 4 = some (.getfield 56, 3) := by decide +kernel
theorem q_83_7 : js_I 83 7 = some (.istore_n 1, 1) := by decide +kernel
theorem q_83_8 : js_I 83 8 = some (.aload_n 0, 1) := by decide +kernel
theorem q_83_9 : js_I 83 9 = some (.getfield 33, 3) := by decide +kernel
theorem q_83_12 : js_I 83 12 = some (.invokevirtual 140, 3) := by decide +kernel
theorem q_83_15 : js_I 83 15 = some (.aload_n 0, 1) := by decide +kernel
theorem q_83_16 : js_I 83 16 = some (.getfield 33, 3) := by decide +kernel
theorem q_83_19 : js_I 83 19 = some (.bipush 40, 2) := by decide +kernel
theorem q_83_21 : js_I 83 21 = some (.invokevirtual 124, 3) := by decide +kernel
theorem q_83_24 : js_I 83 24 = some (.aload_n 0, 1) := by decide +kernel
theorem q_83_25 : js_I 83 25 = some (.invokevirtual 177, 3) := by decide +kernel
theorem q_83_28 : js_I 83 28 = some (.aload_n 0, 1) := by decide +kernel
theorem q_83_29 : js_I 83 29 = some (.aload_n 0, 1) := by decide +kernel
theorem q_83_30 : js_I 83 30 = some (.getfield 130, 3) := by decide +kernel
theorem q_83_33 : js_I 83 33 = some (.iload_n 1, 1) := by decide +kernel
theorem q_83_34 : js_I 83 34 = some (.invokevirtual 203, 3) := by decide +kernel
theorem q_83_37 : js_I 83 37 = some (.aload_n 0, 1) := by decide +kernel
theorem q_83_38 : js_I 83 38 = some (.getfield 94, 3) := by decide +kernel
theorem q_83_41 : js_I 83 41 = some (.ifCond .gt 14, 3) := by decide +kernel
theorem q_83_44 : js_I 83 44 = some (.aload_n 0, 1) := by decide +kernel
theorem q_83_45 : js_I 83 45 = some (.getfield 97, 3) := by decide +kernel
theorem q_83_48 : js_I 83 48 = some (.ifCond .lt 7, 3) := by decide +kernel
theorem q_83_51 : js_I 83 51 = some (.iconst 1, 1) := by decide +kernel
theorem q_83_52 : js_I 83 52 = some (.goto 4, 3) := by decide +kernel
theorem q_83_55 : js_I 83 55 = some (.iconst 0, 1) := by decide +kernel
theorem q_83_56 : js_I 83 56 = some (.istore_n 2, 1) := by decide +kernel
theorem q_83_57 : js_I 83 57 = some (.iload_n 2, 1) := by decide +kernel
theorem q_83_58 : js_I 83 58 = some (.ifCond .eq 7, 3) := by decide +kernel
theorem q_83_65 : js_I 83 65 = some (.aload_n 0, 1) := by decide +kernel
theorem q_83_66 : js_I 83 66 = some (.getfield 94, 3) := by decide +kernel
theorem q_83_69 : js_I 83 69 = some (.invokestatic 206, 3) := by decide +kernel
theorem q_83_72 : js_I 83 72 = some (.aload_n 0, 1) := by decide +kernel
theorem q_83_73 : js_I 83 73 = some (.getfield 97, 3) := by decide +kernel
theorem q_83_76 : js_I 83 76 = some (.invokestatic 206, 3) := by decide +kernel
theorem q_83_79 : js_I 83 79 = some (.invokestatic 183, 3) := by decide +kernel
theorem q_83_61 : js_I 83 61 = some (.iconst 0, 1) := by decide +kernel
theorem q_83_62 : js_I 83 62 = some (.goto 20, 3) := by decide +kernel
theorem q_83_82 : js_I 83 82 = some (.istore_n 3, 1) := by decide +kernel
theorem q_83_83 : js_I 83 83 = some (.aload_n 0, 1) := by decide +kernel
theorem q_83_84 : js_I 83 84 = some (.iconst 0, 1) := by decide +kernel
theorem q_83_85 : js_I 83 85 = some (.iload_n 3, 1) := by decide +kernel
theorem q_83_86 : js_I 83 86 = some (.aload_n 0, 1) := by decide +kernel
theorem q_83_87 : js_I 83 87 = some (.getfield 94, 3) := by decide +kernel
theorem q_83_90 : js_I 83 90 = some (.invokestatic 206, 3) := by decide +kernel
theorem q_83_93 : js_I 83 93 = some (.aload_n 0, 1) := by decide +kernel
theorem q_83_94 : js_I 83 94 = some (.getfield 97, 3) := by decide +kernel
theorem q_83_97 : js_I 83 97 = some (.invokestatic 206, 3) := by decide +kernel
theorem q_83_100 : js_I 83 100 = some (.invokestatic 185, 3) := by decide +kernel
theorem q_83_103 : js_I 83 103 = some (.invokevirtual 147, 3) := by decide +kernel
theorem q_83_106 : js_I 83 106 = some (.aload_n 0, 1) := by decide +kernel
theorem q_83_107 : js_I 83 107 = some (.getfield 47, 3) := by decide +kernel
theorem q_83_110 : js_I 83 110 = some (.bipush 20, 2) := by decide +kernel
theorem q_83_112 : js_I 83 112 = some (.iconst 0, 1) := by decide +kernel
theorem q_83_113 : js_I 83 113 = some (.aload_n 0, 1) := by decide +kernel
theorem q_83_114 : js_I 83 114 = some (.getfield 94, 3) := by decide +kernel
theorem q_83_117 : js_I 83 117 = some (.aload_n 0, 1) := by decide +kernel
theorem q_83_118 : js_I 83 118 = some (.getfield 97, 3) := by decide +kernel
theorem q_83_121 : js_I 83 121 = some (.invokevirtual 100, 3) := by decide +kernel
theorem q_83_124 : js_I 83 124 = some (.aload_n 0, 1) := by decide +kernel
theorem q_83_125 : js_I 83 125 = some (.getfield 33, 3) := by decide +kernel
theorem q_83_128 : js_I 83 128 = some (.bipush 41, 2) := by decide +kernel
theorem q_83_130 : js_I 83 130 = some (.invokevirtual 191, 3) := by decide +kernel
theorem q_83_133 : js_I 83 133 = some (.return_, 1) := by decide +kernel
theorem q_84_0 : js_I 84 0 = some (.aload_n 0, 1) := by decide +kernel
theorem q_84_1 : js_I 84 1 = some (.getfield 33, 3) := by decide +kernel
theorem q_84_4 : js_I 84 4 = some (.getfield 56, 3) := by decide +kernel
theorem q_84_7 : js_I 84 7 = some (.istore_n 1, 1) := by decide +kernel
theorem q_84_8 : js_I 84 8 = some (.aload_n 0, 1) := by decide +kernel
theorem q_84_9 : js_I 84 9 = some (.getfield 33, 3) := by decide +kernel
theorem q_84_12 : js_I 84 12 = some (.invokevirtual 140, 3) := by decide +kernel
theorem q_84_15 : js_I 84 15 = some (.aload_n 0, 1) := by decide +kernel
theorem q_84_16 : js_I 84 16 = some (.getfield 33, 3) := by decide +kernel
theorem q_84_19 : js_I 84 19 = some (.bipush 40, 2) := by decide +kernel
theorem q_84_21 : js_I 84 21 = some (.invokevirtual 124, 3) := by decide +kernel
theorem q_84_24 : js_I 84 24 = some (.aload_n 0, 1) := by decide +kernel
theorem q_84_25 : js_I 84 25 = some (.invokevirtual 177, 3) := by decide +kernel
theorem q_84_28 : js_I 84 28 = some (.aload_n 0, 1) := by decide +kernel
theorem q_84_29 : js_I 84 29 = some (.aload_n 0, 1) := by decide +kernel
theorem q_84_30 : js_I 84 30 = some (.getfield 130, 3) := by decide +kernel
theorem q_84_33 : js_I 84 33 = some (.iload_n 1, 1) := by decide +kernel
theorem q_84_34 : js_I 84 34 = some (.invokevirtual 203, 3) := by decide +kernel
theorem q_84_37 : js_I 84 37 = some (.aload_n 0, 1) := by decide +kernel
theorem q_84_38 : js_I 84 38 = some (.getfield 33, 3) := by decide +kernel
theorem q_84_41 : js_I 84 41 = some (.bipush 44, 2) := by decide +kernel
theorem q_84_43 : js_I 84 43 = some (.invokevirtual 180, 3) := by decide +kernel
theorem q_84_46 : js_I 84 46 = some (.aload_n 0, 1) := by decide +kernel
theorem q_84_47 : js_I 84 47 = some (.getfield 48, 3) := by decide +kernel
theorem q_84_50 : js_I 84 50 = some (.iconst 0, 1) := by decide +kernel
theorem q_84_51 : js_I 84 51 = some (.invokevirtual 208, 3) := by decide +kernel
theorem q_84_54 : js_I 84 54 = some (.istore_n 2, 1) := by decide +kernel
theorem q_84_55 : js_I 84 55 = some (.aload_n 0, 1) := by decide +kernel
theorem q_84_56 : js_I 84 56 = some (.iconst 0, 1) := by decide +kernel
theorem q_84_57 : js_I 84 57 = some (.aload_n 0, 1) := by decide +kernel
theorem q_84_58 : js_I 84 58 = some (.getfield 94, 3) := by decide +kernel
theorem q_84_61 : js_I 84 61 = some (.iload_n 2, 1) := by decide +kernel
theorem q_84_62 : js_I 84 62 = some (.invokestatic 185, 3) := by decide +kernel
theorem q_84_65 : js_I 84 65 = some (.aload_n 0, 1) := by decide +kernel
theorem q_84_66 : js_I 84 66 = some (.getfield 97, 3) := by decide +kernel
theorem q_84_69 : js_I 84 69 = some (.iload_n 2, 1) := by decide +kernel
theorem q_84_70 : js_I 84 70 = some (.invokestatic 185, 3) := by decide +kernel
theorem q_84_73 : js_I 84 73 = some (.invokevirtual 147, 3) := by decide +kernel
theorem q_84_76 : js_I 84 76 = some (.aload_n 0, 1) := by decide +kernel
theorem q_84_77 : js_I 84 77 = some (.getfield 47, 3) := by decide +kernel
theorem q_84_80 : js_I 84 80 = some (.bipush 22, 2) := by decide +kernel
theorem q_84_82 : js_I 84 82 = some (.iload_n 2, 1) := by decide +kernel
theorem q_84_83 : js_I 84 83 = some (.aload_n 0, 1) := by decide +kernel
theorem q_84_84 : js_I 84 84 = some (.getfield 94, 3) := by decide +kernel
theorem q_84_87 : js_I 84 87 = some (.aload_n 0, 1) := by decide +kernel
theorem q_84_88 : js_I 84 88 = some (.getfield 97, 3) := by decide +kernel
theorem q_84_91 : js_I 84 91 = some (.invokevirtual 100, 3) := by decide +kernel
theorem q_84_94 : js_I 84 94 = some (.aload_n 0, 1) := by decide +kernel
theorem q_84_95 : js_I 84 95 = some (.getfield 33, 3) := by decide +kernel
theorem q_84_98 : js_I 84 98 = some (.bipush 44, 2) := by decide +kernel
theorem q_84_100 : js_I 84 100 = some (.invokevirtual 180, 3) := by decide +kernel
theorem q_84_103 : js_I 84 103 = some (.aload_n 0, 1) := by decide +kernel
theorem q_84_104 : js_I 84 104 = some (.getfield 48, 3) := by decide +kernel
theorem q_84_107 : js_I 84 107 = some (.iconst 0, 1) := by decide +kernel
theorem q_84_108 : js_I 84 108 = some (.invokevirtual 208, 3) := by decide +kernel
theorem q_84_111 : js_I 84 111 = some (.istore_n 3, 1) := by decide +kernel
theorem q_84_112 : js_I 84 112 = some (.aload_n 0, 1) := by decide +kernel
theorem q_84_113 : js_I 84 113 = some (.getfield 48, 3) := by decide +kernel
theorem q_84_116 : js_I 84 116 = some (.iload_n 2, 1) := by decide +kernel
theorem q_84_117 : js_I 84 117 = some (.invokevirtual 213, 3) := by decide +kernel
theorem q_84_120 : js_I 84 120 = some (.aload_n 0, 1) := by decide +kernel
theorem q_84_121 : js_I 84 121 = some (.iconst 0, 1) := by decide +kernel
theorem q_84_122 : js_I 84 122 = some (.aload_n 0, 1) := by decide +kernel
theorem q_84_123 : js_I 84 123 = some (.getfield 94, 3) := by decide +kernel
theorem q_84_126 : js_I 84 126 = some (.iload_n 3, 1) := by decide +kernel
theorem q_84_127 : js_I 84 127 = some (.invokestatic 183, 3) := by decide +kernel
theorem q_84_130 : js_I 84 130 = some (.aload_n 0, 1) := by decide +kernel
theorem q_84_131 : js_I 84 131 = some (.getfield 97, 3) := by decide +kernel
theorem q_84_134 : js_I 84 134 = some (.iload_n 3, 1) := by decide +kernel
theorem q_84_135 : js_I 84 135 = some (.invokestatic 183, 3) := by decide +kernel
theorem q_84_138 : js_I 84 138 = some (.invokevirtual 147, 3) := by decide +kernel
theorem q_84_141 : js_I 84 141 = some (.aload_n 0, 1) := by decide +kernel
theorem q_84_142 : js_I 84 142 = some (.getfield 47, 3) := by decide +kernel
theorem q_84_145 : js_I 84 145 = some (.bipush 23, 2) := by decide +kernel
theorem q_84_147 : js_I 84 147 = some (.iload_n 3, 1) := by decide +kernel
theorem q_84_148 : js_I 84 148 = some (.aload_n 0, 1) := by decide +kernel
theorem q_84_149 : js_I 84 149 = some (.getfield 94, 3) := by decide +kernel
theorem q_84_152 : js_I 84 152 = some (.aload_n 0, 1) := by decide +kernel
theorem q_84_153 : js_I 84 153 = some (.getfield 97, 3) := by decide +kernel
theorem q_84_156 : js_I 84 156 = some (.invokevirtual 100, 3) := by decide +kernel
theorem q_84_159 : js_I 84 159 = some (.aload_n 0, 1) := by decide +kernel
theorem q_84_160 : js_I 84 160 = some (.getfield 33, 3) := by decide +kernel
theorem q_84_163 : js_I 84 163 = some (.bipush 41, 2) := by decide +kernel
theorem q_84_165 : js_I 84 165 = some (.invokevirtual 191, 3) := by decide +kernel
theorem q_84_168 : js_I 84 168 = some (.return_, 1) := by decide +kernel
theorem q_85_0 : js_I 85 0 = some (.aload_n 0, 1) := by decide +kernel
theorem q_85_1 : js_I 85 1 = some (.getfield 33, 3) := by decide +kernel
theorem q_85_4 : js_I 85 4 = some (.getfield 65, 3) := by decide +kernel
theorem q_85_7 : js_I 85 7 = some (.invokestatic 117, 3) := by decide +kernel
theorem q_85_10 : js_I 85 10 = some (.istore_n 2, 1) := by decide +kernel
theorem q_85_11 : js_I 85 11 = some (.iload_n 2, 1) := by decide +kernel
theorem q_85_12 : js_I 85 12 = some (.iconst 3, 1) := by decide +kernel
theorem q_85_13 : js_I 85 13 = some (.if_icmp .ne 31, 3) := by decide +kernel
theorem q_85_16 : js_I 85 16 = some (.iload_n 1, 1) := by decide +kernel
theorem q_85_17 : js_I 85 17 = some (.istore_n 3, 1) := by decide +kernel
theorem q_85_44 : js_I 85 44 = some (.iload_n 2, 1) := by decide +kernel
theorem q_85_45 : js_I 85 45 = some (.ireturn, 1) := by decide +kernel
theorem q_85_18 : js_I 85 18 = some (.iload_n 3, 1) := by decide +kernel
theorem q_85_19 : js_I 85 19 = some (.aload_n 0, 1) := by decide +kernel
theorem q_85_20 : js_I 85 20 = some (.getfield 52, 3) := by decide +kernel
theorem q_85_23 : js_I 85 23 = some (.if_icmp .ge 21, 3) := by decide +kernel
theorem q_85_26 : js_I 85 26 = some (.aload_n 0, 1) := by decide +kernel
theorem q_85_27 : js_I 85 27 = some (.getfield 15, 3) := by decide +kernel
theorem q_85_30 : js_I 85 30 = some (.iload_n 3, 1) := by decide +kernel
theorem q_85_31 : js_I 85 31 = some (.iaload, 1) := by decide +kernel
theorem q_85_32 : js_I 85 32 = some (.iconst 3, 1) := by decide +kernel
theorem q_85_33 : js_I 85 33 = some (.if_icmp .ne 5, 3) := by decide +kernel
theorem q_85_36 : js_I 85 36 = some (.iconst 0, 1) := by decide +kernel
theorem q_85_37 : js_I 85 37 = some (.ireturn, 1) := by decide +kernel
theorem q_85_38 : js_I 85 38 = some (.iinc 3 1, 3) := by decide +kernel
theorem q_85_41 : js_I 85 41 = some (.goto (-23), 3) := by decide +kernel
theorem q_86_0 : js_I 86 0 = some (.iload_n 0, 1) := by decide +kernel
theorem q_86_1 : js_I 86 1 = some (.lookupswitch 125 #[(37, 123), (42, 123), (43, 121), (45, 121), (47, 123), (60, 119), (62, 119), (129, 119), (130, 119), (131, 119), (132, 119), (133, 117), (134, 115)], 115) := by decide +kernel
theorem q_86_116 : js_I 86 116 = some (.iconst 1, 1) := by decide +kernel
theorem q_86_117 : js_I 86 117 = some (.ireturn, 1) := by decide +kernel
theorem q_86_118 : js_I 86 118 = some (.iconst 2, 1) := by decide +kernel
theorem q_86_119 : js_I 86 119 = some (.ireturn, 1) := by decide +kernel
theorem q_86_120 : js_I 86 120 = some (.iconst 3, 1) := by decide +kernel
theorem q_86_121 : js_I 86 121 = some (.ireturn, 1) := by decide +kernel
theorem q_86_122 : js_I 86 122 = some (.iconst 4, 1) := by decide +kernel
theorem q_86_123 : js_I 86 123 = some (.ireturn, 1) := by decide +kernel
theorem q_86_124 : js_I 86 124 = some (.iconst 5, 1) := by decide +kernel
theorem q_86_125 : js_I 86 125 = some (.ireturn, 1) := by decide +kernel
theorem q_86_126 : js_I 86 126 = some (.iconst 0, 1) := by decide +kernel
theorem q_86_127 : js_I 86 127 = some (.ireturn, 1) := by decide +kernel
theorem q_87_0 : js_I 87 0 = some (.aload_n 0, 1) := by decide +kernel
theorem q_87_1 : js_I 87 1 = some (.getfield 21, 3) := by decide +kernel
theorem q_87_4 : js_I 87 4 = some (.aload_n 0, 1) := by decide +kernel
theorem q_87_5 : js_I 87 5 = some (.getfield 52, 3) := by decide +kernel
theorem q_87_8 : js_I 87 8 = some (.iaload, 1) := by decide +kernel
theorem q_87_9 : js_I 87 9 = some (.istore_n 1, 1) := by decide +kernel
theorem q_87_10 : js_I 87 10 = some (.aload_n 0, 1) := by decide +kernel
theorem q_87_11 : js_I 87 11 = some (.getfield 15, 3) := by decide +kernel
theorem q_87_14 : js_I 87 14 = some (.aload_n 0, 1) := by decide +kernel
theorem q_87_15 : js_I 87 15 = some (.getfield 52, 3) := by decide +kernel
theorem q_87_18 : js_I 87 18 = some (.iaload, 1) := by decide +kernel
theorem q_87_19 : js_I 87 19 = some (.tableswitch 196 1 6 #[97, 97, 122, 196, 196, 37], 37) := by decide +kernel
theorem q_87_56 : js_I 87 56 = some (.aload_n 0, 1) := by decide +kernel
theorem q_87_57 : js_I 87 57 = some (.aload_n 0, 1) := by decide +kernel
theorem q_87_58 : js_I 87 58 = some (.getfield 130, 3) := by decide +kernel
theorem q_87_61 : js_I 87 61 = some (.aload_n 0, 1) := by decide +kernel
theorem q_87_62 : js_I 87 62 = some (.getfield 11, 3) := by decide +kernel
theorem q_87_65 : js_I 87 65 = some (.aload_n 0, 1) := by decide +kernel
theorem q_87_66 : js_I 87 66 = some (.getfield 52, 3) := by decide +kernel
theorem q_87_69 : js_I 87 69 = some (.iaload, 1) := by decide +kernel
theorem q_87_70 : js_I 87 70 = some (.bipush 45, 2) := by decide +kernel
theorem q_87_72 : js_I 87 72 = some (.if_icmp .ne 7, 3) := by decide +kernel
theorem q_87_75 : js_I 87 75 = some (.iconst 0, 1) := by decide +kernel
theorem q_87_76 : js_I 87 76 = some (.goto 4, 3) := by decide +kernel
theorem q_87_79 : js_I 87 79 = some (.iconst 1, 1) := by decide +kernel
theorem q_87_80 : js_I 87 80 = some (.if_icmp .ne 7, 3) := by decide +kernel
theorem q_87_83 : js_I 87 83 = some (.iconst 1, 1) := by decide +kernel
theorem q_87_84 : js_I 87 84 = some (.goto 4, 3) := by decide +kernel
theorem q_87_87 : js_I 87 87 = some (.iconst 0, 1) := by decide +kernel
theorem q_87_88 : js_I 87 88 = some (.invokevirtual 143, 3) := by decide +kernel
theorem q_87_91 : js_I 87 91 = some (.aload_n 0, 1) := by decide +kernel
theorem q_87_92 : js_I 87 92 = some (.getfield 130, 3) := by decide +kernel
theorem q_87_95 : js_I 87 95 = some (.ifCond .ne 173, 3) := by decide +kernel
theorem q_87_98 : js_I 87 98 = some (.aload_n 0, 1) := by decide +kernel
theorem q_87_99 : js_I 87 99 = some (.iconst 0, 1) := by decide +kernel
theorem q_87_100 : js_I 87 100 = some (.aload_n 0, 1) := by decide +kernel
theorem q_87_101 : js_I 87 101 = some (.getfield 97, 3) := by decide +kernel
theorem q_87_104 : js_I 87 104 = some (.ineg, 1) := by decide +kernel
theorem q_87_105 : js_I 87 105 = some (.aload_n 0, 1) := by decide +kernel
theorem q_87_106 : js_I 87 106 = some (.getfield 94, 3) := by decide +kernel
theorem q_87_109 : js_I 87 109 = some (.ineg, 1) := by decide +kernel
theorem q_87_110 : js_I 87 110 = some (.invokevirtual 147, 3) := by decide +kernel
theorem q_87_113 : js_I 87 113 = some (.goto 155, 3) := by decide +kernel
theorem q_87_116 : js_I 87 116 = some (.aload_n 0, 1) := by decide +kernel
theorem q_87_117 : js_I 87 117 = some (.iload_n 1, 1) := by decide +kernel
theorem q_87_118 : js_I 87 118 = some (.iconst 1, 1) := by decide +kernel
theorem q_87_119 : js_I 87 119 = some (.if_icmp .ne 15, 3) := by decide +kernel
theorem q_87_122 : js_I 87 122 = some (.aload_n 0, 1) := by decide +kernel
theorem q_87_123 : js_I 87 123 = some (.getfield 130, 3) := by decide +kernel
theorem q_87_126 : js_I 87 126 = some (.iconst 1, 1) := by decide +kernel
theorem q_87_127 : js_I 87 127 = some (.if_icmp .ne 7, 3) := by decide +kernel
theorem q_87_130 : js_I 87 130 = some (.iconst 1, 1) := by decide +kernel
theorem q_87_131 : js_I 87 131 = some (.goto 4, 3) := by decide +kernel
theorem q_87_134 : js_I 87 134 = some (.iconst 0, 1) := by decide +kernel
theorem q_87_135 : js_I 87 135 = some (.invokevirtual 143, 3) := by decide +kernel
theorem q_87_138 : js_I 87 138 = some (.goto 130, 3) := by decide +kernel
theorem q_87_141 : js_I 87 141 = some (.aload_n 0, 1) := by decide +kernel
theorem q_87_142 : js_I 87 142 = some (.getfield 11, 3) := by decide +kernel
theorem q_87_145 : js_I 87 145 = some (.aload_n 0, 1) := by decide +kernel
theorem q_87_146 : js_I 87 146 = some (.getfield 52, 3) := by decide +kernel
theorem q_87_149 : js_I 87 149 = some (.iaload, 1) := by decide +kernel
theorem q_87_150 : js_I 87 150 = some (.sipush 131, 3) := by decide +kernel
theorem q_87_153 : js_I 87 153 = some (.if_icmp .eq 18, 3) := by decide +kernel
theorem q_87_156 : js_I 87 156 = some (.aload_n 0, 1) := by decide +kernel
theorem q_87_157 : js_I 87 157 = some (.getfield 11, 3) := by decide +kernel
theorem q_87_160 : js_I 87 160 = some (.aload_n 0, 1) := by decide +kernel
theorem q_87_161 : js_I 87 161 = some (.getfield 52, 3) := by decide +kernel
theorem q_87_164 : js_I 87 164 = some (.iaload, 1) := by decide +kernel
theorem q_87_165 : js_I 87 165 = some (.sipush 132, 3) := by decide +kernel
theorem q_87_168 : js_I 87 168 = some (.if_icmp .ne 7, 3) := by decide +kernel
theorem q_87_175 : js_I 87 175 = some (.iconst 0, 1) := by decide +kernel
theorem q_87_171 : js_I 87 171 = some (.iconst 1, 1) := by decide +kernel
theorem q_87_172 : js_I 87 172 = some (.goto 4, 3) := by decide +kernel
theorem q_87_176 : js_I 87 176 = some (.istore_n 2, 1) := by decide +kernel
theorem q_87_177 : js_I 87 177 = some (.aload_n 0, 1) := by decide +kernel
theorem q_87_178 : js_I 87 178 = some (.iload_n 1, 1) := by decide +kernel
theorem q_87_179 : js_I 87 179 = some (.aload_n 0, 1) := by decide +kernel
theorem q_87_180 : js_I 87 180 = some (.getfield 130, 3) := by decide +kernel
theorem q_87_183 : js_I 87 183 = some (.if_icmp .ne 18, 3) := by decide +kernel
theorem q_87_186 : js_I 87 186 = some (.iload_n 2, 1) := by decide +kernel
theorem q_87_187 : js_I 87 187 = some (.ifCond .ne 10, 3) := by decide +kernel
theorem q_87_190 : js_I 87 190 = some (.aload_n 0, 1) := by decide +kernel
theorem q_87_191 : js_I 87 191 = some (.getfield 130, 3) := by decide +kernel
theorem q_87_194 : js_I 87 194 = some (.ifCond .ne 7, 3) := by decide +kernel
theorem q_87_197 : js_I 87 197 = some (.iconst 1, 1) := by decide +kernel
theorem q_87_198 : js_I 87 198 = some (.goto 4, 3) := by decide +kernel
theorem q_87_201 : js_I 87 201 = some (.iconst 0, 1) := by decide +kernel
theorem q_87_202 : js_I 87 202 = some (.invokevirtual 143, 3) := by decide +kernel
theorem q_87_205 : js_I 87 205 = some (.aload_n 0, 1) := by decide +kernel
theorem q_87_206 : js_I 87 206 = some (.iconst 1, 1) := by decide +kernel
theorem q_87_207 : js_I 87 207 = some (.iconst 0, 1) := by decide +kernel
theorem q_87_208 : js_I 87 208 = some (.iconst 1, 1) := by decide +kernel
theorem q_87_209 : js_I 87 209 = some (.invokevirtual 147, 3) := by decide +kernel
theorem q_87_212 : js_I 87 212 = some (.goto 56, 3) := by decide +kernel
theorem q_87_215 : js_I 87 215 = some (.aload_n 0, 1) := by decide +kernel
theorem q_87_216 : js_I 87 216 = some (.iload_n 1, 1) := by decide +kernel
theorem q_87_217 : js_I 87 217 = some (.ifCond .ne 14, 3) := by decide +kernel
theorem q_87_220 : js_I 87 220 = some (.aload_n 0, 1) := by decide +kernel
theorem q_87_221 : js_I 87 221 = some (.getfield 130, 3) := by decide +kernel
theorem q_87_224 : js_I 87 224 = some (.ifCond .ne 7, 3) := by decide +kernel
theorem q_87_227 : js_I 87 227 = some (.iconst 1, 1) := by decide +kernel
theorem q_87_228 : js_I 87 228 = some (.goto 4, 3) := by decide +kernel
theorem q_87_231 : js_I 87 231 = some (.iconst 0, 1) := by decide +kernel
theorem q_87_232 : js_I 87 232 = some (.invokevirtual 143, 3) := by decide +kernel
theorem q_87_235 : js_I 87 235 = some (.aload_n 0, 1) := by decide +kernel
theorem q_87_236 : js_I 87 236 = some (.aload_n 0, 1) := by decide +kernel
theorem q_87_237 : js_I 87 237 = some (.getfield 11, 3) := by decide +kernel
theorem q_87_240 : js_I 87 240 = some (.aload_n 0, 1) := by decide +kernel
theorem q_87_241 : js_I 87 241 = some (.getfield 52, 3) := by decide +kernel
theorem q_87_244 : js_I 87 244 = some (.iaload, 1) := by decide +kernel
theorem q_87_245 : js_I 87 245 = some (.aload_n 0, 1) := by decide +kernel
theorem q_87_246 : js_I 87 246 = some (.getfield 24, 3) := by decide +kernel
theorem q_87_249 : js_I 87 249 = some (.aload_n 0, 1) := by decide +kernel
theorem q_87_250 : js_I 87 250 = some (.getfield 52, 3) := by decide +kernel
theorem q_87_253 : js_I 87 253 = some (.iaload, 1) := by decide +kernel
theorem q_87_254 : js_I 87 254 = some (.i2l, 1) := by decide +kernel
theorem q_87_255 : js_I 87 255 = some (.aload_n 0, 1) := by decide +kernel
theorem q_87_256 : js_I 87 256 = some (.getfield 27, 3) := by decide +kernel
theorem q_87_259 : js_I 87 259 = some (.aload_n 0, 1) := by decide +kernel
theorem q_87_260 : js_I 87 260 = some (.getfield 52, 3) := by decide +kernel
theorem q_87_263 : js_I 87 263 = some (.iaload, 1) := by decide +kernel
theorem q_87_264 : js_I 87 264 = some (.i2l, 1) := by decide +kernel
theorem q_87_265 : js_I 87 265 = some (.invokevirtual 149, 3) := by decide +kernel
theorem q_87_268 : js_I 87 268 = some (.return_, 1) := by decide +kernel
theorem q_88_0 : js_I 88 0 = some (.iload_n 1, 1) := by decide +kernel
theorem q_88_1 : js_I 88 1 = some (.ifCond .ne 20, 3) := by decide +kernel
theorem q_88_4 : js_I 88 4 = some (.aload_n 0, 1) := by decide +kernel
theorem q_88_5 : js_I 88 5 = some (.getfield 33, 3) := by decide +kernel
theorem q_88_8 : js_I 88 8 = some (.iconst 5, 1) := by decide +kernel
theorem q_88_9 : js_I 88 9 = some (.aload_n 0, 1) := by decide +kernel
theorem q_88_10 : js_I 88 10 = some (.getfield 18, 3) := by decide +kernel
theorem q_88_13 : js_I 88 13 = some (.aload_n 0, 1) := by decide +kernel
theorem q_88_14 : js_I 88 14 = some (.getfield 52, 3) := by decide +kernel
theorem q_88_17 : js_I 88 17 = some (.iaload, 1) := by decide +kernel
theorem q_88_18 : js_I 88 18 = some (.invokevirtual 127, 3) := by decide +kernel
theorem q_88_21 : js_I 88 21 = some (.return_, 1) := by decide +kernel
theorem qf_1_78 : ip_lk (vt_FL.getD 1 []) 78 = some (11, 11) := by decide +kernel
theorem qf_1_104 : ip_lk (vt_FL.getD 1 []) 104 = some (11, 10) := by decide +kernel
theorem qf_1_107 : ip_lk (vt_FL.getD 1 []) 107 = some (11, 9) := by decide +kernel
theorem qf_1_88 : ip_lk (vt_FL.getD 1 []) 88 = some (11, 6) := by decide +kernel
theorem qf_1_91 : ip_lk (vt_FL.getD 1 []) 91 = some (11, 3) := by decide +kernel
theorem qf_1_94 : ip_lk (vt_FL.getD 1 []) 94 = some (11, 4) := by decide +kernel
theorem qf_5_48 : ip_lk (vt_FL.getD 5 []) 48 = some (5, 7) := by decide +kernel
theorem qm_1_108 : ip_lk (vt_ML.getD 1 []) 108 = some (74, 1, 1, 1) := by decide +kernel
theorem qm_1_114 : ip_lk (vt_ML.getD 1 []) 114 = some (3, 2, 4, 0) := by decide +kernel
theorem qm_5_187 : ip_lk (vt_ML.getD 5 []) 187 = some (42, 0, 1, 8) := by decide +kernel
theorem qm_5_194 : ip_lk (vt_ML.getD 5 []) 194 = some (80, 1, 1, 5) := by decide +kernel
theorem qm_5_197 : ip_lk (vt_ML.getD 5 []) 197 = some (83, 0, 1, 5) := by decide +kernel
theorem qm_5_200 : ip_lk (vt_ML.getD 5 []) 200 = some (84, 0, 1, 5) := by decide +kernel
theorem qm_5_180 : ip_lk (vt_ML.getD 5 []) 180 = some (40, 1, 1, 8) := by decide +kernel
theorem qm_5_203 : ip_lk (vt_ML.getD 5 []) 203 = some (81, 2, 1, 5) := by decide +kernel
theorem qm_5_185 : ip_lk (vt_ML.getD 5 []) 185 = some (1, 2, 4, 0) := by decide +kernel
theorem qm_5_183 : ip_lk (vt_ML.getD 5 []) 183 = some (0, 2, 4, 0) := by decide +kernel
theorem qm_5_206 : ip_lk (vt_ML.getD 5 []) 206 = some (2, 1, 4, 0) := by decide +kernel
theorem qm_5_208 : ip_lk (vt_ML.getD 5 []) 208 = some (41, 1, 1, 2) := by decide +kernel
theorem qm_5_213 : ip_lk (vt_ML.getD 5 []) 213 = some (50, 1, 1, 2) := by decide +kernel
theorem qm_5_117 : ip_lk (vt_ML.getD 5 []) 117 = some (86, 1, 0, 0) := by decide +kernel
theorem qm_5_143 : ip_lk (vt_ML.getD 5 []) 143 = some (88, 1, 1, 5) := by decide +kernel
theorem qm_5_149 : ip_lk (vt_ML.getD 5 []) 149 = some (89, 3, 1, 5) := by decide +kernel
theorem qc_1_112 : ip_lk (vt_CL.getD 1 []) 112 = some (js_V (1, 400000)) := by decide +kernel
theorem ww_218 : js_w 218 = 218 := by decide +kernel
theorem ww_131 : js_w 131 = 131 := by decide +kernel
theorem ww_132 : js_w 132 = 132 := by decide +kernel
-- 72: VitalTwin$Code.homeOf (LVitalTwin$Symbol;)I
theorem b_72_0 {E : js_E} {d : Nat} {σ : js_S} {x0 : Int} (hs_x0 : js_desc E.1 σ x0 = some (0, 11, js_sym)) : js_J E d 72 0 [(2, x0)] [] σ = (if js_w (σ x0 11) < 0 then js_r E (0, 0) σ else js_r E (0, (2 * (σ x0 11)) + 1) σ) :=
  (j_aload_n q_72_0 rfl).trans <| (j_get (ji := 11) (v := (0, σ x0 11)) q_72_1 (js_Fo qy_72 qf_1_78) hs_x0 rfl rfl rfl rfl).trans <| (j_ifge (t := 11) q_72_4 rfl).trans (js_ite ((j_iconst q_72_7).trans <| (j_goto (t := 19) q_72_8 rfl).trans <| j_ireturn q_72_19 qr_72) ((j_iconst q_72_11).trans <| (j_aload_n q_72_12 rfl).trans <| (j_get (ji := 11) (v := (0, σ x0 11)) q_72_13 (js_Fo qy_72 qf_1_78) hs_x0 rfl rfl rfl rfl).trans <| (j_imul q_72_16).trans <| (j_iconst q_72_17).trans <| (j_iadd q_72_18).trans <| j_ireturn q_72_19 qr_72))
-- 73: VitalTwin$Code.call (LVitalTwin$Symbol;)V
theorem b_73_0 {E : js_E} {d : Nat} {σ : js_S} {x1 b : Int} (hs_x1 : js_desc E.1 σ x1 = some (0, 11, js_sym)) : js_J E d 73 0 [(2, 8 + b), (2, x1)] [] σ = js_J E d 73 11 [(2, 8 + b), (2, x1)] [(0, 0), (0, 0), (0, 1), (0, 0), (0, σ x1 5), (0, 27), (2, 8 + b)] σ :=
  (j_aload_n q_73_0 rfl).trans <| (j_bi q_73_1 rfl).trans <| (j_aload_n q_73_3 rfl).trans <| (j_get (ji := 5) (v := (0, σ x1 5)) q_73_4 (js_Fo qy_73 qf_1_81) hs_x1 rfl rfl rfl rfl).trans <| (j_iconst q_73_7).trans <| (j_iconst q_73_8).trans <| (j_iconst q_73_9).trans <| (j_iconst q_73_10).trans <| rfl
theorem k_73_11 {E : js_E} {d : Nat} {σ σ2 : js_S} {x1 z1 z2 z3 z4 z5 z6 b : Int} (hb : b = 0 ∨ b = 25) (hd : 1 ≤ d) (hz : js_J E (d - 1) 60 0 [(2, 8 + b), (0, z1), (0, z2), (0, z3), (0, z4), (0, z5), (0, z6), (9, 0)] [] σ = js_r0 E σ2) : js_J E d 73 11 [(2, 8 + b), (2, x1)] [(0, z6), (0, z5), (0, z4), (0, z3), (0, z2), (0, z1), (2, 8 + b)] σ = js_J E d 73 14 [(2, 8 + b), (2, x1)] [] σ2 :=
  j_call0 (m := 1) (js_caV q_73_11 (js_Mo qy_73 qm_1_74)) (js_agV (av := [(0, z1), (0, z2), (0, z3), (0, z4), (0, z5), (0, z6)]) (st := []) rfl rfl (js_o8b hb) rfl) rfl rfl (by rw [ql_60]; exact Nat.le_of_ble_eq_true rfl) (Nat.le_of_ble_eq_true rfl) hd hz
theorem kt_73_11 {E : js_E} {d : Nat} {σ σ2 : js_S} {x1 z1 z2 z3 z4 z5 z6 b : Int} (hb : b = 0 ∨ b = 25) {w : Int} (hd : 1 ≤ d) (hz : js_J E (d - 1) 60 0 [(2, 8 + b), (0, z1), (0, z2), (0, z3), (0, z4), (0, z5), (0, z6), (9, 0)] [] σ = js_t E w σ2) : js_J E d 73 11 [(2, 8 + b), (2, x1)] [(0, z6), (0, z5), (0, z4), (0, z3), (0, z2), (0, z1), (2, 8 + b)] σ = js_t E w σ2 :=
  j_callT (m := 1) (js_caV q_73_11 (js_Mo qy_73 qm_1_74)) (js_agV (av := [(0, z1), (0, z2), (0, z3), (0, z4), (0, z5), (0, z6)]) (st := []) rfl rfl (js_o8b hb) rfl) rfl rfl (by rw [ql_60]; exact Nat.le_of_ble_eq_true rfl) (Nat.le_of_ble_eq_true rfl) hd rfl hz
theorem b_73_14 {E : js_E} {d : Nat} {σ : js_S} {x1 b : Int} (hd : 4 ≤ d) (hb : b = 0 ∨ b = 25) (hs_x1 : js_desc E.1 σ x1 = some (0, 11, js_sym)) : js_J E d 73 14 [(2, 8 + b), (2, x1)] [] σ = js_J E d 73 35 [(2, 8 + b), (2, x1)] [(1, js_w (σ x1 9)), (2, 8 + b)] (js_up σ (8 + b) 12 (if js_w (σ (8 + b) 12) < js_w (σ x1 10) then (σ x1 10) else (σ (8 + b) 12))) :=
  (j_aload_n q_73_14 rfl).trans <| (j_aload_n q_73_15 rfl).trans <| (j_get (ji := 12) (v := (0, σ (8 + b) 12)) q_73_16 (js_Fo qy_73 qf_1_64) (js_o8b hb) rfl rfl rfl rfl).trans <| (j_aload_n q_73_19 rfl).trans <| (j_get (ji := 10) (v := (0, σ x1 10)) q_73_20 (js_Fo qy_73 qf_1_104) hs_x1 rfl rfl rfl rfl).trans <| (j_max (js_clS q_73_23 (js_Mo qy_73 qm_1_97)) (Nat.le_of_ble_eq_true rfl) hd).trans <| (j_putI (ji := 12) q_73_26 (js_Fo qy_73 qf_1_64) rfl (js_o8b hb) rfl rfl rfl).trans <| (j_aload_n q_73_29 rfl).trans <| (j_aload_n q_73_30 rfl).trans <| (j_get (ji := 9) (v := (0, σ x1 9)) q_73_31 (js_Fo qy_73 qf_1_107) (js_ds hs_x1 (by omega) (fun h => by omega)) rfl rfl rfl (congrArg (Prod.mk 0) ((js_up_ne _ (by have := js_sym_ge hs_x1; omega))))).trans <| (j_i2l q_73_34).trans <| rfl
theorem k_73_35 {E : js_E} {d : Nat} {σ σ2 : js_S} {x1 z1 b : Int} (hb : b = 0 ∨ b = 25) (hd : 1 ≤ d) (hz : js_J E (d - 1) 74 0 [(2, 8 + b), (1, z1), (9, 0)] [] σ = js_r0 E σ2) : js_J E d 73 35 [(2, 8 + b), (2, x1)] [(1, z1), (2, 8 + b)] σ = js_J E d 73 38 [(2, 8 + b), (2, x1)] [] σ2 :=
  j_call0 (m := 0) (js_caV q_73_35 (js_Mo qy_73 qm_1_108)) (js_agV (av := [(1, z1)]) (st := []) rfl rfl (js_o8b hb) rfl) rfl rfl (by rw [ql_74]; exact Nat.le_of_ble_eq_true rfl) (Nat.le_of_ble_eq_true rfl) hd hz
theorem kt_73_35 {E : js_E} {d : Nat} {σ σ2 : js_S} {x1 z1 b : Int} (hb : b = 0 ∨ b = 25) {w : Int} (hd : 1 ≤ d) (hz : js_J E (d - 1) 74 0 [(2, 8 + b), (1, z1), (9, 0)] [] σ = js_t E w σ2) : js_J E d 73 35 [(2, 8 + b), (2, x1)] [(1, z1), (2, 8 + b)] σ = js_t E w σ2 :=
  j_callT (m := 0) (js_caV q_73_35 (js_Mo qy_73 qm_1_108)) (js_agV (av := [(1, z1)]) (st := []) rfl rfl (js_o8b hb) rfl) rfl rfl (by rw [ql_74]; exact Nat.le_of_ble_eq_true rfl) (Nat.le_of_ble_eq_true rfl) hd rfl hz
theorem b_73_38 {E : js_E} {d : Nat} {σ : js_S} {x1 b : Int} : js_J E d 73 38 [(2, 8 + b), (2, x1)] [] σ = js_r0 E σ :=
  j_return q_73_38 qr_73
-- 74: VitalTwin$Code.spend (J)V
theorem b_74_0 {E : js_E} {d : Nat} {σ : js_S} {x1 b : Int} (hd : 4 ≤ d) (hb : b = 0 ∨ b = 25) : js_J E d 74 0 [(2, 8 + b), (1, x1), (9, 0)] [] σ = js_r0 E (js_up σ (8 + b) 7 (if js_l ((js_w (σ (8 + b) 7)) + x1) < js_l 400000 then ((js_w (σ (8 + b) 7)) + x1) else 400000)) :=
  (j_aload_n q_74_0 rfl).trans <| (j_ldc2 (v := (1, 400000)) q_74_1 (js_Co qy_74 qc_1_112)).trans <| (j_aload_n q_74_4 rfl).trans <| (j_get (ji := 7) (v := (0, σ (8 + b) 7)) q_74_5 (js_Fo qy_74 qf_1_52) (js_o8b hb) rfl rfl rfl rfl).trans <| (j_i2l q_74_8).trans <| (j_lload_n q_74_9 rfl).trans <| (j_ladd q_74_10).trans <| (j_lmin (js_clS q_74_11 (js_Mo qy_74 qm_1_114)) (Nat.le_of_ble_eq_true rfl) hd).trans <| (j_l2i q_74_14).trans <| (j_putI (ji := 7) q_74_15 (js_Fo qy_74 qf_1_52) rfl (js_o8b hb) rfl rfl rfl).trans <| j_return q_74_18 qr_74
-- 75: VitalTwin$Expressions.set (III)V
theorem b_75_0 {E : js_E} {d : Nat} {σ : js_S} {x1 x2 x3 b : Int} (hb : b = 0 ∨ b = 25) : js_J E d 75 0 [(2, 23 + b), (0, x1), (0, x2), (0, x3)] [] σ = js_r0 E (js_up (js_up (js_up σ (23 + b) 0 x1) (23 + b) 1 x2) (23 + b) 2 x3) :=
  (j_aload_n q_75_0 rfl).trans <| (j_iload_n q_75_1 rfl).trans <| (j_putI (ji := 0) q_75_2 (js_Fo qy_75 qf_5_130) rfl (js_o23b hb) rfl rfl rfl).trans <| (j_aload_n q_75_5 rfl).trans <| (j_iload_n q_75_6 rfl).trans <| (j_putI (ji := 1) q_75_7 (js_Fo qy_75 qf_5_94) rfl (js_o23b hb) rfl rfl rfl).trans <| (j_aload_n q_75_10 rfl).trans <| (j_iload_n q_75_11 rfl).trans <| (j_putI (ji := 2) q_75_12 (js_Fo qy_75 qf_5_97) rfl (js_o23b hb) rfl rfl rfl).trans <| j_return q_75_15 qr_75
-- 76: VitalTwin$Expressions.index (LVitalTwin$Symbol;)V
theorem b_76_0 {E : js_E} {d : Nat} {σ : js_S} {x1 b : Int} (hb : b = 0 ∨ b = 25) : js_J E d 76 0 [(2, 23 + b), (2, x1)] [] σ = js_J E d 76 6 [(2, 23 + b), (2, x1)] [(0, 91), (2, 1)] σ :=
  (j_aload_n q_76_0 rfl).trans <| (j_get (ji := 4) (v := (2, 1)) q_76_1 (js_Fo qy_76 qf_5_33) (js_o23b hb) rfl rfl rfl rfl).trans <| (j_bi q_76_4 rfl).trans <| rfl
theorem k_76_6 {E : js_E} {d : Nat} {σ σ2 : js_S} {x1 z1 b : Int} (hd : 1 ≤ d) (hz : js_J E (d - 1) 47 0 [(2, 1), (0, z1)] [] σ = js_r0 E σ2) : js_J E d 76 6 [(2, 23 + b), (2, x1)] [(0, z1), (2, 1)] σ = js_J E d 76 9 [(2, 23 + b), (2, x1)] [] σ2 :=
  j_call0 (m := 0) (js_caV q_76_6 (js_Mo qy_76 qm_5_124)) (js_agV (av := [(0, z1)]) (st := []) rfl rfl js_o1 rfl) rfl rfl (by rw [ql_47]; exact Nat.le_of_ble_eq_true rfl) (Nat.le_of_ble_eq_true rfl) hd hz
theorem kt_76_6 {E : js_E} {d : Nat} {σ σ2 : js_S} {x1 z1 b : Int} {w : Int} (hd : 1 ≤ d) (hz : js_J E (d - 1) 47 0 [(2, 1), (0, z1)] [] σ = js_t E w σ2) : js_J E d 76 6 [(2, 23 + b), (2, x1)] [(0, z1), (2, 1)] σ = js_t E w σ2 :=
  j_callT (m := 0) (js_caV q_76_6 (js_Mo qy_76 qm_5_124)) (js_agV (av := [(0, z1)]) (st := []) rfl rfl js_o1 rfl) rfl rfl (by rw [ql_47]; exact Nat.le_of_ble_eq_true rfl) (Nat.le_of_ble_eq_true rfl) hd rfl hz
theorem b_76_9 {E : js_E} {d : Nat} {σ : js_S} {x1 b : Int} : js_J E d 76 9 [(2, 23 + b), (2, x1)] [] σ = js_J E d 76 10 [(2, 23 + b), (2, x1)] [(2, 23 + b)] σ :=
  (j_aload_n q_76_9 rfl).trans <| rfl
theorem k_76_10 {E : js_E} {d : Nat} {σ σ2 : js_S} {x1 b : Int} (hb : b = 0 ∨ b = 25) (hd : 1 ≤ d) (hz : js_J E (d - 1) 61 0 [(2, 23 + b), (9, 0), (9, 0), (9, 0), (9, 0), (9, 0), (9, 0)] [] σ = js_r0 E σ2) : js_J E d 76 10 [(2, 23 + b), (2, x1)] [(2, 23 + b)] σ = js_J E d 76 13 [(2, 23 + b), (2, x1)] [] σ2 :=
  j_call0 (m := 6) (js_caV q_76_10 (js_Mo qy_76 qm_5_177)) (js_agV (av := []) (st := []) rfl rfl (js_o23b hb) rfl) rfl rfl (by rw [ql_61]; exact Nat.le_of_ble_eq_true rfl) (Nat.le_of_ble_eq_true rfl) hd hz
theorem kt_76_10 {E : js_E} {d : Nat} {σ σ2 : js_S} {x1 b : Int} (hb : b = 0 ∨ b = 25) {w : Int} (hd : 1 ≤ d) (hz : js_J E (d - 1) 61 0 [(2, 23 + b), (9, 0), (9, 0), (9, 0), (9, 0), (9, 0), (9, 0)] [] σ = js_t E w σ2) : js_J E d 76 10 [(2, 23 + b), (2, x1)] [(2, 23 + b)] σ = js_t E w σ2 :=
  j_callT (m := 6) (js_caV q_76_10 (js_Mo qy_76 qm_5_177)) (js_agV (av := []) (st := []) rfl rfl (js_o23b hb) rfl) rfl rfl (by rw [ql_61]; exact Nat.le_of_ble_eq_true rfl) (Nat.le_of_ble_eq_true rfl) hd rfl hz
theorem b_76_13 {E : js_E} {d : Nat} {σ : js_S} {x1 b : Int} (hs_x1 : js_desc E.1 σ x1 = some (0, 11, js_sym)) : js_J E d 76 13 [(2, 23 + b), (2, x1)] [] σ = js_J E d 76 22 [(2, 23 + b), (2, x1)] [(0, (σ x1 6) - 1), (0, 0), (0, 0), (2, 23 + b)] σ :=
  (j_aload_n q_76_13 rfl).trans <| (j_iconst q_76_14).trans <| (j_iconst q_76_15).trans <| (j_aload_n q_76_16 rfl).trans <| (j_get (ji := 6) (v := (0, σ x1 6)) q_76_17 (js_Fo qy_76 qf_5_256) hs_x1 rfl rfl rfl rfl).trans <| (j_iconst q_76_20).trans <| (j_isub q_76_21).trans <| rfl
theorem k_76_22 {E : js_E} {d : Nat} {σ σ2 : js_S} {x1 z1 z2 z3 b : Int} (hb : b = 0 ∨ b = 25) (hd : 1 ≤ d) (hz : js_J E (d - 1) 68 0 [(2, 23 + b), (0, z1), (0, z2), (0, z3)] [] σ = js_r0 E σ2) : js_J E d 76 22 [(2, 23 + b), (2, x1)] [(0, z3), (0, z2), (0, z1), (2, 23 + b)] σ = js_J E d 76 25 [(2, 23 + b), (2, x1)] [] σ2 :=
  j_call0 (m := 0) (js_caV q_76_22 (js_Mo qy_76 qm_5_259)) (js_agV (av := [(0, z1), (0, z2), (0, z3)]) (st := []) rfl rfl (js_o23b hb) rfl) rfl rfl (by rw [ql_68]; exact Nat.le_of_ble_eq_true rfl) (Nat.le_of_ble_eq_true rfl) hd hz
theorem kt_76_22 {E : js_E} {d : Nat} {σ σ2 : js_S} {x1 z1 z2 z3 b : Int} (hb : b = 0 ∨ b = 25) {w : Int} (hd : 1 ≤ d) (hz : js_J E (d - 1) 68 0 [(2, 23 + b), (0, z1), (0, z2), (0, z3)] [] σ = js_t E w σ2) : js_J E d 76 22 [(2, 23 + b), (2, x1)] [(0, z3), (0, z2), (0, z1), (2, 23 + b)] σ = js_t E w σ2 :=
  j_callT (m := 0) (js_caV q_76_22 (js_Mo qy_76 qm_5_259)) (js_agV (av := [(0, z1), (0, z2), (0, z3)]) (st := []) rfl rfl (js_o23b hb) rfl) rfl rfl (by rw [ql_68]; exact Nat.le_of_ble_eq_true rfl) (Nat.le_of_ble_eq_true rfl) hd rfl hz
theorem b_76_25 {E : js_E} {d : Nat} {σ : js_S} {x1 b : Int} (hb : b = 0 ∨ b = 25) : js_J E d 76 25 [(2, 23 + b), (2, x1)] [] σ = js_J E d 76 31 [(2, 23 + b), (2, x1)] [(0, 93), (2, 1)] σ :=
  (j_aload_n q_76_25 rfl).trans <| (j_get (ji := 4) (v := (2, 1)) q_76_26 (js_Fo qy_76 qf_5_33) (js_o23b hb) rfl rfl rfl rfl).trans <| (j_bi q_76_29 rfl).trans <| rfl
theorem k_76_31 {E : js_E} {d : Nat} {σ σ2 : js_S} {x1 z1 b : Int} (hd : 1 ≤ d) (hz : js_J E (d - 1) 48 0 [(2, 1), (0, z1)] [] σ = js_r0 E σ2) : js_J E d 76 31 [(2, 23 + b), (2, x1)] [(0, z1), (2, 1)] σ = js_J E d 76 34 [(2, 23 + b), (2, x1)] [] σ2 :=
  j_call0 (m := 0) (js_caV q_76_31 (js_Mo qy_76 qm_5_191)) (js_agV (av := [(0, z1)]) (st := []) rfl rfl js_o1 rfl) rfl rfl (by rw [ql_48]; exact Nat.le_of_ble_eq_true rfl) (Nat.le_of_ble_eq_true rfl) hd hz
theorem kt_76_31 {E : js_E} {d : Nat} {σ σ2 : js_S} {x1 z1 b : Int} {w : Int} (hd : 1 ≤ d) (hz : js_J E (d - 1) 48 0 [(2, 1), (0, z1)] [] σ = js_t E w σ2) : js_J E d 76 31 [(2, 23 + b), (2, x1)] [(0, z1), (2, 1)] σ = js_t E w σ2 :=
  j_callT (m := 0) (js_caV q_76_31 (js_Mo qy_76 qm_5_191)) (js_agV (av := [(0, z1)]) (st := []) rfl rfl js_o1 rfl) rfl rfl (by rw [ql_48]; exact Nat.le_of_ble_eq_true rfl) (Nat.le_of_ble_eq_true rfl) hd rfl hz
theorem b_76_34 {E : js_E} {d : Nat} {σ : js_S} {x1 b : Int} : js_J E d 76 34 [(2, 23 + b), (2, x1)] [] σ = js_r0 E σ :=
  j_return q_76_34 qr_76
-- 77: VitalTwin$Code.loadElement (LVitalTwin$Symbol;)V
theorem b_77_0 {E : js_E} {d : Nat} {σ : js_S} {x1 b : Int} (hs_x1 : js_desc E.1 σ x1 = some (0, 11, js_sym)) : js_J E d 77 0 [(2, 8 + b), (2, x1)] [] σ = js_J E d 77 19 [(2, 8 + b), (2, x1)] [(2, x1), (0, σ x1 4), (0, σ x1 3), (0, σ x1 6), (0, σ x1 5), (0, 4), (2, 8 + b)] σ :=
  (j_aload_n q_77_0 rfl).trans <| (j_iconst q_77_1).trans <| (j_aload_n q_77_2 rfl).trans <| (j_get (ji := 5) (v := (0, σ x1 5)) q_77_3 (js_Fo qy_77 qf_1_81) hs_x1 rfl rfl rfl rfl).trans <| (j_aload_n q_77_6 rfl).trans <| (j_get (ji := 6) (v := (0, σ x1 6)) q_77_7 (js_Fo qy_77 qf_1_88) hs_x1 rfl rfl rfl rfl).trans <| (j_aload_n q_77_10 rfl).trans <| (j_get (ji := 3) (v := (0, σ x1 3)) q_77_11 (js_Fo qy_77 qf_1_91) hs_x1 rfl rfl rfl rfl).trans <| (j_aload_n q_77_14 rfl).trans <| (j_get (ji := 4) (v := (0, σ x1 4)) q_77_15 (js_Fo qy_77 qf_1_94) hs_x1 rfl rfl rfl rfl).trans <| (j_aload_n q_77_18 rfl).trans <| rfl
theorem k_77_19 {E : js_E} {d : Nat} {σ σ2 : js_S} {x1 z1 z2 z3 z4 z5 z6 b : Int} {v : Int} (hd : 1 ≤ d) (hz : js_J E (d - 1) 72 0 [(2, z6)] [] σ = js_r E (0, v) σ2) : js_J E d 77 19 [(2, 8 + b), (2, x1)] [(2, z6), (0, z5), (0, z4), (0, z3), (0, z2), (0, z1), (2, 8 + b)] σ = js_J E d 77 22 [(2, 8 + b), (2, x1)] [(0, v), (0, z5), (0, z4), (0, z3), (0, z2), (0, z1), (2, 8 + b)] σ2 :=
  j_call (m := 0) (js_caS q_77_19 (js_Mo qy_77 qm_1_84)) (js_agS (av := [(2, z6)]) (st := [(0, z5), (0, z4), (0, z3), (0, z2), (0, z1), (2, 8 + b)]) rfl rfl) rfl rfl (by rw [ql_72]; exact Nat.le_of_ble_eq_true rfl) (Nat.le_of_ble_eq_true rfl) hd hz
theorem kt_77_19 {E : js_E} {d : Nat} {σ σ2 : js_S} {x1 z1 z2 z3 z4 z5 z6 b : Int} {w : Int} (hd : 1 ≤ d) (hz : js_J E (d - 1) 72 0 [(2, z6)] [] σ = js_t E w σ2) : js_J E d 77 19 [(2, 8 + b), (2, x1)] [(2, z6), (0, z5), (0, z4), (0, z3), (0, z2), (0, z1), (2, 8 + b)] σ = js_t E w σ2 :=
  j_callT (m := 0) (js_caS q_77_19 (js_Mo qy_77 qm_1_84)) (js_agS (av := [(2, z6)]) (st := [(0, z5), (0, z4), (0, z3), (0, z2), (0, z1), (2, 8 + b)]) rfl rfl) rfl rfl (by rw [ql_72]; exact Nat.le_of_ble_eq_true rfl) (Nat.le_of_ble_eq_true rfl) hd rfl hz
theorem k_77_22 {E : js_E} {d : Nat} {σ σ2 : js_S} {x1 z1 z2 z3 z4 z5 z6 b : Int} (hb : b = 0 ∨ b = 25) (hd : 1 ≤ d) (hz : js_J E (d - 1) 60 0 [(2, 8 + b), (0, z1), (0, z2), (0, z3), (0, z4), (0, z5), (0, z6), (9, 0)] [] σ = js_r0 E σ2) : js_J E d 77 22 [(2, 8 + b), (2, x1)] [(0, z6), (0, z5), (0, z4), (0, z3), (0, z2), (0, z1), (2, 8 + b)] σ = js_J E d 77 25 [(2, 8 + b), (2, x1)] [] σ2 :=
  j_call0 (m := 1) (js_caV q_77_22 (js_Mo qy_77 qm_1_74)) (js_agV (av := [(0, z1), (0, z2), (0, z3), (0, z4), (0, z5), (0, z6)]) (st := []) rfl rfl (js_o8b hb) rfl) rfl rfl (by rw [ql_60]; exact Nat.le_of_ble_eq_true rfl) (Nat.le_of_ble_eq_true rfl) hd hz
theorem kt_77_22 {E : js_E} {d : Nat} {σ σ2 : js_S} {x1 z1 z2 z3 z4 z5 z6 b : Int} (hb : b = 0 ∨ b = 25) {w : Int} (hd : 1 ≤ d) (hz : js_J E (d - 1) 60 0 [(2, 8 + b), (0, z1), (0, z2), (0, z3), (0, z4), (0, z5), (0, z6), (9, 0)] [] σ = js_t E w σ2) : js_J E d 77 22 [(2, 8 + b), (2, x1)] [(0, z6), (0, z5), (0, z4), (0, z3), (0, z2), (0, z1), (2, 8 + b)] σ = js_t E w σ2 :=
  j_callT (m := 1) (js_caV q_77_22 (js_Mo qy_77 qm_1_74)) (js_agV (av := [(0, z1), (0, z2), (0, z3), (0, z4), (0, z5), (0, z6)]) (st := []) rfl rfl (js_o8b hb) rfl) rfl rfl (by rw [ql_60]; exact Nat.le_of_ble_eq_true rfl) (Nat.le_of_ble_eq_true rfl) hd rfl hz
theorem b_77_25 {E : js_E} {d : Nat} {σ : js_S} {x1 b : Int} : js_J E d 77 25 [(2, 8 + b), (2, x1)] [] σ = js_r0 E σ :=
  j_return q_77_25 qr_77
-- 78: VitalTwin$Code.load (LVitalTwin$Symbol;II)V
theorem b_78_0 {E : js_E} {d : Nat} {σ : js_S} {x1 x2 x3 b : Int} (hs_x1 : js_desc E.1 σ x1 = some (0, 11, js_sym)) : js_J E d 78 0 [(2, 8 + b), (2, x1), (0, x2), (0, x3)] [] σ = js_J E d 78 10 [(2, 8 + b), (2, x1), (0, x2), (0, x3)] [(2, x1), (0, x3), (0, x2), (0, 0), (0, σ x1 5), (0, 1), (2, 8 + b)] σ :=
  (j_aload_n q_78_0 rfl).trans <| (j_iconst q_78_1).trans <| (j_aload_n q_78_2 rfl).trans <| (j_get (ji := 5) (v := (0, σ x1 5)) q_78_3 (js_Fo qy_78 qf_1_81) hs_x1 rfl rfl rfl rfl).trans <| (j_iconst q_78_6).trans <| (j_iload_n q_78_7 rfl).trans <| (j_iload_n q_78_8 rfl).trans <| (j_aload_n q_78_9 rfl).trans <| rfl
theorem k_78_10 {E : js_E} {d : Nat} {σ σ2 : js_S} {x1 x2 x3 z1 z2 z3 z4 z5 z6 b : Int} {v : Int} (hd : 1 ≤ d) (hz : js_J E (d - 1) 72 0 [(2, z6)] [] σ = js_r E (0, v) σ2) : js_J E d 78 10 [(2, 8 + b), (2, x1), (0, x2), (0, x3)] [(2, z6), (0, z5), (0, z4), (0, z3), (0, z2), (0, z1), (2, 8 + b)] σ = js_J E d 78 13 [(2, 8 + b), (2, x1), (0, x2), (0, x3)] [(0, v), (0, z5), (0, z4), (0, z3), (0, z2), (0, z1), (2, 8 + b)] σ2 :=
  j_call (m := 0) (js_caS q_78_10 (js_Mo qy_78 qm_1_84)) (js_agS (av := [(2, z6)]) (st := [(0, z5), (0, z4), (0, z3), (0, z2), (0, z1), (2, 8 + b)]) rfl rfl) rfl rfl (by rw [ql_72]; exact Nat.le_of_ble_eq_true rfl) (Nat.le_of_ble_eq_true rfl) hd hz
theorem kt_78_10 {E : js_E} {d : Nat} {σ σ2 : js_S} {x1 x2 x3 z1 z2 z3 z4 z5 z6 b : Int} {w : Int} (hd : 1 ≤ d) (hz : js_J E (d - 1) 72 0 [(2, z6)] [] σ = js_t E w σ2) : js_J E d 78 10 [(2, 8 + b), (2, x1), (0, x2), (0, x3)] [(2, z6), (0, z5), (0, z4), (0, z3), (0, z2), (0, z1), (2, 8 + b)] σ = js_t E w σ2 :=
  j_callT (m := 0) (js_caS q_78_10 (js_Mo qy_78 qm_1_84)) (js_agS (av := [(2, z6)]) (st := [(0, z5), (0, z4), (0, z3), (0, z2), (0, z1), (2, 8 + b)]) rfl rfl) rfl rfl (by rw [ql_72]; exact Nat.le_of_ble_eq_true rfl) (Nat.le_of_ble_eq_true rfl) hd rfl hz
theorem k_78_13 {E : js_E} {d : Nat} {σ σ2 : js_S} {x1 x2 x3 z1 z2 z3 z4 z5 z6 b : Int} (hb : b = 0 ∨ b = 25) (hd : 1 ≤ d) (hz : js_J E (d - 1) 60 0 [(2, 8 + b), (0, z1), (0, z2), (0, z3), (0, z4), (0, z5), (0, z6), (9, 0)] [] σ = js_r0 E σ2) : js_J E d 78 13 [(2, 8 + b), (2, x1), (0, x2), (0, x3)] [(0, z6), (0, z5), (0, z4), (0, z3), (0, z2), (0, z1), (2, 8 + b)] σ = js_J E d 78 16 [(2, 8 + b), (2, x1), (0, x2), (0, x3)] [] σ2 :=
  j_call0 (m := 1) (js_caV q_78_13 (js_Mo qy_78 qm_1_74)) (js_agV (av := [(0, z1), (0, z2), (0, z3), (0, z4), (0, z5), (0, z6)]) (st := []) rfl rfl (js_o8b hb) rfl) rfl rfl (by rw [ql_60]; exact Nat.le_of_ble_eq_true rfl) (Nat.le_of_ble_eq_true rfl) hd hz
theorem kt_78_13 {E : js_E} {d : Nat} {σ σ2 : js_S} {x1 x2 x3 z1 z2 z3 z4 z5 z6 b : Int} (hb : b = 0 ∨ b = 25) {w : Int} (hd : 1 ≤ d) (hz : js_J E (d - 1) 60 0 [(2, 8 + b), (0, z1), (0, z2), (0, z3), (0, z4), (0, z5), (0, z6), (9, 0)] [] σ = js_t E w σ2) : js_J E d 78 13 [(2, 8 + b), (2, x1), (0, x2), (0, x3)] [(0, z6), (0, z5), (0, z4), (0, z3), (0, z2), (0, z1), (2, 8 + b)] σ = js_t E w σ2 :=
  j_callT (m := 1) (js_caV q_78_13 (js_Mo qy_78 qm_1_74)) (js_agV (av := [(0, z1), (0, z2), (0, z3), (0, z4), (0, z5), (0, z6)]) (st := []) rfl rfl (js_o8b hb) rfl) rfl rfl (by rw [ql_60]; exact Nat.le_of_ble_eq_true rfl) (Nat.le_of_ble_eq_true rfl) hd rfl hz
theorem b_78_16 {E : js_E} {d : Nat} {σ : js_S} {x1 x2 x3 b : Int} : js_J E d 78 16 [(2, 8 + b), (2, x1), (0, x2), (0, x3)] [] σ = js_r0 E σ :=
  j_return q_78_16 qr_78
-- 79: VitalTwin$Expressions.operand ()V
theorem b_79_0 {E : js_E} {d : Nat} {σ : js_S} {b : Int} (hb : b = 0 ∨ b = 25) : js_J E d 79 0 [(2, 23 + b), (9, 0)] [] σ = js_J E d 79 9 [(2, 23 + b), (0, σ 1 1)] [(0, σ 1 1)] σ :=
  (j_aload_n q_79_0 rfl).trans <| (j_get (ji := 4) (v := (2, 1)) q_79_1 (js_Fo qy_79 qf_5_33) (js_o23b hb) rfl rfl rfl rfl).trans <| (j_get (ji := 1) (v := (0, σ 1 1)) q_79_4 (js_Fo qy_79 qf_5_65) js_o1 rfl rfl rfl rfl).trans <| (j_istore_n (l2 := [(2, 23 + b), (0, σ 1 1)]) q_79_7 rfl (Nat.le_of_ble_eq_true rfl)).trans <| (j_iload_n q_79_8 rfl).trans <| rfl
theorem s_79_9_3 {E : js_E} {d : Nat} {σ : js_S} {x1 z0 b : Int} (h : js_w z0 = 3) : js_J E d 79 9 [(2, 23 + b), (0, x1)] [(0, z0)] σ = js_J E d 79 84 [(2, 23 + b), (0, x1)] [] σ :=
  j_lsw (t := 84) q_79_9 (by rw [h]; rfl)
theorem s_79_9_40 {E : js_E} {d : Nat} {σ : js_S} {x1 z0 b : Int} (h : js_w z0 = 40) : js_J E d 79 9 [(2, 23 + b), (0, x1)] [(0, z0)] σ = js_J E d 79 178 [(2, 23 + b), (0, x1)] [] σ :=
  j_lsw (t := 178) q_79_9 (by rw [h]; rfl)
theorem s_79_9_216 {E : js_E} {d : Nat} {σ : js_S} {x1 z0 b : Int} (h : js_w z0 = 216) : js_J E d 79 9 [(2, 23 + b), (0, x1)] [(0, z0)] σ = js_J E d 79 133 [(2, 23 + b), (0, x1)] [] σ :=
  j_lsw (t := 133) q_79_9 (by rw [h]; rfl)
theorem s_79_9_217 {E : js_E} {d : Nat} {σ : js_S} {x1 z0 b : Int} (h : js_w z0 = 217) : js_J E d 79 9 [(2, 23 + b), (0, x1)] [(0, z0)] σ = js_J E d 79 133 [(2, 23 + b), (0, x1)] [] σ :=
  j_lsw (t := 133) q_79_9 (by rw [h]; rfl)
theorem s_79_9_218 {E : js_E} {d : Nat} {σ : js_S} {x1 z0 b : Int} (h : js_w z0 = 218) : js_J E d 79 9 [(2, 23 + b), (0, x1)] [(0, z0)] σ = js_J E d 79 203 [(2, 23 + b), (0, x1)] [] σ :=
  j_lsw (t := 203) q_79_9 (by rw [h]; rfl)
theorem s_79_9_219 {E : js_E} {d : Nat} {σ : js_S} {x1 z0 b : Int} (h : js_w z0 = 219) : js_J E d 79 9 [(2, 23 + b), (0, x1)] [(0, z0)] σ = js_J E d 79 203 [(2, 23 + b), (0, x1)] [] σ :=
  j_lsw (t := 203) q_79_9 (by rw [h]; rfl)
theorem s_79_9_220 {E : js_E} {d : Nat} {σ : js_S} {x1 z0 b : Int} (h : js_w z0 = 220) : js_J E d 79 9 [(2, 23 + b), (0, x1)] [(0, z0)] σ = js_J E d 79 222 [(2, 23 + b), (0, x1)] [] σ :=
  j_lsw (t := 222) q_79_9 (by rw [h]; rfl)
theorem s_79_9_221 {E : js_E} {d : Nat} {σ : js_S} {x1 z0 b : Int} (h : js_w z0 = 221) : js_J E d 79 9 [(2, 23 + b), (0, x1)] [(0, z0)] σ = js_J E d 79 229 [(2, 23 + b), (0, x1)] [] σ :=
  j_lsw (t := 229) q_79_9 (by rw [h]; rfl)
theorem s_79_9_d {E : js_E} {d : Nat} {σ : js_S} {x1 z0 b : Int} (h : js_w z0 ≠ 3 ∧ js_w z0 ≠ 40 ∧ js_w z0 ≠ 216 ∧ js_w z0 ≠ 217 ∧ js_w z0 ≠ 218 ∧ js_w z0 ≠ 219 ∧ js_w z0 ≠ 220 ∧ js_w z0 ≠ 221) : js_J E d 79 9 [(2, 23 + b), (0, x1)] [(0, z0)] σ = js_J E d 79 236 [(2, 23 + b), (0, x1)] [] σ :=
  j_lsw (t := 236) q_79_9 (by obtain ⟨h0, h1, h2, h3, h4, h5, h6, h7⟩ := h; simp [Op.lookupswitch.offset, Ne.symm h0, Ne.symm h1, Ne.symm h2, Ne.symm h3, Ne.symm h4, Ne.symm h5, Ne.symm h6, Ne.symm h7]; rfl)
theorem b_79_84 {E : js_E} {d : Nat} {σ : js_S} {x1 b : Int} (hb : b = 0 ∨ b = 25) : js_J E d 79 84 [(2, 23 + b), (0, x1)] [] σ = js_J E d 79 90 [(2, 23 + b), (0, x1)] [(2, 1), (0, 0), (2, 23 + b)] σ :=
  (j_aload_n q_79_84 rfl).trans <| (j_iconst q_79_85).trans <| (j_aload_n q_79_86 rfl).trans <| (j_get (ji := 4) (v := (2, 1)) q_79_87 (js_Fo qy_79 qf_5_33) (js_o23b hb) rfl rfl rfl rfl).trans <| rfl
theorem k_79_90 {E : js_E} {d : Nat} {σ σ2 : js_S} {x1 z1 b : Int} {v : Int} (hd : 1 ≤ d) (hz : js_J E (d - 1) 42 0 [(2, 1), (9, 0), (9, 0)] [] σ = js_r E (0, v) σ2) : js_J E d 79 90 [(2, 23 + b), (0, x1)] [(2, 1), (0, z1), (2, 23 + b)] σ = js_J E d 79 93 [(2, 23 + b), (0, x1)] [(0, v), (0, z1), (2, 23 + b)] σ2 :=
  j_call (m := 2) (js_caV q_79_90 (js_Mo qy_79 qm_5_187)) (js_agV (av := []) (st := [(0, z1), (2, 23 + b)]) rfl rfl js_o1 rfl) rfl rfl (by rw [ql_42]; exact Nat.le_of_ble_eq_true rfl) (Nat.le_of_ble_eq_true rfl) hd hz
theorem kt_79_90 {E : js_E} {d : Nat} {σ σ2 : js_S} {x1 z1 b : Int} {w : Int} (hd : 1 ≤ d) (hz : js_J E (d - 1) 42 0 [(2, 1), (9, 0), (9, 0)] [] σ = js_t E w σ2) : js_J E d 79 90 [(2, 23 + b), (0, x1)] [(2, 1), (0, z1), (2, 23 + b)] σ = js_t E w σ2 :=
  j_callT (m := 2) (js_caV q_79_90 (js_Mo qy_79 qm_5_187)) (js_agV (av := []) (st := [(0, z1), (2, 23 + b)]) rfl rfl js_o1 rfl) rfl rfl (by rw [ql_42]; exact Nat.le_of_ble_eq_true rfl) (Nat.le_of_ble_eq_true rfl) hd rfl hz
theorem b_79_93 {E : js_E} {d : Nat} {σ : js_S} {x1 z1 z2 b : Int} (hb : b = 0 ∨ b = 25) : js_J E d 79 93 [(2, 23 + b), (0, x1)] [(0, z2), (0, z1), (2, 23 + b)] σ = js_J E d 79 97 [(2, 23 + b), (0, x1)] [(2, 1), (0, z2), (0, z1), (2, 23 + b)] σ :=
  (j_aload_n q_79_93 rfl).trans <| (j_get (ji := 4) (v := (2, 1)) q_79_94 (js_Fo qy_79 qf_5_33) (js_o23b hb) rfl rfl rfl rfl).trans <| rfl
theorem k_79_97 {E : js_E} {d : Nat} {σ σ2 : js_S} {x1 z1 z2 b : Int} {v : Int} (hd : 1 ≤ d) (hz : js_J E (d - 1) 42 0 [(2, 1), (9, 0), (9, 0)] [] σ = js_r E (0, v) σ2) : js_J E d 79 97 [(2, 23 + b), (0, x1)] [(2, 1), (0, z2), (0, z1), (2, 23 + b)] σ = js_J E d 79 100 [(2, 23 + b), (0, x1)] [(0, v), (0, z2), (0, z1), (2, 23 + b)] σ2 :=
  j_call (m := 2) (js_caV q_79_97 (js_Mo qy_79 qm_5_187)) (js_agV (av := []) (st := [(0, z2), (0, z1), (2, 23 + b)]) rfl rfl js_o1 rfl) rfl rfl (by rw [ql_42]; exact Nat.le_of_ble_eq_true rfl) (Nat.le_of_ble_eq_true rfl) hd hz
theorem kt_79_97 {E : js_E} {d : Nat} {σ σ2 : js_S} {x1 z1 z2 b : Int} {w : Int} (hd : 1 ≤ d) (hz : js_J E (d - 1) 42 0 [(2, 1), (9, 0), (9, 0)] [] σ = js_t E w σ2) : js_J E d 79 97 [(2, 23 + b), (0, x1)] [(2, 1), (0, z2), (0, z1), (2, 23 + b)] σ = js_t E w σ2 :=
  j_callT (m := 2) (js_caV q_79_97 (js_Mo qy_79 qm_5_187)) (js_agV (av := []) (st := [(0, z2), (0, z1), (2, 23 + b)]) rfl rfl js_o1 rfl) rfl rfl (by rw [ql_42]; exact Nat.le_of_ble_eq_true rfl) (Nat.le_of_ble_eq_true rfl) hd rfl hz
theorem k_79_100 {E : js_E} {d : Nat} {σ σ2 : js_S} {x1 z1 z2 z3 b : Int} (hb : b = 0 ∨ b = 25) (hd : 1 ≤ d) (hz : js_J E (d - 1) 75 0 [(2, 23 + b), (0, z1), (0, z2), (0, z3)] [] σ = js_r0 E σ2) : js_J E d 79 100 [(2, 23 + b), (0, x1)] [(0, z3), (0, z2), (0, z1), (2, 23 + b)] σ = js_J E d 79 103 [(2, 23 + b), (0, x1)] [] σ2 :=
  j_call0 (m := 0) (js_caV q_79_100 (js_Mo qy_79 qm_5_147)) (js_agV (av := [(0, z1), (0, z2), (0, z3)]) (st := []) rfl rfl (js_o23b hb) rfl) rfl rfl (by rw [ql_75]; exact Nat.le_of_ble_eq_true rfl) (Nat.le_of_ble_eq_true rfl) hd hz
theorem kt_79_100 {E : js_E} {d : Nat} {σ σ2 : js_S} {x1 z1 z2 z3 b : Int} (hb : b = 0 ∨ b = 25) {w : Int} (hd : 1 ≤ d) (hz : js_J E (d - 1) 75 0 [(2, 23 + b), (0, z1), (0, z2), (0, z3)] [] σ = js_t E w σ2) : js_J E d 79 100 [(2, 23 + b), (0, x1)] [(0, z3), (0, z2), (0, z1), (2, 23 + b)] σ = js_t E w σ2 :=
  j_callT (m := 0) (js_caV q_79_100 (js_Mo qy_79 qm_5_147)) (js_agV (av := [(0, z1), (0, z2), (0, z3)]) (st := []) rfl rfl (js_o23b hb) rfl) rfl rfl (by rw [ql_75]; exact Nat.le_of_ble_eq_true rfl) (Nat.le_of_ble_eq_true rfl) hd rfl hz
theorem b_79_103 {E : js_E} {d : Nat} {σ : js_S} {x1 b : Int} (hb : b = 0 ∨ b = 25) : js_J E d 79 103 [(2, 23 + b), (0, x1)] [] σ = js_J E d 79 120 [(2, 23 + b), (0, x1)] [(0, σ (23 + b) 2), (0, σ (23 + b) 1), (0, σ (23 + b) 1), (0, 0), (2, 8 + b)] σ :=
  (j_aload_n q_79_103 rfl).trans <| (j_get (ji := 6) (v := (2, 8 + b)) q_79_104 (js_Fo qy_79 qf_5_47) (js_o23b hb) rfl rfl rfl rfl).trans <| (j_iconst q_79_107).trans <| (j_aload_n q_79_108 rfl).trans <| (j_get (ji := 1) (v := (0, σ (23 + b) 1)) q_79_109 (js_Fo qy_79 qf_5_94) (js_o23b hb) rfl rfl rfl rfl).trans <| (j_aload_n q_79_112 rfl).trans <| (j_get (ji := 1) (v := (0, σ (23 + b) 1)) q_79_113 (js_Fo qy_79 qf_5_94) (js_o23b hb) rfl rfl rfl rfl).trans <| (j_aload_n q_79_116 rfl).trans <| (j_get (ji := 2) (v := (0, σ (23 + b) 2)) q_79_117 (js_Fo qy_79 qf_5_97) (js_o23b hb) rfl rfl rfl rfl).trans <| rfl
theorem k_79_120 {E : js_E} {d : Nat} {σ σ2 : js_S} {x1 z1 z2 z3 z4 b : Int} (hb : b = 0 ∨ b = 25) (hd : 1 ≤ d) (hz : js_J E (d - 1) 59 0 [(2, 8 + b), (0, z1), (0, z2), (0, z3), (0, z4)] [] σ = js_r0 E σ2) : js_J E d 79 120 [(2, 23 + b), (0, x1)] [(0, z4), (0, z3), (0, z2), (0, z1), (2, 8 + b)] σ = js_J E d 79 123 [(2, 23 + b), (0, x1)] [] σ2 :=
  j_call0 (m := 0) (js_caV q_79_120 (js_Mo qy_79 qm_5_100)) (js_agV (av := [(0, z1), (0, z2), (0, z3), (0, z4)]) (st := []) rfl rfl (js_o8b hb) rfl) rfl rfl (by rw [ql_59]; exact Nat.le_of_ble_eq_true rfl) (Nat.le_of_ble_eq_true rfl) hd hz
theorem kt_79_120 {E : js_E} {d : Nat} {σ σ2 : js_S} {x1 z1 z2 z3 z4 b : Int} (hb : b = 0 ∨ b = 25) {w : Int} (hd : 1 ≤ d) (hz : js_J E (d - 1) 59 0 [(2, 8 + b), (0, z1), (0, z2), (0, z3), (0, z4)] [] σ = js_t E w σ2) : js_J E d 79 120 [(2, 23 + b), (0, x1)] [(0, z4), (0, z3), (0, z2), (0, z1), (2, 8 + b)] σ = js_t E w σ2 :=
  j_callT (m := 0) (js_caV q_79_120 (js_Mo qy_79 qm_5_100)) (js_agV (av := [(0, z1), (0, z2), (0, z3), (0, z4)]) (st := []) rfl rfl (js_o8b hb) rfl) rfl rfl (by rw [ql_59]; exact Nat.le_of_ble_eq_true rfl) (Nat.le_of_ble_eq_true rfl) hd rfl hz
theorem b_79_123 {E : js_E} {d : Nat} {σ : js_S} {x1 b : Int} (hb : b = 0 ∨ b = 25) : js_J E d 79 123 [(2, 23 + b), (0, x1)] [] σ = js_J E d 79 127 [(2, 23 + b), (0, x1)] [(2, 1)] σ :=
  (j_aload_n q_79_123 rfl).trans <| (j_get (ji := 4) (v := (2, 1)) q_79_124 (js_Fo qy_79 qf_5_33) (js_o23b hb) rfl rfl rfl rfl).trans <| rfl
theorem k_79_127 {E : js_E} {d : Nat} {σ σ2 : js_S} {x1 b : Int} (hd : 1 ≤ d) (hz : js_J E (d - 1) 33 0 [(2, 1), (9, 0)] [] σ = js_r0 E σ2) : js_J E d 79 127 [(2, 23 + b), (0, x1)] [(2, 1)] σ = js_J E d 79 130 [(2, 23 + b), (0, x1)] [] σ2 :=
  j_call0 (m := 1) (js_caV q_79_127 (js_Mo qy_79 qm_5_140)) (js_agV (av := []) (st := []) rfl rfl js_o1 rfl) rfl rfl (by rw [ql_33]; exact Nat.le_of_ble_eq_true rfl) (Nat.le_of_ble_eq_true rfl) hd hz
theorem kt_79_127 {E : js_E} {d : Nat} {σ σ2 : js_S} {x1 b : Int} {w : Int} (hd : 1 ≤ d) (hz : js_J E (d - 1) 33 0 [(2, 1), (9, 0)] [] σ = js_t E w σ2) : js_J E d 79 127 [(2, 23 + b), (0, x1)] [(2, 1)] σ = js_t E w σ2 :=
  j_callT (m := 1) (js_caV q_79_127 (js_Mo qy_79 qm_5_140)) (js_agV (av := []) (st := []) rfl rfl js_o1 rfl) rfl rfl (by rw [ql_33]; exact Nat.le_of_ble_eq_true rfl) (Nat.le_of_ble_eq_true rfl) hd rfl hz
theorem b_79_130 {E : js_E} {d : Nat} {σ : js_S} {x1 b : Int} : js_J E d 79 130 [(2, 23 + b), (0, x1)] [] σ = js_J E d 79 251 [(2, 23 + b), (0, x1)] [] σ :=
  (j_goto (t := 251) q_79_130 rfl).trans <| rfl
theorem b_79_133 {E : js_E} {d : Nat} {σ : js_S} {x1 b : Int} : js_J E d 79 133 [(2, 23 + b), (0, x1)] [] σ = js_J E d 79 137 [(2, 23 + b), (0, x1)] [(0, 1), (0, 0), (0, 1), (2, 23 + b)] σ :=
  (j_aload_n q_79_133 rfl).trans <| (j_iconst q_79_134).trans <| (j_iconst q_79_135).trans <| (j_iconst q_79_136).trans <| rfl
theorem k_79_137 {E : js_E} {d : Nat} {σ σ2 : js_S} {x1 z1 z2 z3 b : Int} (hb : b = 0 ∨ b = 25) (hd : 1 ≤ d) (hz : js_J E (d - 1) 75 0 [(2, 23 + b), (0, z1), (0, z2), (0, z3)] [] σ = js_r0 E σ2) : js_J E d 79 137 [(2, 23 + b), (0, x1)] [(0, z3), (0, z2), (0, z1), (2, 23 + b)] σ = js_J E d 79 140 [(2, 23 + b), (0, x1)] [] σ2 :=
  j_call0 (m := 0) (js_caV q_79_137 (js_Mo qy_79 qm_5_147)) (js_agV (av := [(0, z1), (0, z2), (0, z3)]) (st := []) rfl rfl (js_o23b hb) rfl) rfl rfl (by rw [ql_75]; exact Nat.le_of_ble_eq_true rfl) (Nat.le_of_ble_eq_true rfl) hd hz
theorem kt_79_137 {E : js_E} {d : Nat} {σ σ2 : js_S} {x1 z1 z2 z3 b : Int} (hb : b = 0 ∨ b = 25) {w : Int} (hd : 1 ≤ d) (hz : js_J E (d - 1) 75 0 [(2, 23 + b), (0, z1), (0, z2), (0, z3)] [] σ = js_t E w σ2) : js_J E d 79 137 [(2, 23 + b), (0, x1)] [(0, z3), (0, z2), (0, z1), (2, 23 + b)] σ = js_t E w σ2 :=
  j_callT (m := 0) (js_caV q_79_137 (js_Mo qy_79 qm_5_147)) (js_agV (av := [(0, z1), (0, z2), (0, z3)]) (st := []) rfl rfl (js_o23b hb) rfl) rfl rfl (by rw [ql_75]; exact Nat.le_of_ble_eq_true rfl) (Nat.le_of_ble_eq_true rfl) hd rfl hz
theorem b_79_140 {E : js_E} {d : Nat} {σ : js_S} {x1 b : Int} (hb : b = 0 ∨ b = 25) : js_J E d 79 140 [(2, 23 + b), (0, x1)] [] σ = (if js_w x1 = 216 then js_J E d 79 157 [(2, 23 + b), (0, x1)] [(0, 1), (0, 0), (2, 8 + b)] σ else js_J E d 79 157 [(2, 23 + b), (0, x1)] [(0, 0), (0, 0), (2, 8 + b)] σ) :=
  (j_aload_n q_79_140 rfl).trans <| (j_get (ji := 6) (v := (2, 8 + b)) q_79_141 (js_Fo qy_79 qf_5_47) (js_o23b hb) rfl rfl rfl rfl).trans <| (j_iconst q_79_144).trans <| (j_iload_n q_79_145 rfl).trans <| (j_si q_79_146 rfl).trans <| (j_cmpneB (t := 156) q_79_149 rfl ww_216).trans (js_ite ((j_iconst q_79_152).trans <| (j_goto (t := 157) q_79_153 rfl).trans <| rfl) ((j_iconst q_79_156).trans <| rfl))
theorem b_79_157 {E : js_E} {d : Nat} {σ : js_S} {x1 z1 z2 b : Int} (hb : b = 0 ∨ b = 25) : js_J E d 79 157 [(2, 23 + b), (0, x1)] [(0, z2), (0, z1), (2, 8 + b)] σ = js_J E d 79 165 [(2, 23 + b), (0, x1)] [(0, σ (23 + b) 2), (0, σ (23 + b) 1), (0, z2), (0, z1), (2, 8 + b)] σ :=
  (j_aload_n q_79_157 rfl).trans <| (j_get (ji := 1) (v := (0, σ (23 + b) 1)) q_79_158 (js_Fo qy_79 qf_5_94) (js_o23b hb) rfl rfl rfl rfl).trans <| (j_aload_n q_79_161 rfl).trans <| (j_get (ji := 2) (v := (0, σ (23 + b) 2)) q_79_162 (js_Fo qy_79 qf_5_97) (js_o23b hb) rfl rfl rfl rfl).trans <| rfl
theorem k_79_165 {E : js_E} {d : Nat} {σ σ2 : js_S} {x1 z1 z2 z3 z4 b : Int} (hb : b = 0 ∨ b = 25) (hd : 1 ≤ d) (hz : js_J E (d - 1) 59 0 [(2, 8 + b), (0, z1), (0, z2), (0, z3), (0, z4)] [] σ = js_r0 E σ2) : js_J E d 79 165 [(2, 23 + b), (0, x1)] [(0, z4), (0, z3), (0, z2), (0, z1), (2, 8 + b)] σ = js_J E d 79 168 [(2, 23 + b), (0, x1)] [] σ2 :=
  j_call0 (m := 0) (js_caV q_79_165 (js_Mo qy_79 qm_5_100)) (js_agV (av := [(0, z1), (0, z2), (0, z3), (0, z4)]) (st := []) rfl rfl (js_o8b hb) rfl) rfl rfl (by rw [ql_59]; exact Nat.le_of_ble_eq_true rfl) (Nat.le_of_ble_eq_true rfl) hd hz
theorem kt_79_165 {E : js_E} {d : Nat} {σ σ2 : js_S} {x1 z1 z2 z3 z4 b : Int} (hb : b = 0 ∨ b = 25) {w : Int} (hd : 1 ≤ d) (hz : js_J E (d - 1) 59 0 [(2, 8 + b), (0, z1), (0, z2), (0, z3), (0, z4)] [] σ = js_t E w σ2) : js_J E d 79 165 [(2, 23 + b), (0, x1)] [(0, z4), (0, z3), (0, z2), (0, z1), (2, 8 + b)] σ = js_t E w σ2 :=
  j_callT (m := 0) (js_caV q_79_165 (js_Mo qy_79 qm_5_100)) (js_agV (av := [(0, z1), (0, z2), (0, z3), (0, z4)]) (st := []) rfl rfl (js_o8b hb) rfl) rfl rfl (by rw [ql_59]; exact Nat.le_of_ble_eq_true rfl) (Nat.le_of_ble_eq_true rfl) hd rfl hz
theorem b_79_168 {E : js_E} {d : Nat} {σ : js_S} {x1 b : Int} (hb : b = 0 ∨ b = 25) : js_J E d 79 168 [(2, 23 + b), (0, x1)] [] σ = js_J E d 79 172 [(2, 23 + b), (0, x1)] [(2, 1)] σ :=
  (j_aload_n q_79_168 rfl).trans <| (j_get (ji := 4) (v := (2, 1)) q_79_169 (js_Fo qy_79 qf_5_33) (js_o23b hb) rfl rfl rfl rfl).trans <| rfl
theorem k_79_172 {E : js_E} {d : Nat} {σ σ2 : js_S} {x1 b : Int} (hd : 1 ≤ d) (hz : js_J E (d - 1) 33 0 [(2, 1), (9, 0)] [] σ = js_r0 E σ2) : js_J E d 79 172 [(2, 23 + b), (0, x1)] [(2, 1)] σ = js_J E d 79 175 [(2, 23 + b), (0, x1)] [] σ2 :=
  j_call0 (m := 1) (js_caV q_79_172 (js_Mo qy_79 qm_5_140)) (js_agV (av := []) (st := []) rfl rfl js_o1 rfl) rfl rfl (by rw [ql_33]; exact Nat.le_of_ble_eq_true rfl) (Nat.le_of_ble_eq_true rfl) hd hz
theorem kt_79_172 {E : js_E} {d : Nat} {σ σ2 : js_S} {x1 b : Int} {w : Int} (hd : 1 ≤ d) (hz : js_J E (d - 1) 33 0 [(2, 1), (9, 0)] [] σ = js_t E w σ2) : js_J E d 79 172 [(2, 23 + b), (0, x1)] [(2, 1)] σ = js_t E w σ2 :=
  j_callT (m := 1) (js_caV q_79_172 (js_Mo qy_79 qm_5_140)) (js_agV (av := []) (st := []) rfl rfl js_o1 rfl) rfl rfl (by rw [ql_33]; exact Nat.le_of_ble_eq_true rfl) (Nat.le_of_ble_eq_true rfl) hd rfl hz
theorem b_79_175 {E : js_E} {d : Nat} {σ : js_S} {x1 b : Int} : js_J E d 79 175 [(2, 23 + b), (0, x1)] [] σ = js_J E d 79 251 [(2, 23 + b), (0, x1)] [] σ :=
  (j_goto (t := 251) q_79_175 rfl).trans <| rfl
theorem b_79_178 {E : js_E} {d : Nat} {σ : js_S} {x1 b : Int} (hb : b = 0 ∨ b = 25) : js_J E d 79 178 [(2, 23 + b), (0, x1)] [] σ = js_J E d 79 184 [(2, 23 + b), (0, x1)] [(0, 40), (2, 1)] σ :=
  (j_aload_n q_79_178 rfl).trans <| (j_get (ji := 4) (v := (2, 1)) q_79_179 (js_Fo qy_79 qf_5_33) (js_o23b hb) rfl rfl rfl rfl).trans <| (j_bi q_79_182 rfl).trans <| rfl
theorem k_79_184 {E : js_E} {d : Nat} {σ σ2 : js_S} {x1 z1 b : Int} (hd : 1 ≤ d) (hz : js_J E (d - 1) 47 0 [(2, 1), (0, z1)] [] σ = js_r0 E σ2) : js_J E d 79 184 [(2, 23 + b), (0, x1)] [(0, z1), (2, 1)] σ = js_J E d 79 187 [(2, 23 + b), (0, x1)] [] σ2 :=
  j_call0 (m := 0) (js_caV q_79_184 (js_Mo qy_79 qm_5_124)) (js_agV (av := [(0, z1)]) (st := []) rfl rfl js_o1 rfl) rfl rfl (by rw [ql_47]; exact Nat.le_of_ble_eq_true rfl) (Nat.le_of_ble_eq_true rfl) hd hz
theorem kt_79_184 {E : js_E} {d : Nat} {σ σ2 : js_S} {x1 z1 b : Int} {w : Int} (hd : 1 ≤ d) (hz : js_J E (d - 1) 47 0 [(2, 1), (0, z1)] [] σ = js_t E w σ2) : js_J E d 79 184 [(2, 23 + b), (0, x1)] [(0, z1), (2, 1)] σ = js_t E w σ2 :=
  j_callT (m := 0) (js_caV q_79_184 (js_Mo qy_79 qm_5_124)) (js_agV (av := [(0, z1)]) (st := []) rfl rfl js_o1 rfl) rfl rfl (by rw [ql_47]; exact Nat.le_of_ble_eq_true rfl) (Nat.le_of_ble_eq_true rfl) hd rfl hz
theorem b_79_187 {E : js_E} {d : Nat} {σ : js_S} {x1 b : Int} : js_J E d 79 187 [(2, 23 + b), (0, x1)] [] σ = js_J E d 79 188 [(2, 23 + b), (0, x1)] [(2, 23 + b)] σ :=
  (j_aload_n q_79_187 rfl).trans <| rfl
theorem k_79_188 {E : js_E} {d : Nat} {σ σ2 : js_S} {x1 b : Int} (hb : b = 0 ∨ b = 25) (hd : 1 ≤ d) (hz : js_J E (d - 1) 61 0 [(2, 23 + b), (9, 0), (9, 0), (9, 0), (9, 0), (9, 0), (9, 0)] [] σ = js_r0 E σ2) : js_J E d 79 188 [(2, 23 + b), (0, x1)] [(2, 23 + b)] σ = js_J E d 79 191 [(2, 23 + b), (0, x1)] [] σ2 :=
  j_call0 (m := 6) (js_caV q_79_188 (js_Mo qy_79 qm_5_177)) (js_agV (av := []) (st := []) rfl rfl (js_o23b hb) rfl) rfl rfl (by rw [ql_61]; exact Nat.le_of_ble_eq_true rfl) (Nat.le_of_ble_eq_true rfl) hd hz
theorem kt_79_188 {E : js_E} {d : Nat} {σ σ2 : js_S} {x1 b : Int} (hb : b = 0 ∨ b = 25) {w : Int} (hd : 1 ≤ d) (hz : js_J E (d - 1) 61 0 [(2, 23 + b), (9, 0), (9, 0), (9, 0), (9, 0), (9, 0), (9, 0)] [] σ = js_t E w σ2) : js_J E d 79 188 [(2, 23 + b), (0, x1)] [(2, 23 + b)] σ = js_t E w σ2 :=
  j_callT (m := 6) (js_caV q_79_188 (js_Mo qy_79 qm_5_177)) (js_agV (av := []) (st := []) rfl rfl (js_o23b hb) rfl) rfl rfl (by rw [ql_61]; exact Nat.le_of_ble_eq_true rfl) (Nat.le_of_ble_eq_true rfl) hd rfl hz
theorem b_79_191 {E : js_E} {d : Nat} {σ : js_S} {x1 b : Int} (hb : b = 0 ∨ b = 25) : js_J E d 79 191 [(2, 23 + b), (0, x1)] [] σ = js_J E d 79 197 [(2, 23 + b), (0, x1)] [(0, 41), (2, 1)] σ :=
  (j_aload_n q_79_191 rfl).trans <| (j_get (ji := 4) (v := (2, 1)) q_79_192 (js_Fo qy_79 qf_5_33) (js_o23b hb) rfl rfl rfl rfl).trans <| (j_bi q_79_195 rfl).trans <| rfl
theorem k_79_197 {E : js_E} {d : Nat} {σ σ2 : js_S} {x1 z1 b : Int} (hd : 1 ≤ d) (hz : js_J E (d - 1) 48 0 [(2, 1), (0, z1)] [] σ = js_r0 E σ2) : js_J E d 79 197 [(2, 23 + b), (0, x1)] [(0, z1), (2, 1)] σ = js_J E d 79 200 [(2, 23 + b), (0, x1)] [] σ2 :=
  j_call0 (m := 0) (js_caV q_79_197 (js_Mo qy_79 qm_5_191)) (js_agV (av := [(0, z1)]) (st := []) rfl rfl js_o1 rfl) rfl rfl (by rw [ql_48]; exact Nat.le_of_ble_eq_true rfl) (Nat.le_of_ble_eq_true rfl) hd hz
theorem kt_79_197 {E : js_E} {d : Nat} {σ σ2 : js_S} {x1 z1 b : Int} {w : Int} (hd : 1 ≤ d) (hz : js_J E (d - 1) 48 0 [(2, 1), (0, z1)] [] σ = js_t E w σ2) : js_J E d 79 197 [(2, 23 + b), (0, x1)] [(0, z1), (2, 1)] σ = js_t E w σ2 :=
  j_callT (m := 0) (js_caV q_79_197 (js_Mo qy_79 qm_5_191)) (js_agV (av := [(0, z1)]) (st := []) rfl rfl js_o1 rfl) rfl rfl (by rw [ql_48]; exact Nat.le_of_ble_eq_true rfl) (Nat.le_of_ble_eq_true rfl) hd rfl hz
theorem b_79_200 {E : js_E} {d : Nat} {σ : js_S} {x1 b : Int} : js_J E d 79 200 [(2, 23 + b), (0, x1)] [] σ = js_J E d 79 251 [(2, 23 + b), (0, x1)] [] σ :=
  (j_goto (t := 251) q_79_200 rfl).trans <| rfl
theorem b_79_203 {E : js_E} {d : Nat} {σ : js_S} {x1 b : Int} : js_J E d 79 203 [(2, 23 + b), (0, x1)] [] σ = (if js_w x1 = 218 then js_J E d 79 216 [(2, 23 + b), (0, x1)] [(0, 1), (2, 23 + b)] σ else js_J E d 79 216 [(2, 23 + b), (0, x1)] [(0, 0), (2, 23 + b)] σ) :=
  (j_aload_n q_79_203 rfl).trans <| (j_iload_n q_79_204 rfl).trans <| (j_si q_79_205 rfl).trans <| (j_cmpneB (t := 215) q_79_208 rfl ww_218).trans (js_ite ((j_iconst q_79_211).trans <| (j_goto (t := 216) q_79_212 rfl).trans <| rfl) ((j_iconst q_79_215).trans <| rfl))
theorem k_79_216 {E : js_E} {d : Nat} {σ σ2 : js_S} {x1 z1 b : Int} (hb : b = 0 ∨ b = 25) (hd : 1 ≤ d) (hz : js_J E (d - 1) 80 0 [(2, 23 + b), (0, z1), (9, 0), (9, 0), (9, 0), (9, 0)] [] σ = js_r0 E σ2) : js_J E d 79 216 [(2, 23 + b), (0, x1)] [(0, z1), (2, 23 + b)] σ = js_J E d 79 219 [(2, 23 + b), (0, x1)] [] σ2 :=
  j_call0 (m := 4) (js_caV q_79_216 (js_Mo qy_79 qm_5_194)) (js_agV (av := [(0, z1)]) (st := []) rfl rfl (js_o23b hb) rfl) rfl rfl (by rw [ql_80]; exact Nat.le_of_ble_eq_true rfl) (Nat.le_of_ble_eq_true rfl) hd hz
theorem kt_79_216 {E : js_E} {d : Nat} {σ σ2 : js_S} {x1 z1 b : Int} (hb : b = 0 ∨ b = 25) {w : Int} (hd : 1 ≤ d) (hz : js_J E (d - 1) 80 0 [(2, 23 + b), (0, z1), (9, 0), (9, 0), (9, 0), (9, 0)] [] σ = js_t E w σ2) : js_J E d 79 216 [(2, 23 + b), (0, x1)] [(0, z1), (2, 23 + b)] σ = js_t E w σ2 :=
  j_callT (m := 4) (js_caV q_79_216 (js_Mo qy_79 qm_5_194)) (js_agV (av := [(0, z1)]) (st := []) rfl rfl (js_o23b hb) rfl) rfl rfl (by rw [ql_80]; exact Nat.le_of_ble_eq_true rfl) (Nat.le_of_ble_eq_true rfl) hd rfl hz
theorem b_79_219 {E : js_E} {d : Nat} {σ : js_S} {x1 b : Int} : js_J E d 79 219 [(2, 23 + b), (0, x1)] [] σ = js_J E d 79 251 [(2, 23 + b), (0, x1)] [] σ :=
  (j_goto (t := 251) q_79_219 rfl).trans <| rfl
theorem b_79_222 {E : js_E} {d : Nat} {σ : js_S} {x1 b : Int} : js_J E d 79 222 [(2, 23 + b), (0, x1)] [] σ = js_J E d 79 223 [(2, 23 + b), (0, x1)] [(2, 23 + b)] σ :=
  (j_aload_n q_79_222 rfl).trans <| rfl
theorem k_79_223 {E : js_E} {d : Nat} {σ σ2 : js_S} {x1 b : Int} (hb : b = 0 ∨ b = 25) (hd : 1 ≤ d) (hz : js_J E (d - 1) 83 0 [(2, 23 + b), (9, 0), (9, 0), (9, 0)] [] σ = js_r0 E σ2) : js_J E d 79 223 [(2, 23 + b), (0, x1)] [(2, 23 + b)] σ = js_J E d 79 226 [(2, 23 + b), (0, x1)] [] σ2 :=
  j_call0 (m := 3) (js_caV q_79_223 (js_Mo qy_79 qm_5_197)) (js_agV (av := []) (st := []) rfl rfl (js_o23b hb) rfl) rfl rfl (by rw [ql_83]; exact Nat.le_of_ble_eq_true rfl) (Nat.le_of_ble_eq_true rfl) hd hz
theorem kt_79_223 {E : js_E} {d : Nat} {σ σ2 : js_S} {x1 b : Int} (hb : b = 0 ∨ b = 25) {w : Int} (hd : 1 ≤ d) (hz : js_J E (d - 1) 83 0 [(2, 23 + b), (9, 0), (9, 0), (9, 0)] [] σ = js_t E w σ2) : js_J E d 79 223 [(2, 23 + b), (0, x1)] [(2, 23 + b)] σ = js_t E w σ2 :=
  j_callT (m := 3) (js_caV q_79_223 (js_Mo qy_79 qm_5_197)) (js_agV (av := []) (st := []) rfl rfl (js_o23b hb) rfl) rfl rfl (by rw [ql_83]; exact Nat.le_of_ble_eq_true rfl) (Nat.le_of_ble_eq_true rfl) hd rfl hz
theorem b_79_226 {E : js_E} {d : Nat} {σ : js_S} {x1 b : Int} : js_J E d 79 226 [(2, 23 + b), (0, x1)] [] σ = js_J E d 79 251 [(2, 23 + b), (0, x1)] [] σ :=
  (j_goto (t := 251) q_79_226 rfl).trans <| rfl
theorem b_79_229 {E : js_E} {d : Nat} {σ : js_S} {x1 b : Int} : js_J E d 79 229 [(2, 23 + b), (0, x1)] [] σ = js_J E d 79 230 [(2, 23 + b), (0, x1)] [(2, 23 + b)] σ :=
  (j_aload_n q_79_229 rfl).trans <| rfl
theorem k_79_230 {E : js_E} {d : Nat} {σ σ2 : js_S} {x1 b : Int} (hb : b = 0 ∨ b = 25) (hd : 1 ≤ d) (hz : js_J E (d - 1) 84 0 [(2, 23 + b), (9, 0), (9, 0), (9, 0)] [] σ = js_r0 E σ2) : js_J E d 79 230 [(2, 23 + b), (0, x1)] [(2, 23 + b)] σ = js_J E d 79 233 [(2, 23 + b), (0, x1)] [] σ2 :=
  j_call0 (m := 3) (js_caV q_79_230 (js_Mo qy_79 qm_5_200)) (js_agV (av := []) (st := []) rfl rfl (js_o23b hb) rfl) rfl rfl (by rw [ql_84]; exact Nat.le_of_ble_eq_true rfl) (Nat.le_of_ble_eq_true rfl) hd hz
theorem kt_79_230 {E : js_E} {d : Nat} {σ σ2 : js_S} {x1 b : Int} (hb : b = 0 ∨ b = 25) {w : Int} (hd : 1 ≤ d) (hz : js_J E (d - 1) 84 0 [(2, 23 + b), (9, 0), (9, 0), (9, 0)] [] σ = js_t E w σ2) : js_J E d 79 230 [(2, 23 + b), (0, x1)] [(2, 23 + b)] σ = js_t E w σ2 :=
  j_callT (m := 3) (js_caV q_79_230 (js_Mo qy_79 qm_5_200)) (js_agV (av := []) (st := []) rfl rfl (js_o23b hb) rfl) rfl rfl (by rw [ql_84]; exact Nat.le_of_ble_eq_true rfl) (Nat.le_of_ble_eq_true rfl) hd rfl hz
theorem b_79_233 {E : js_E} {d : Nat} {σ : js_S} {x1 b : Int} : js_J E d 79 233 [(2, 23 + b), (0, x1)] [] σ = js_J E d 79 251 [(2, 23 + b), (0, x1)] [] σ :=
  (j_goto (t := 251) q_79_233 rfl).trans <| rfl
theorem b_79_236 {E : js_E} {d : Nat} {σ : js_S} {x1 b : Int} (hb : b = 0 ∨ b = 25) : js_J E d 79 236 [(2, 23 + b), (0, x1)] [] σ = js_J E d 79 248 [(2, 23 + b), (0, x1)] [(0, σ 1 2), (0, 1), (2, 1)] σ :=
  (j_aload_n q_79_236 rfl).trans <| (j_get (ji := 4) (v := (2, 1)) q_79_237 (js_Fo qy_79 qf_5_33) (js_o23b hb) rfl rfl rfl rfl).trans <| (j_iconst q_79_240).trans <| (j_aload_n q_79_241 rfl).trans <| (j_get (ji := 4) (v := (2, 1)) q_79_242 (js_Fo qy_79 qf_5_33) (js_o23b hb) rfl rfl rfl rfl).trans <| (j_get (ji := 2) (v := (0, σ 1 2)) q_79_245 (js_Fo qy_79 qf_5_56) js_o1 rfl rfl rfl rfl).trans <| rfl
theorem k_79_248 {E : js_E} {d : Nat} {σ σ2 : js_S} {x1 z1 z2 b : Int} (hd : 1 ≤ d) (hz : js_J E (d - 1) 36 0 [(2, 1), (0, z1), (0, z2)] [] σ = js_r0 E σ2) : js_J E d 79 248 [(2, 23 + b), (0, x1)] [(0, z2), (0, z1), (2, 1)] σ = js_J E d 79 251 [(2, 23 + b), (0, x1)] [] σ2 :=
  j_call0 (m := 0) (js_caV q_79_248 (js_Mo qy_79 qm_5_127)) (js_agV (av := [(0, z1), (0, z2)]) (st := []) rfl rfl js_o1 rfl) rfl rfl (by rw [ql_36]; exact Nat.le_of_ble_eq_true rfl) (Nat.le_of_ble_eq_true rfl) hd hz
theorem kt_79_248 {E : js_E} {d : Nat} {σ σ2 : js_S} {x1 z1 z2 b : Int} {w : Int} (hd : 1 ≤ d) (hz : js_J E (d - 1) 36 0 [(2, 1), (0, z1), (0, z2)] [] σ = js_t E w σ2) : js_J E d 79 248 [(2, 23 + b), (0, x1)] [(0, z2), (0, z1), (2, 1)] σ = js_t E w σ2 :=
  j_callT (m := 0) (js_caV q_79_248 (js_Mo qy_79 qm_5_127)) (js_agV (av := [(0, z1), (0, z2)]) (st := []) rfl rfl js_o1 rfl) rfl rfl (by rw [ql_36]; exact Nat.le_of_ble_eq_true rfl) (Nat.le_of_ble_eq_true rfl) hd rfl hz
theorem b_79_251 {E : js_E} {d : Nat} {σ : js_S} {x1 b : Int} : js_J E d 79 251 [(2, 23 + b), (0, x1)] [] σ = js_r0 E σ :=
  j_return q_79_251 qr_79
-- 80: VitalTwin$Expressions.extreme (Z)V
theorem b_80_0 {E : js_E} {d : Nat} {σ : js_S} {x1 b : Int} (hb : b = 0 ∨ b = 25) : js_J E d 80 0 [(2, 23 + b), (0, x1), (9, 0), (9, 0), (9, 0), (9, 0)] [] σ = js_J E d 80 12 [(2, 23 + b), (0, x1), (0, σ 1 2), (9, 0), (9, 0), (9, 0)] [(2, 1)] σ :=
  (j_aload_n q_80_0 rfl).trans <| (j_get (ji := 4) (v := (2, 1)) q_80_1 (js_Fo qy_80 qf_5_33) (js_o23b hb) rfl rfl rfl rfl).trans <| (j_get (ji := 2) (v := (0, σ 1 2)) q_80_4 (js_Fo qy_80 qf_5_56) js_o1 rfl rfl rfl rfl).trans <| (j_istore_n (l2 := [(2, 23 + b), (0, x1), (0, σ 1 2), (9, 0), (9, 0), (9, 0)]) q_80_7 rfl (Nat.le_of_ble_eq_true rfl)).trans <| (j_aload_n q_80_8 rfl).trans <| (j_get (ji := 4) (v := (2, 1)) q_80_9 (js_Fo qy_80 qf_5_33) (js_o23b hb) rfl rfl rfl rfl).trans <| rfl
theorem k_80_12 {E : js_E} {d : Nat} {σ σ2 : js_S} {x1 x2 b : Int} (hd : 1 ≤ d) (hz : js_J E (d - 1) 33 0 [(2, 1), (9, 0)] [] σ = js_r0 E σ2) : js_J E d 80 12 [(2, 23 + b), (0, x1), (0, x2), (9, 0), (9, 0), (9, 0)] [(2, 1)] σ = js_J E d 80 15 [(2, 23 + b), (0, x1), (0, x2), (9, 0), (9, 0), (9, 0)] [] σ2 :=
  j_call0 (m := 1) (js_caV q_80_12 (js_Mo qy_80 qm_5_140)) (js_agV (av := []) (st := []) rfl rfl js_o1 rfl) rfl rfl (by rw [ql_33]; exact Nat.le_of_ble_eq_true rfl) (Nat.le_of_ble_eq_true rfl) hd hz
theorem kt_80_12 {E : js_E} {d : Nat} {σ σ2 : js_S} {x1 x2 b : Int} {w : Int} (hd : 1 ≤ d) (hz : js_J E (d - 1) 33 0 [(2, 1), (9, 0)] [] σ = js_t E w σ2) : js_J E d 80 12 [(2, 23 + b), (0, x1), (0, x2), (9, 0), (9, 0), (9, 0)] [(2, 1)] σ = js_t E w σ2 :=
  j_callT (m := 1) (js_caV q_80_12 (js_Mo qy_80 qm_5_140)) (js_agV (av := []) (st := []) rfl rfl js_o1 rfl) rfl rfl (by rw [ql_33]; exact Nat.le_of_ble_eq_true rfl) (Nat.le_of_ble_eq_true rfl) hd rfl hz
theorem b_80_15 {E : js_E} {d : Nat} {σ : js_S} {x1 x2 b : Int} (hb : b = 0 ∨ b = 25) : js_J E d 80 15 [(2, 23 + b), (0, x1), (0, x2), (9, 0), (9, 0), (9, 0)] [] σ = js_J E d 80 21 [(2, 23 + b), (0, x1), (0, x2), (9, 0), (9, 0), (9, 0)] [(0, 40), (2, 1)] σ :=
  (j_aload_n q_80_15 rfl).trans <| (j_get (ji := 4) (v := (2, 1)) q_80_16 (js_Fo qy_80 qf_5_33) (js_o23b hb) rfl rfl rfl rfl).trans <| (j_bi q_80_19 rfl).trans <| rfl
theorem k_80_21 {E : js_E} {d : Nat} {σ σ2 : js_S} {x1 x2 z1 b : Int} (hd : 1 ≤ d) (hz : js_J E (d - 1) 47 0 [(2, 1), (0, z1)] [] σ = js_r0 E σ2) : js_J E d 80 21 [(2, 23 + b), (0, x1), (0, x2), (9, 0), (9, 0), (9, 0)] [(0, z1), (2, 1)] σ = js_J E d 80 24 [(2, 23 + b), (0, x1), (0, x2), (9, 0), (9, 0), (9, 0)] [] σ2 :=
  j_call0 (m := 0) (js_caV q_80_21 (js_Mo qy_80 qm_5_124)) (js_agV (av := [(0, z1)]) (st := []) rfl rfl js_o1 rfl) rfl rfl (by rw [ql_47]; exact Nat.le_of_ble_eq_true rfl) (Nat.le_of_ble_eq_true rfl) hd hz
theorem kt_80_21 {E : js_E} {d : Nat} {σ σ2 : js_S} {x1 x2 z1 b : Int} {w : Int} (hd : 1 ≤ d) (hz : js_J E (d - 1) 47 0 [(2, 1), (0, z1)] [] σ = js_t E w σ2) : js_J E d 80 21 [(2, 23 + b), (0, x1), (0, x2), (9, 0), (9, 0), (9, 0)] [(0, z1), (2, 1)] σ = js_t E w σ2 :=
  j_callT (m := 0) (js_caV q_80_21 (js_Mo qy_80 qm_5_124)) (js_agV (av := [(0, z1)]) (st := []) rfl rfl js_o1 rfl) rfl rfl (by rw [ql_47]; exact Nat.le_of_ble_eq_true rfl) (Nat.le_of_ble_eq_true rfl) hd rfl hz
theorem b_80_24 {E : js_E} {d : Nat} {σ : js_S} {x1 x2 b : Int} : js_J E d 80 24 [(2, 23 + b), (0, x1), (0, x2), (9, 0), (9, 0), (9, 0)] [] σ = js_J E d 80 25 [(2, 23 + b), (0, x1), (0, x2), (9, 0), (9, 0), (9, 0)] [(2, 23 + b)] σ :=
  (j_aload_n q_80_24 rfl).trans <| rfl
theorem k_80_25 {E : js_E} {d : Nat} {σ σ2 : js_S} {x1 x2 b : Int} (hb : b = 0 ∨ b = 25) (hd : 1 ≤ d) (hz : js_J E (d - 1) 61 0 [(2, 23 + b), (9, 0), (9, 0), (9, 0), (9, 0), (9, 0), (9, 0)] [] σ = js_r0 E σ2) : js_J E d 80 25 [(2, 23 + b), (0, x1), (0, x2), (9, 0), (9, 0), (9, 0)] [(2, 23 + b)] σ = js_J E d 80 28 [(2, 23 + b), (0, x1), (0, x2), (9, 0), (9, 0), (9, 0)] [] σ2 :=
  j_call0 (m := 6) (js_caV q_80_25 (js_Mo qy_80 qm_5_177)) (js_agV (av := []) (st := []) rfl rfl (js_o23b hb) rfl) rfl rfl (by rw [ql_61]; exact Nat.le_of_ble_eq_true rfl) (Nat.le_of_ble_eq_true rfl) hd hz
theorem kt_80_25 {E : js_E} {d : Nat} {σ σ2 : js_S} {x1 x2 b : Int} (hb : b = 0 ∨ b = 25) {w : Int} (hd : 1 ≤ d) (hz : js_J E (d - 1) 61 0 [(2, 23 + b), (9, 0), (9, 0), (9, 0), (9, 0), (9, 0), (9, 0)] [] σ = js_t E w σ2) : js_J E d 80 25 [(2, 23 + b), (0, x1), (0, x2), (9, 0), (9, 0), (9, 0)] [(2, 23 + b)] σ = js_t E w σ2 :=
  j_callT (m := 6) (js_caV q_80_25 (js_Mo qy_80 qm_5_177)) (js_agV (av := []) (st := []) rfl rfl (js_o23b hb) rfl) rfl rfl (by rw [ql_61]; exact Nat.le_of_ble_eq_true rfl) (Nat.le_of_ble_eq_true rfl) hd rfl hz
theorem b_80_28 {E : js_E} {d : Nat} {σ : js_S} {x1 x2 b : Int} (hb : b = 0 ∨ b = 25) : js_J E d 80 28 [(2, 23 + b), (0, x1), (0, x2), (9, 0), (9, 0), (9, 0)] [] σ = js_J E d 80 57 [(2, 23 + b), (0, x1), (0, x2), (0, σ (23 + b) 0), (0, σ (23 + b) 1), (0, σ (23 + b) 2)] [(0, σ (23 + b) 2), (0, σ (23 + b) 1), (2, 8 + b)] σ :=
  (j_aload_n q_80_28 rfl).trans <| (j_get (ji := 0) (v := (0, σ (23 + b) 0)) q_80_29 (js_Fo qy_80 qf_5_130) (js_o23b hb) rfl rfl rfl rfl).trans <| (j_istore_n (l2 := [(2, 23 + b), (0, x1), (0, x2), (0, σ (23 + b) 0), (9, 0), (9, 0)]) q_80_32 rfl (Nat.le_of_ble_eq_true rfl)).trans <| (j_aload_n q_80_33 rfl).trans <| (j_get (ji := 1) (v := (0, σ (23 + b) 1)) q_80_34 (js_Fo qy_80 qf_5_94) (js_o23b hb) rfl rfl rfl rfl).trans <| (j_istore (l2 := [(2, 23 + b), (0, x1), (0, x2), (0, σ (23 + b) 0), (0, σ (23 + b) 1), (9, 0)]) q_80_37 rfl (Nat.le_of_ble_eq_true rfl)).trans <| (j_aload_n q_80_39 rfl).trans <| (j_get (ji := 2) (v := (0, σ (23 + b) 2)) q_80_40 (js_Fo qy_80 qf_5_97) (js_o23b hb) rfl rfl rfl rfl).trans <| (j_istore (l2 := [(2, 23 + b), (0, x1), (0, x2), (0, σ (23 + b) 0), (0, σ (23 + b) 1), (0, σ (23 + b) 2)]) q_80_43 rfl (Nat.le_of_ble_eq_true rfl)).trans <| (j_aload_n q_80_45 rfl).trans <| (j_get (ji := 6) (v := (2, 8 + b)) q_80_46 (js_Fo qy_80 qf_5_47) (js_o23b hb) rfl rfl rfl rfl).trans <| (j_aload_n q_80_49 rfl).trans <| (j_get (ji := 1) (v := (0, σ (23 + b) 1)) q_80_50 (js_Fo qy_80 qf_5_94) (js_o23b hb) rfl rfl rfl rfl).trans <| (j_aload_n q_80_53 rfl).trans <| (j_get (ji := 2) (v := (0, σ (23 + b) 2)) q_80_54 (js_Fo qy_80 qf_5_97) (js_o23b hb) rfl rfl rfl rfl).trans <| rfl
theorem k_80_57 {E : js_E} {d : Nat} {σ σ2 : js_S} {x1 x2 x3 x4 x5 z1 z2 b : Int} (hb : b = 0 ∨ b = 25) {v : Int} (hd : 1 ≤ d) (hz : js_J E (d - 1) 69 0 [(2, 8 + b), (0, z1), (0, z2), (9, 0)] [] σ = js_r E (0, v) σ2) : js_J E d 80 57 [(2, 23 + b), (0, x1), (0, x2), (0, x3), (0, x4), (0, x5)] [(0, z2), (0, z1), (2, 8 + b)] σ = js_J E d 80 60 [(2, 23 + b), (0, x1), (0, x2), (0, x3), (0, x4), (0, x5)] [(0, v)] σ2 :=
  j_call (m := 1) (js_caV q_80_57 (js_Mo qy_80 qm_5_137)) (js_agV (av := [(0, z1), (0, z2)]) (st := []) rfl rfl (js_o8b hb) rfl) rfl rfl (by rw [ql_69]; exact Nat.le_of_ble_eq_true rfl) (Nat.le_of_ble_eq_true rfl) hd hz
theorem kt_80_57 {E : js_E} {d : Nat} {σ σ2 : js_S} {x1 x2 x3 x4 x5 z1 z2 b : Int} (hb : b = 0 ∨ b = 25) {w : Int} (hd : 1 ≤ d) (hz : js_J E (d - 1) 69 0 [(2, 8 + b), (0, z1), (0, z2), (9, 0)] [] σ = js_t E w σ2) : js_J E d 80 57 [(2, 23 + b), (0, x1), (0, x2), (0, x3), (0, x4), (0, x5)] [(0, z2), (0, z1), (2, 8 + b)] σ = js_t E w σ2 :=
  j_callT (m := 1) (js_caV q_80_57 (js_Mo qy_80 qm_5_137)) (js_agV (av := [(0, z1), (0, z2)]) (st := []) rfl rfl (js_o8b hb) rfl) rfl rfl (by rw [ql_69]; exact Nat.le_of_ble_eq_true rfl) (Nat.le_of_ble_eq_true rfl) hd rfl hz
theorem b_80_60 {E : js_E} {d : Nat} {σ : js_S} {x1 x2 x3 x4 x5 z0 b : Int} (hb : b = 0 ∨ b = 25) : js_J E d 80 60 [(2, 23 + b), (0, x1), (0, x2), (0, x3), (0, x4), (0, x5)] [(0, z0)] σ = js_J E d 80 67 [(2, 23 + b), (0, x1), (0, x2), (0, x3), (0, x4), (0, x5)] [(0, 44), (2, 1)] σ :=
  (j_pop0 q_80_60).trans <| (j_aload_n q_80_61 rfl).trans <| (j_get (ji := 4) (v := (2, 1)) q_80_62 (js_Fo qy_80 qf_5_33) (js_o23b hb) rfl rfl rfl rfl).trans <| (j_bi q_80_65 rfl).trans <| rfl
theorem k_80_67 {E : js_E} {d : Nat} {σ σ2 : js_S} {x1 x2 x3 x4 x5 z1 b : Int} (hd : 1 ≤ d) (hz : js_J E (d - 1) 40 0 [(2, 1), (0, z1)] [] σ = js_r0 E σ2) : js_J E d 80 67 [(2, 23 + b), (0, x1), (0, x2), (0, x3), (0, x4), (0, x5)] [(0, z1), (2, 1)] σ = js_J E d 80 70 [(2, 23 + b), (0, x1), (0, x2), (0, x3), (0, x4), (0, x5)] [] σ2 :=
  j_call0 (m := 0) (js_caV q_80_67 (js_Mo qy_80 qm_5_180)) (js_agV (av := [(0, z1)]) (st := []) rfl rfl js_o1 rfl) rfl rfl (by rw [ql_40]; exact Nat.le_of_ble_eq_true rfl) (Nat.le_of_ble_eq_true rfl) hd hz
theorem kt_80_67 {E : js_E} {d : Nat} {σ σ2 : js_S} {x1 x2 x3 x4 x5 z1 b : Int} {w : Int} (hd : 1 ≤ d) (hz : js_J E (d - 1) 40 0 [(2, 1), (0, z1)] [] σ = js_t E w σ2) : js_J E d 80 67 [(2, 23 + b), (0, x1), (0, x2), (0, x3), (0, x4), (0, x5)] [(0, z1), (2, 1)] σ = js_t E w σ2 :=
  j_callT (m := 0) (js_caV q_80_67 (js_Mo qy_80 qm_5_180)) (js_agV (av := [(0, z1)]) (st := []) rfl rfl js_o1 rfl) rfl rfl (by rw [ql_40]; exact Nat.le_of_ble_eq_true rfl) (Nat.le_of_ble_eq_true rfl) hd rfl hz
theorem b_80_70 {E : js_E} {d : Nat} {σ : js_S} {x1 x2 x3 x4 x5 b : Int} : js_J E d 80 70 [(2, 23 + b), (0, x1), (0, x2), (0, x3), (0, x4), (0, x5)] [] σ = js_J E d 80 71 [(2, 23 + b), (0, x1), (0, x2), (0, x3), (0, x4), (0, x5)] [(2, 23 + b)] σ :=
  (j_aload_n q_80_70 rfl).trans <| rfl
theorem k_80_71 {E : js_E} {d : Nat} {σ σ2 : js_S} {x1 x2 x3 x4 x5 b : Int} (hb : b = 0 ∨ b = 25) (hd : 1 ≤ d) (hz : js_J E (d - 1) 61 0 [(2, 23 + b), (9, 0), (9, 0), (9, 0), (9, 0), (9, 0), (9, 0)] [] σ = js_r0 E σ2) : js_J E d 80 71 [(2, 23 + b), (0, x1), (0, x2), (0, x3), (0, x4), (0, x5)] [(2, 23 + b)] σ = js_J E d 80 74 [(2, 23 + b), (0, x1), (0, x2), (0, x3), (0, x4), (0, x5)] [] σ2 :=
  j_call0 (m := 6) (js_caV q_80_71 (js_Mo qy_80 qm_5_177)) (js_agV (av := []) (st := []) rfl rfl (js_o23b hb) rfl) rfl rfl (by rw [ql_61]; exact Nat.le_of_ble_eq_true rfl) (Nat.le_of_ble_eq_true rfl) hd hz
theorem kt_80_71 {E : js_E} {d : Nat} {σ σ2 : js_S} {x1 x2 x3 x4 x5 b : Int} (hb : b = 0 ∨ b = 25) {w : Int} (hd : 1 ≤ d) (hz : js_J E (d - 1) 61 0 [(2, 23 + b), (9, 0), (9, 0), (9, 0), (9, 0), (9, 0), (9, 0)] [] σ = js_t E w σ2) : js_J E d 80 71 [(2, 23 + b), (0, x1), (0, x2), (0, x3), (0, x4), (0, x5)] [(2, 23 + b)] σ = js_t E w σ2 :=
  j_callT (m := 6) (js_caV q_80_71 (js_Mo qy_80 qm_5_177)) (js_agV (av := []) (st := []) rfl rfl (js_o23b hb) rfl) rfl rfl (by rw [ql_61]; exact Nat.le_of_ble_eq_true rfl) (Nat.le_of_ble_eq_true rfl) hd rfl hz
theorem b_80_74 {E : js_E} {d : Nat} {σ : js_S} {x1 x2 x3 x4 x5 b : Int} : js_J E d 80 74 [(2, 23 + b), (0, x1), (0, x2), (0, x3), (0, x4), (0, x5)] [] σ = js_J E d 80 77 [(2, 23 + b), (0, x1), (0, x2), (0, x3), (0, x4), (0, x5)] [(0, x2), (0, x3), (2, 23 + b)] σ :=
  (j_aload_n q_80_74 rfl).trans <| (j_iload_n q_80_75 rfl).trans <| (j_iload_n q_80_76 rfl).trans <| rfl
theorem k_80_77 {E : js_E} {d : Nat} {σ σ2 : js_S} {x1 x2 x3 x4 x5 z1 z2 b : Int} (hb : b = 0 ∨ b = 25) (hd : 1 ≤ d) (hz : js_J E (d - 1) 81 0 [(2, 23 + b), (0, z1), (0, z2)] [] σ = js_r0 E σ2) : js_J E d 80 77 [(2, 23 + b), (0, x1), (0, x2), (0, x3), (0, x4), (0, x5)] [(0, z2), (0, z1), (2, 23 + b)] σ = js_J E d 80 80 [(2, 23 + b), (0, x1), (0, x2), (0, x3), (0, x4), (0, x5)] [] σ2 :=
  j_call0 (m := 0) (js_caV q_80_77 (js_Mo qy_80 qm_5_203)) (js_agV (av := [(0, z1), (0, z2)]) (st := []) rfl rfl (js_o23b hb) rfl) rfl rfl (by rw [ql_81]; exact Nat.le_of_ble_eq_true rfl) (Nat.le_of_ble_eq_true rfl) hd hz
theorem kt_80_77 {E : js_E} {d : Nat} {σ σ2 : js_S} {x1 x2 x3 x4 x5 z1 z2 b : Int} (hb : b = 0 ∨ b = 25) {w : Int} (hd : 1 ≤ d) (hz : js_J E (d - 1) 81 0 [(2, 23 + b), (0, z1), (0, z2)] [] σ = js_t E w σ2) : js_J E d 80 77 [(2, 23 + b), (0, x1), (0, x2), (0, x3), (0, x4), (0, x5)] [(0, z2), (0, z1), (2, 23 + b)] σ = js_t E w σ2 :=
  j_callT (m := 0) (js_caV q_80_77 (js_Mo qy_80 qm_5_203)) (js_agV (av := [(0, z1), (0, z2)]) (st := []) rfl rfl (js_o23b hb) rfl) rfl rfl (by rw [ql_81]; exact Nat.le_of_ble_eq_true rfl) (Nat.le_of_ble_eq_true rfl) hd rfl hz
theorem b_80_80 {E : js_E} {d : Nat} {σ : js_S} {x1 x2 x3 x4 x5 b : Int} (hd : 4 ≤ d) (hb : b = 0 ∨ b = 25) : js_J E d 80 80 [(2, 23 + b), (0, x1), (0, x2), (0, x3), (0, x4), (0, x5)] [] σ = (if js_w x1 = 0 then js_J E d 80 130 [(2, 23 + b), (0, x1), (0, x2), (0, x3), (0, x4), (0, x5)] [(0, if js_w x5 < js_w (σ (23 + b) 2) then (σ (23 + b) 2) else x5), (0, if js_w x4 < js_w (σ (23 + b) 1) then (σ (23 + b) 1) else x4), (0, 0), (2, 23 + b)] σ else js_J E d 80 104 [(2, 23 + b), (0, x1), (0, x2), (0, x3), (0, x4), (0, x5)] [(0, if js_w (σ (23 + b) 2) < js_w x5 then (σ (23 + b) 2) else x5), (0, if js_w (σ (23 + b) 1) < js_w x4 then (σ (23 + b) 1) else x4), (0, 0), (2, 23 + b)] σ) :=
  (j_iload_n q_80_80 rfl).trans <| (j_ifeq (t := 110) q_80_81 rfl).trans (js_ite ((j_aload_n q_80_110 rfl).trans <| (j_iconst q_80_111).trans <| (j_iload q_80_112 rfl).trans <| (j_aload_n q_80_114 rfl).trans <| (j_get (ji := 1) (v := (0, σ (23 + b) 1)) q_80_115 (js_Fo qy_80 qf_5_94) (js_o23b hb) rfl rfl rfl rfl).trans <| (j_max (js_clS q_80_118 (js_Mo qy_80 qm_5_185)) (Nat.le_of_ble_eq_true rfl) hd).trans <| (j_iload q_80_121 rfl).trans <| (j_aload_n q_80_123 rfl).trans <| (j_get (ji := 2) (v := (0, σ (23 + b) 2)) q_80_124 (js_Fo qy_80 qf_5_97) (js_o23b hb) rfl rfl rfl rfl).trans <| (j_max (js_clS q_80_127 (js_Mo qy_80 qm_5_185)) (Nat.le_of_ble_eq_true rfl) hd).trans <| rfl) ((j_aload_n q_80_84 rfl).trans <| (j_iconst q_80_85).trans <| (j_iload q_80_86 rfl).trans <| (j_aload_n q_80_88 rfl).trans <| (j_get (ji := 1) (v := (0, σ (23 + b) 1)) q_80_89 (js_Fo qy_80 qf_5_94) (js_o23b hb) rfl rfl rfl rfl).trans <| (j_min (js_clS q_80_92 (js_Mo qy_80 qm_5_183)) (Nat.le_of_ble_eq_true rfl) hd).trans <| (j_iload q_80_95 rfl).trans <| (j_aload_n q_80_97 rfl).trans <| (j_get (ji := 2) (v := (0, σ (23 + b) 2)) q_80_98 (js_Fo qy_80 qf_5_97) (js_o23b hb) rfl rfl rfl rfl).trans <| (j_min (js_clS q_80_101 (js_Mo qy_80 qm_5_183)) (Nat.le_of_ble_eq_true rfl) hd).trans <| rfl))
theorem k_80_104 {E : js_E} {d : Nat} {σ σ2 : js_S} {x1 x2 x3 x4 x5 z1 z2 z3 b : Int} (hb : b = 0 ∨ b = 25) (hd : 1 ≤ d) (hz : js_J E (d - 1) 75 0 [(2, 23 + b), (0, z1), (0, z2), (0, z3)] [] σ = js_r0 E σ2) : js_J E d 80 104 [(2, 23 + b), (0, x1), (0, x2), (0, x3), (0, x4), (0, x5)] [(0, z3), (0, z2), (0, z1), (2, 23 + b)] σ = js_J E d 80 107 [(2, 23 + b), (0, x1), (0, x2), (0, x3), (0, x4), (0, x5)] [] σ2 :=
  j_call0 (m := 0) (js_caV q_80_104 (js_Mo qy_80 qm_5_147)) (js_agV (av := [(0, z1), (0, z2), (0, z3)]) (st := []) rfl rfl (js_o23b hb) rfl) rfl rfl (by rw [ql_75]; exact Nat.le_of_ble_eq_true rfl) (Nat.le_of_ble_eq_true rfl) hd hz
theorem kt_80_104 {E : js_E} {d : Nat} {σ σ2 : js_S} {x1 x2 x3 x4 x5 z1 z2 z3 b : Int} (hb : b = 0 ∨ b = 25) {w : Int} (hd : 1 ≤ d) (hz : js_J E (d - 1) 75 0 [(2, 23 + b), (0, z1), (0, z2), (0, z3)] [] σ = js_t E w σ2) : js_J E d 80 104 [(2, 23 + b), (0, x1), (0, x2), (0, x3), (0, x4), (0, x5)] [(0, z3), (0, z2), (0, z1), (2, 23 + b)] σ = js_t E w σ2 :=
  j_callT (m := 0) (js_caV q_80_104 (js_Mo qy_80 qm_5_147)) (js_agV (av := [(0, z1), (0, z2), (0, z3)]) (st := []) rfl rfl (js_o23b hb) rfl) rfl rfl (by rw [ql_75]; exact Nat.le_of_ble_eq_true rfl) (Nat.le_of_ble_eq_true rfl) hd rfl hz
theorem b_80_107 {E : js_E} {d : Nat} {σ : js_S} {x1 x2 x3 x4 x5 b : Int} : js_J E d 80 107 [(2, 23 + b), (0, x1), (0, x2), (0, x3), (0, x4), (0, x5)] [] σ = js_J E d 80 133 [(2, 23 + b), (0, x1), (0, x2), (0, x3), (0, x4), (0, x5)] [] σ :=
  (j_goto (t := 133) q_80_107 rfl).trans <| rfl
theorem k_80_130 {E : js_E} {d : Nat} {σ σ2 : js_S} {x1 x2 x3 x4 x5 z1 z2 z3 b : Int} (hb : b = 0 ∨ b = 25) (hd : 1 ≤ d) (hz : js_J E (d - 1) 75 0 [(2, 23 + b), (0, z1), (0, z2), (0, z3)] [] σ = js_r0 E σ2) : js_J E d 80 130 [(2, 23 + b), (0, x1), (0, x2), (0, x3), (0, x4), (0, x5)] [(0, z3), (0, z2), (0, z1), (2, 23 + b)] σ = js_J E d 80 133 [(2, 23 + b), (0, x1), (0, x2), (0, x3), (0, x4), (0, x5)] [] σ2 :=
  j_call0 (m := 0) (js_caV q_80_130 (js_Mo qy_80 qm_5_147)) (js_agV (av := [(0, z1), (0, z2), (0, z3)]) (st := []) rfl rfl (js_o23b hb) rfl) rfl rfl (by rw [ql_75]; exact Nat.le_of_ble_eq_true rfl) (Nat.le_of_ble_eq_true rfl) hd hz
theorem kt_80_130 {E : js_E} {d : Nat} {σ σ2 : js_S} {x1 x2 x3 x4 x5 z1 z2 z3 b : Int} (hb : b = 0 ∨ b = 25) {w : Int} (hd : 1 ≤ d) (hz : js_J E (d - 1) 75 0 [(2, 23 + b), (0, z1), (0, z2), (0, z3)] [] σ = js_t E w σ2) : js_J E d 80 130 [(2, 23 + b), (0, x1), (0, x2), (0, x3), (0, x4), (0, x5)] [(0, z3), (0, z2), (0, z1), (2, 23 + b)] σ = js_t E w σ2 :=
  j_callT (m := 0) (js_caV q_80_130 (js_Mo qy_80 qm_5_147)) (js_agV (av := [(0, z1), (0, z2), (0, z3)]) (st := []) rfl rfl (js_o23b hb) rfl) rfl rfl (by rw [ql_75]; exact Nat.le_of_ble_eq_true rfl) (Nat.le_of_ble_eq_true rfl) hd rfl hz
theorem b_80_133 {E : js_E} {d : Nat} {σ : js_S} {x1 x2 x3 x4 x5 b : Int} (hb : b = 0 ∨ b = 25) : js_J E d 80 133 [(2, 23 + b), (0, x1), (0, x2), (0, x3), (0, x4), (0, x5)] [] σ = (if js_w x1 = 0 then js_J E d 80 148 [(2, 23 + b), (0, x1), (0, x2), (0, x3), (0, x4), (0, x5)] [(0, 12), (2, 8 + b)] σ else js_J E d 80 148 [(2, 23 + b), (0, x1), (0, x2), (0, x3), (0, x4), (0, x5)] [(0, 11), (2, 8 + b)] σ) :=
  (j_aload_n q_80_133 rfl).trans <| (j_get (ji := 6) (v := (2, 8 + b)) q_80_134 (js_Fo qy_80 qf_5_47) (js_o23b hb) rfl rfl rfl rfl).trans <| (j_iload_n q_80_137 rfl).trans <| (j_ifeq (t := 146) q_80_138 rfl).trans (js_ite ((j_bi q_80_146 rfl).trans <| rfl) ((j_bi q_80_141 rfl).trans <| (j_goto (t := 148) q_80_143 rfl).trans <| rfl))
theorem b_80_148 {E : js_E} {d : Nat} {σ : js_S} {x1 x2 x3 x4 x5 z1 b : Int} (hb : b = 0 ∨ b = 25) : js_J E d 80 148 [(2, 23 + b), (0, x1), (0, x2), (0, x3), (0, x4), (0, x5)] [(0, z1), (2, 8 + b)] σ = js_J E d 80 156 [(2, 23 + b), (0, x1), (0, x2), (0, x3), (0, x4), (0, x5)] [(0, σ (23 + b) 2), (0, σ (23 + b) 1), (0, z1), (2, 8 + b)] σ :=
  (j_aload_n q_80_148 rfl).trans <| (j_get (ji := 1) (v := (0, σ (23 + b) 1)) q_80_149 (js_Fo qy_80 qf_5_94) (js_o23b hb) rfl rfl rfl rfl).trans <| (j_aload_n q_80_152 rfl).trans <| (j_get (ji := 2) (v := (0, σ (23 + b) 2)) q_80_153 (js_Fo qy_80 qf_5_97) (js_o23b hb) rfl rfl rfl rfl).trans <| rfl
theorem k_80_156 {E : js_E} {d : Nat} {σ σ2 : js_S} {x1 x2 x3 x4 x5 z1 z2 z3 b : Int} (hb : b = 0 ∨ b = 25) (hd : 1 ≤ d) (hz : js_J E (d - 1) 82 0 [(2, 8 + b), (0, z1), (0, z2), (0, z3)] [] σ = js_r0 E σ2) : js_J E d 80 156 [(2, 23 + b), (0, x1), (0, x2), (0, x3), (0, x4), (0, x5)] [(0, z3), (0, z2), (0, z1), (2, 8 + b)] σ = js_J E d 80 159 [(2, 23 + b), (0, x1), (0, x2), (0, x3), (0, x4), (0, x5)] [] σ2 :=
  j_call0 (m := 0) (js_caV q_80_156 (js_Mo qy_80 qm_5_104)) (js_agV (av := [(0, z1), (0, z2), (0, z3)]) (st := []) rfl rfl (js_o8b hb) rfl) rfl rfl (by rw [ql_82]; exact Nat.le_of_ble_eq_true rfl) (Nat.le_of_ble_eq_true rfl) hd hz
theorem kt_80_156 {E : js_E} {d : Nat} {σ σ2 : js_S} {x1 x2 x3 x4 x5 z1 z2 z3 b : Int} (hb : b = 0 ∨ b = 25) {w : Int} (hd : 1 ≤ d) (hz : js_J E (d - 1) 82 0 [(2, 8 + b), (0, z1), (0, z2), (0, z3)] [] σ = js_t E w σ2) : js_J E d 80 156 [(2, 23 + b), (0, x1), (0, x2), (0, x3), (0, x4), (0, x5)] [(0, z3), (0, z2), (0, z1), (2, 8 + b)] σ = js_t E w σ2 :=
  j_callT (m := 0) (js_caV q_80_156 (js_Mo qy_80 qm_5_104)) (js_agV (av := [(0, z1), (0, z2), (0, z3)]) (st := []) rfl rfl (js_o8b hb) rfl) rfl rfl (by rw [ql_82]; exact Nat.le_of_ble_eq_true rfl) (Nat.le_of_ble_eq_true rfl) hd rfl hz
theorem b_80_159 {E : js_E} {d : Nat} {σ : js_S} {x1 x2 x3 x4 x5 b : Int} (hb : b = 0 ∨ b = 25) : js_J E d 80 159 [(2, 23 + b), (0, x1), (0, x2), (0, x3), (0, x4), (0, x5)] [] σ = js_J E d 80 165 [(2, 23 + b), (0, x1), (0, x2), (0, x3), (0, x4), (0, x5)] [(0, 41), (2, 1)] σ :=
  (j_aload_n q_80_159 rfl).trans <| (j_get (ji := 4) (v := (2, 1)) q_80_160 (js_Fo qy_80 qf_5_33) (js_o23b hb) rfl rfl rfl rfl).trans <| (j_bi q_80_163 rfl).trans <| rfl
theorem k_80_165 {E : js_E} {d : Nat} {σ σ2 : js_S} {x1 x2 x3 x4 x5 z1 b : Int} (hd : 1 ≤ d) (hz : js_J E (d - 1) 48 0 [(2, 1), (0, z1)] [] σ = js_r0 E σ2) : js_J E d 80 165 [(2, 23 + b), (0, x1), (0, x2), (0, x3), (0, x4), (0, x5)] [(0, z1), (2, 1)] σ = js_J E d 80 168 [(2, 23 + b), (0, x1), (0, x2), (0, x3), (0, x4), (0, x5)] [] σ2 :=
  j_call0 (m := 0) (js_caV q_80_165 (js_Mo qy_80 qm_5_191)) (js_agV (av := [(0, z1)]) (st := []) rfl rfl js_o1 rfl) rfl rfl (by rw [ql_48]; exact Nat.le_of_ble_eq_true rfl) (Nat.le_of_ble_eq_true rfl) hd hz
theorem kt_80_165 {E : js_E} {d : Nat} {σ σ2 : js_S} {x1 x2 x3 x4 x5 z1 b : Int} {w : Int} (hd : 1 ≤ d) (hz : js_J E (d - 1) 48 0 [(2, 1), (0, z1)] [] σ = js_t E w σ2) : js_J E d 80 165 [(2, 23 + b), (0, x1), (0, x2), (0, x3), (0, x4), (0, x5)] [(0, z1), (2, 1)] σ = js_t E w σ2 :=
  j_callT (m := 0) (js_caV q_80_165 (js_Mo qy_80 qm_5_191)) (js_agV (av := [(0, z1)]) (st := []) rfl rfl js_o1 rfl) rfl rfl (by rw [ql_48]; exact Nat.le_of_ble_eq_true rfl) (Nat.le_of_ble_eq_true rfl) hd rfl hz
theorem b_80_168 {E : js_E} {d : Nat} {σ : js_S} {x1 x2 x3 x4 x5 b : Int} : js_J E d 80 168 [(2, 23 + b), (0, x1), (0, x2), (0, x3), (0, x4), (0, x5)] [] σ = js_r0 E σ :=
  j_return q_80_168 qr_80
-- 81: VitalTwin$Expressions.askInts (II)V
theorem b_81_0 {E : js_E} {d : Nat} {σ : js_S} {x1 x2 b : Int} (hb : b = 0 ∨ b = 25) : js_J E d 81 0 [(2, 23 + b), (0, x1), (0, x2)] [] σ = (if js_w x1 = 0 then (if js_w (σ (23 + b) 0) = 0 then js_J E d 81 20 [(2, 23 + b), (0, x1), (0, x2)] [] σ else js_J E d 81 11 [(2, 23 + b), (0, x1), (0, x2)] [] σ) else js_J E d 81 11 [(2, 23 + b), (0, x1), (0, x2)] [] σ) :=
  (j_iload_n q_81_0 rfl).trans <| (j_ifne (t := 11) q_81_1 rfl).trans (js_ite ((j_aload_n q_81_4 rfl).trans <| (j_get (ji := 0) (v := (0, σ (23 + b) 0)) q_81_5 (js_Fo qy_81 qf_5_130) (js_o23b hb) rfl rfl rfl rfl).trans <| (j_ifeq (t := 20) q_81_8 rfl).trans (js_ite (rfl) (rfl))) (rfl))
theorem b_81_11 {E : js_E} {d : Nat} {σ : js_S} {x1 x2 b : Int} (hb : b = 0 ∨ b = 25) : js_J E d 81 11 [(2, 23 + b), (0, x1), (0, x2)] [] σ = js_J E d 81 17 [(2, 23 + b), (0, x1), (0, x2)] [(0, x2), (0, 5), (2, 1)] σ :=
  (j_aload_n q_81_11 rfl).trans <| (j_get (ji := 4) (v := (2, 1)) q_81_12 (js_Fo qy_81 qf_5_33) (js_o23b hb) rfl rfl rfl rfl).trans <| (j_iconst q_81_15).trans <| (j_iload_n q_81_16 rfl).trans <| rfl
theorem k_81_17 {E : js_E} {d : Nat} {σ σ2 : js_S} {x1 x2 z1 z2 b : Int} (hd : 1 ≤ d) (hz : js_J E (d - 1) 36 0 [(2, 1), (0, z1), (0, z2)] [] σ = js_r0 E σ2) : js_J E d 81 17 [(2, 23 + b), (0, x1), (0, x2)] [(0, z2), (0, z1), (2, 1)] σ = js_J E d 81 20 [(2, 23 + b), (0, x1), (0, x2)] [] σ2 :=
  j_call0 (m := 0) (js_caV q_81_17 (js_Mo qy_81 qm_5_127)) (js_agV (av := [(0, z1), (0, z2)]) (st := []) rfl rfl js_o1 rfl) rfl rfl (by rw [ql_36]; exact Nat.le_of_ble_eq_true rfl) (Nat.le_of_ble_eq_true rfl) hd hz
theorem kt_81_17 {E : js_E} {d : Nat} {σ σ2 : js_S} {x1 x2 z1 z2 b : Int} {w : Int} (hd : 1 ≤ d) (hz : js_J E (d - 1) 36 0 [(2, 1), (0, z1), (0, z2)] [] σ = js_t E w σ2) : js_J E d 81 17 [(2, 23 + b), (0, x1), (0, x2)] [(0, z2), (0, z1), (2, 1)] σ = js_t E w σ2 :=
  j_callT (m := 0) (js_caV q_81_17 (js_Mo qy_81 qm_5_127)) (js_agV (av := [(0, z1), (0, z2)]) (st := []) rfl rfl js_o1 rfl) rfl rfl (by rw [ql_36]; exact Nat.le_of_ble_eq_true rfl) (Nat.le_of_ble_eq_true rfl) hd rfl hz
theorem b_81_20 {E : js_E} {d : Nat} {σ : js_S} {x1 x2 b : Int} : js_J E d 81 20 [(2, 23 + b), (0, x1), (0, x2)] [] σ = js_r0 E σ :=
  j_return q_81_20 qr_81
-- 82: VitalTwin$Code.combine (III)V
theorem b_82_0 {E : js_E} {d : Nat} {σ : js_S} {x1 x2 x3 b : Int} : js_J E d 82 0 [(2, 8 + b), (0, x1), (0, x2), (0, x3)] [] σ = js_J E d 82 7 [(2, 8 + b), (0, x1), (0, x2), (0, x3)] [(0, 0), (0, 0), (0, 1), (0, 0), (0, 0), (0, 3), (2, 8 + b)] σ :=
  (j_aload_n q_82_0 rfl).trans <| (j_iconst q_82_1).trans <| (j_iconst q_82_2).trans <| (j_iconst q_82_3).trans <| (j_iconst q_82_4).trans <| (j_iconst q_82_5).trans <| (j_iconst q_82_6).trans <| rfl
theorem k_82_7 {E : js_E} {d : Nat} {σ σ2 : js_S} {x1 x2 x3 z1 z2 z3 z4 z5 z6 b : Int} (hb : b = 0 ∨ b = 25) (hd : 1 ≤ d) (hz : js_J E (d - 1) 60 0 [(2, 8 + b), (0, z1), (0, z2), (0, z3), (0, z4), (0, z5), (0, z6), (9, 0)] [] σ = js_r0 E σ2) : js_J E d 82 7 [(2, 8 + b), (0, x1), (0, x2), (0, x3)] [(0, z6), (0, z5), (0, z4), (0, z3), (0, z2), (0, z1), (2, 8 + b)] σ = js_J E d 82 10 [(2, 8 + b), (0, x1), (0, x2), (0, x3)] [] σ2 :=
  j_call0 (m := 1) (js_caV q_82_7 (js_Mo qy_82 qm_1_74)) (js_agV (av := [(0, z1), (0, z2), (0, z3), (0, z4), (0, z5), (0, z6)]) (st := []) rfl rfl (js_o8b hb) rfl) rfl rfl (by rw [ql_60]; exact Nat.le_of_ble_eq_true rfl) (Nat.le_of_ble_eq_true rfl) hd hz
theorem kt_82_7 {E : js_E} {d : Nat} {σ σ2 : js_S} {x1 x2 x3 z1 z2 z3 z4 z5 z6 b : Int} (hb : b = 0 ∨ b = 25) {w : Int} (hd : 1 ≤ d) (hz : js_J E (d - 1) 60 0 [(2, 8 + b), (0, z1), (0, z2), (0, z3), (0, z4), (0, z5), (0, z6), (9, 0)] [] σ = js_t E w σ2) : js_J E d 82 7 [(2, 8 + b), (0, x1), (0, x2), (0, x3)] [(0, z6), (0, z5), (0, z4), (0, z3), (0, z2), (0, z1), (2, 8 + b)] σ = js_t E w σ2 :=
  j_callT (m := 1) (js_caV q_82_7 (js_Mo qy_82 qm_1_74)) (js_agV (av := [(0, z1), (0, z2), (0, z3), (0, z4), (0, z5), (0, z6)]) (st := []) rfl rfl (js_o8b hb) rfl) rfl rfl (by rw [ql_60]; exact Nat.le_of_ble_eq_true rfl) (Nat.le_of_ble_eq_true rfl) hd rfl hz
theorem b_82_10 {E : js_E} {d : Nat} {σ : js_S} {x1 x2 x3 b : Int} (hd : 4 ≤ d) (hb : b = 0 ∨ b = 25) : js_J E d 82 10 [(2, 8 + b), (0, x1), (0, x2), (0, x3)] [] σ = (if 0 ≤ js_w (if js_w 0 < js_w ((if js_w (σ (8 + b) 10) < js_w 1024 then (σ (8 + b) 10) else 1024) - 1) then ((if js_w (σ (8 + b) 10) < js_w 1024 then (σ (8 + b) 10) else 1024) - 1) else 0) ∧ js_w (if js_w 0 < js_w ((if js_w (σ (8 + b) 10) < js_w 1024 then (σ (8 + b) 10) else 1024) - 1) then ((if js_w (σ (8 + b) 10) < js_w 1024 then (σ (8 + b) 10) else 1024) - 1) else 0) < 1024 then js_J E d 82 56 [(2, 8 + b), (0, x1), (0, x2), (0, x3)] [(2, 8 + b), (0, σ (18 + b) (js_w (if js_w 0 < js_w ((if js_w (σ (8 + b) 10) < js_w 1024 then (σ (8 + b) 10) else 1024) - 1) then ((if js_w (σ (8 + b) 10) < js_w 1024 then (σ (8 + b) 10) else 1024) - 1) else 0))), (0, σ (17 + b) (js_w (if js_w 0 < js_w ((if js_w (σ (8 + b) 10) < js_w 1024 then (σ (8 + b) 10) else 1024) - 1) then ((if js_w (σ (8 + b) 10) < js_w 1024 then (σ (8 + b) 10) else 1024) - 1) else 0))), (0, 0), (0, if js_w 0 < js_w ((if js_w (σ (8 + b) 10) < js_w 1024 then (σ (8 + b) 10) else 1024) - 1) then ((if js_w (σ (8 + b) 10) < js_w 1024 then (σ (8 + b) 10) else 1024) - 1) else 0), (0, 1), (2, 8 + b)] (js_up σ (8 + b) 10 (if js_w 0 < js_w ((if js_w (σ (8 + b) 10) < js_w 1024 then (σ (8 + b) 10) else 1024) - 1) then ((if js_w (σ (8 + b) 10) < js_w 1024 then (σ (8 + b) 10) else 1024) - 1) else 0)) else none) :=
  (j_aload_n q_82_10 rfl).trans <| (j_iconst q_82_11).trans <| (j_si q_82_12 rfl).trans <| (j_aload_n q_82_15 rfl).trans <| (j_get (ji := 10) (v := (0, σ (8 + b) 10)) q_82_16 (js_Fo qy_82 qf_1_58) (js_o8b hb) rfl rfl rfl rfl).trans <| (j_min (js_clS q_82_19 (js_Mo qy_82 qm_1_68)) (Nat.le_of_ble_eq_true rfl) hd).trans <| (j_iconst q_82_22).trans <| (j_isub q_82_23).trans <| (j_max (js_clS q_82_24 (js_Mo qy_82 qm_1_97)) (Nat.le_of_ble_eq_true rfl) hd).trans <| (j_putI (ji := 10) q_82_27 (js_Fo qy_82 qf_1_58) rfl (js_o8b hb) rfl rfl rfl).trans <| (j_aload_n q_82_30 rfl).trans <| (j_iconst q_82_31).trans <| (j_aload_n q_82_32 rfl).trans <| (j_get (ji := 10) (v := (0, if js_w 0 < js_w ((if js_w (σ (8 + b) 10) < js_w 1024 then (σ (8 + b) 10) else 1024) - 1) then ((if js_w (σ (8 + b) 10) < js_w 1024 then (σ (8 + b) 10) else 1024) - 1) else 0)) q_82_33 (js_Fo qy_82 qf_1_58) (js_o8b hb) rfl rfl rfl (congrArg (Prod.mk 0) ((js_up_same _ _ _ _)))).trans <| (j_iconst q_82_36).trans <| (j_aload_n q_82_37 rfl).trans <| (j_get (ji := 15) (v := (2, 17 + b)) q_82_38 (js_Fo qy_82 qf_1_36) (js_o8b hb) rfl rfl rfl rfl).trans <| (j_aload_n q_82_41 rfl).trans <| (j_get (ji := 10) (v := (0, if js_w 0 < js_w ((if js_w (σ (8 + b) 10) < js_w 1024 then (σ (8 + b) 10) else 1024) - 1) then ((if js_w (σ (8 + b) 10) < js_w 1024 then (σ (8 + b) 10) else 1024) - 1) else 0)) q_82_42 (js_Fo qy_82 qf_1_58) (js_o8b hb) rfl rfl rfl (congrArg (Prod.mk 0) ((js_up_same _ _ _ _)))).trans <| (j_ialoadv q_82_45 (js_o17b hb) ((js_up_ne _ (by omega)))).trans <| js_itp fun g0 => (j_aload_n q_82_46 rfl).trans <| (j_get (ji := 16) (v := (2, 18 + b)) q_82_47 (js_Fo qy_82 qf_1_39) (js_o8b hb) rfl rfl rfl rfl).trans <| (j_aload_n q_82_50 rfl).trans <| (j_get (ji := 10) (v := (0, if js_w 0 < js_w ((if js_w (σ (8 + b) 10) < js_w 1024 then (σ (8 + b) 10) else 1024) - 1) then ((if js_w (σ (8 + b) 10) < js_w 1024 then (σ (8 + b) 10) else 1024) - 1) else 0)) q_82_51 (js_Fo qy_82 qf_1_58) (js_o8b hb) rfl rfl rfl (congrArg (Prod.mk 0) ((js_up_same _ _ _ _)))).trans <| (j_ialoadv q_82_54 (js_o18b hb) ((js_up_ne _ (by omega)))).trans <| (if_pos g0).trans <| (j_aload_n q_82_55 rfl).trans <| rfl
theorem k_82_56 {E : js_E} {d : Nat} {σ σ2 : js_S} {x1 x2 x3 z1 z2 z3 z4 z5 b : Int} (hb : b = 0 ∨ b = 25) {v : Int} (hd : 1 ≤ d) (hz : js_J E (d - 1) 70 0 [(2, 8 + b)] [] σ = js_r E (0, v) σ2) : js_J E d 82 56 [(2, 8 + b), (0, x1), (0, x2), (0, x3)] [(2, 8 + b), (0, z5), (0, z4), (0, z3), (0, z2), (0, z1), (2, 8 + b)] σ = js_J E d 82 59 [(2, 8 + b), (0, x1), (0, x2), (0, x3)] [(0, v), (0, z5), (0, z4), (0, z3), (0, z2), (0, z1), (2, 8 + b)] σ2 :=
  j_call (m := 0) (js_caV q_82_56 (js_Mo qy_82 qm_1_100)) (js_agV (av := []) (st := [(0, z5), (0, z4), (0, z3), (0, z2), (0, z1), (2, 8 + b)]) rfl rfl (js_o8b hb) rfl) rfl rfl (by rw [ql_70]; exact Nat.le_of_ble_eq_true rfl) (Nat.le_of_ble_eq_true rfl) hd hz
theorem kt_82_56 {E : js_E} {d : Nat} {σ σ2 : js_S} {x1 x2 x3 z1 z2 z3 z4 z5 b : Int} (hb : b = 0 ∨ b = 25) {w : Int} (hd : 1 ≤ d) (hz : js_J E (d - 1) 70 0 [(2, 8 + b)] [] σ = js_t E w σ2) : js_J E d 82 56 [(2, 8 + b), (0, x1), (0, x2), (0, x3)] [(2, 8 + b), (0, z5), (0, z4), (0, z3), (0, z2), (0, z1), (2, 8 + b)] σ = js_t E w σ2 :=
  j_callT (m := 0) (js_caV q_82_56 (js_Mo qy_82 qm_1_100)) (js_agV (av := []) (st := [(0, z5), (0, z4), (0, z3), (0, z2), (0, z1), (2, 8 + b)]) rfl rfl (js_o8b hb) rfl) rfl rfl (by rw [ql_70]; exact Nat.le_of_ble_eq_true rfl) (Nat.le_of_ble_eq_true rfl) hd rfl hz
theorem k_82_59 {E : js_E} {d : Nat} {σ σ2 : js_S} {x1 x2 x3 z1 z2 z3 z4 z5 z6 b : Int} (hb : b = 0 ∨ b = 25) (hd : 1 ≤ d) (hz : js_J E (d - 1) 60 0 [(2, 8 + b), (0, z1), (0, z2), (0, z3), (0, z4), (0, z5), (0, z6), (9, 0)] [] σ = js_r0 E σ2) : js_J E d 82 59 [(2, 8 + b), (0, x1), (0, x2), (0, x3)] [(0, z6), (0, z5), (0, z4), (0, z3), (0, z2), (0, z1), (2, 8 + b)] σ = js_J E d 82 62 [(2, 8 + b), (0, x1), (0, x2), (0, x3)] [] σ2 :=
  j_call0 (m := 1) (js_caV q_82_59 (js_Mo qy_82 qm_1_74)) (js_agV (av := [(0, z1), (0, z2), (0, z3), (0, z4), (0, z5), (0, z6)]) (st := []) rfl rfl (js_o8b hb) rfl) rfl rfl (by rw [ql_60]; exact Nat.le_of_ble_eq_true rfl) (Nat.le_of_ble_eq_true rfl) hd hz
theorem kt_82_59 {E : js_E} {d : Nat} {σ σ2 : js_S} {x1 x2 x3 z1 z2 z3 z4 z5 z6 b : Int} (hb : b = 0 ∨ b = 25) {w : Int} (hd : 1 ≤ d) (hz : js_J E (d - 1) 60 0 [(2, 8 + b), (0, z1), (0, z2), (0, z3), (0, z4), (0, z5), (0, z6), (9, 0)] [] σ = js_t E w σ2) : js_J E d 82 59 [(2, 8 + b), (0, x1), (0, x2), (0, x3)] [(0, z6), (0, z5), (0, z4), (0, z3), (0, z2), (0, z1), (2, 8 + b)] σ = js_t E w σ2 :=
  j_callT (m := 1) (js_caV q_82_59 (js_Mo qy_82 qm_1_74)) (js_agV (av := [(0, z1), (0, z2), (0, z3), (0, z4), (0, z5), (0, z6)]) (st := []) rfl rfl (js_o8b hb) rfl) rfl rfl (by rw [ql_60]; exact Nat.le_of_ble_eq_true rfl) (Nat.le_of_ble_eq_true rfl) hd rfl hz
theorem b_82_62 {E : js_E} {d : Nat} {σ : js_S} {x1 x2 x3 b : Int} : js_J E d 82 62 [(2, 8 + b), (0, x1), (0, x2), (0, x3)] [] σ = js_J E d 82 69 [(2, 8 + b), (0, x1), (0, x2), (0, x3)] [(0, 0), (0, x3), (0, x2), (0, 0), (0, 0), (0, x1), (2, 8 + b)] σ :=
  (j_aload_n q_82_62 rfl).trans <| (j_iload_n q_82_63 rfl).trans <| (j_iconst q_82_64).trans <| (j_iconst q_82_65).trans <| (j_iload_n q_82_66 rfl).trans <| (j_iload_n q_82_67 rfl).trans <| (j_iconst q_82_68).trans <| rfl
theorem k_82_69 {E : js_E} {d : Nat} {σ σ2 : js_S} {x1 x2 x3 z1 z2 z3 z4 z5 z6 b : Int} (hb : b = 0 ∨ b = 25) (hd : 1 ≤ d) (hz : js_J E (d - 1) 60 0 [(2, 8 + b), (0, z1), (0, z2), (0, z3), (0, z4), (0, z5), (0, z6), (9, 0)] [] σ = js_r0 E σ2) : js_J E d 82 69 [(2, 8 + b), (0, x1), (0, x2), (0, x3)] [(0, z6), (0, z5), (0, z4), (0, z3), (0, z2), (0, z1), (2, 8 + b)] σ = js_J E d 82 72 [(2, 8 + b), (0, x1), (0, x2), (0, x3)] [] σ2 :=
  j_call0 (m := 1) (js_caV q_82_69 (js_Mo qy_82 qm_1_74)) (js_agV (av := [(0, z1), (0, z2), (0, z3), (0, z4), (0, z5), (0, z6)]) (st := []) rfl rfl (js_o8b hb) rfl) rfl rfl (by rw [ql_60]; exact Nat.le_of_ble_eq_true rfl) (Nat.le_of_ble_eq_true rfl) hd hz
theorem kt_82_69 {E : js_E} {d : Nat} {σ σ2 : js_S} {x1 x2 x3 z1 z2 z3 z4 z5 z6 b : Int} (hb : b = 0 ∨ b = 25) {w : Int} (hd : 1 ≤ d) (hz : js_J E (d - 1) 60 0 [(2, 8 + b), (0, z1), (0, z2), (0, z3), (0, z4), (0, z5), (0, z6), (9, 0)] [] σ = js_t E w σ2) : js_J E d 82 69 [(2, 8 + b), (0, x1), (0, x2), (0, x3)] [(0, z6), (0, z5), (0, z4), (0, z3), (0, z2), (0, z1), (2, 8 + b)] σ = js_t E w σ2 :=
  j_callT (m := 1) (js_caV q_82_69 (js_Mo qy_82 qm_1_74)) (js_agV (av := [(0, z1), (0, z2), (0, z3), (0, z4), (0, z5), (0, z6)]) (st := []) rfl rfl (js_o8b hb) rfl) rfl rfl (by rw [ql_60]; exact Nat.le_of_ble_eq_true rfl) (Nat.le_of_ble_eq_true rfl) hd rfl hz
theorem b_82_72 {E : js_E} {d : Nat} {σ : js_S} {x1 x2 x3 b : Int} : js_J E d 82 72 [(2, 8 + b), (0, x1), (0, x2), (0, x3)] [] σ = js_r0 E σ :=
  j_return q_82_72 qr_82
-- 83: VitalTwin$Expressions.absolute ()V
theorem b_83_0 {E : js_E} {d : Nat} {σ : js_S} {b : Int} (hb : b = 0 ∨ b = 25) : js_J E d 83 0 [(2, 23 + b), (9, 0), (9, 0), (9, 0)] [] σ = js_J E d 83 12 [(2, 23 + b), (0, σ 1 2), (9, 0), (9, 0)] [(2, 1)] σ :=
  (j_aload_n q_83_0 rfl).trans <| (j_get (ji := 4) (v := (2, 1)) q_83_1 (js_Fo qy_83 qf_5_33) (js_o23b hb) rfl rfl rfl rfl).trans <| (j_get (ji := 2) (v := (0, σ 1 2)) q_83_4 (js_Fo qy_83 qf_5_56) js_o1 rfl rfl rfl rfl).trans <| (j_istore_n (l2 := [(2, 23 + b), (0, σ 1 2), (9, 0), (9, 0)]) q_83_7 rfl (Nat.le_of_ble_eq_true rfl)).trans <| (j_aload_n q_83_8 rfl).trans <| (j_get (ji := 4) (v := (2, 1)) q_83_9 (js_Fo qy_83 qf_5_33) (js_o23b hb) rfl rfl rfl rfl).trans <| rfl
theorem k_83_12 {E : js_E} {d : Nat} {σ σ2 : js_S} {x1 b : Int} (hd : 1 ≤ d) (hz : js_J E (d - 1) 33 0 [(2, 1), (9, 0)] [] σ = js_r0 E σ2) : js_J E d 83 12 [(2, 23 + b), (0, x1), (9, 0), (9, 0)] [(2, 1)] σ = js_J E d 83 15 [(2, 23 + b), (0, x1), (9, 0), (9, 0)] [] σ2 :=
  j_call0 (m := 1) (js_caV q_83_12 (js_Mo qy_83 qm_5_140)) (js_agV (av := []) (st := []) rfl rfl js_o1 rfl) rfl rfl (by rw [ql_33]; exact Nat.le_of_ble_eq_true rfl) (Nat.le_of_ble_eq_true rfl) hd hz
theorem kt_83_12 {E : js_E} {d : Nat} {σ σ2 : js_S} {x1 b : Int} {w : Int} (hd : 1 ≤ d) (hz : js_J E (d - 1) 33 0 [(2, 1), (9, 0)] [] σ = js_t E w σ2) : js_J E d 83 12 [(2, 23 + b), (0, x1), (9, 0), (9, 0)] [(2, 1)] σ = js_t E w σ2 :=
  j_callT (m := 1) (js_caV q_83_12 (js_Mo qy_83 qm_5_140)) (js_agV (av := []) (st := []) rfl rfl js_o1 rfl) rfl rfl (by rw [ql_33]; exact Nat.le_of_ble_eq_true rfl) (Nat.le_of_ble_eq_true rfl) hd rfl hz
theorem b_83_15 {E : js_E} {d : Nat} {σ : js_S} {x1 b : Int} (hb : b = 0 ∨ b = 25) : js_J E d 83 15 [(2, 23 + b), (0, x1), (9, 0), (9, 0)] [] σ = js_J E d 83 21 [(2, 23 + b), (0, x1), (9, 0), (9, 0)] [(0, 40), (2, 1)] σ :=
  (j_aload_n q_83_15 rfl).trans <| (j_get (ji := 4) (v := (2, 1)) q_83_16 (js_Fo qy_83 qf_5_33) (js_o23b hb) rfl rfl rfl rfl).trans <| (j_bi q_83_19 rfl).trans <| rfl
theorem k_83_21 {E : js_E} {d : Nat} {σ σ2 : js_S} {x1 z1 b : Int} (hd : 1 ≤ d) (hz : js_J E (d - 1) 47 0 [(2, 1), (0, z1)] [] σ = js_r0 E σ2) : js_J E d 83 21 [(2, 23 + b), (0, x1), (9, 0), (9, 0)] [(0, z1), (2, 1)] σ = js_J E d 83 24 [(2, 23 + b), (0, x1), (9, 0), (9, 0)] [] σ2 :=
  j_call0 (m := 0) (js_caV q_83_21 (js_Mo qy_83 qm_5_124)) (js_agV (av := [(0, z1)]) (st := []) rfl rfl js_o1 rfl) rfl rfl (by rw [ql_47]; exact Nat.le_of_ble_eq_true rfl) (Nat.le_of_ble_eq_true rfl) hd hz
theorem kt_83_21 {E : js_E} {d : Nat} {σ σ2 : js_S} {x1 z1 b : Int} {w : Int} (hd : 1 ≤ d) (hz : js_J E (d - 1) 47 0 [(2, 1), (0, z1)] [] σ = js_t E w σ2) : js_J E d 83 21 [(2, 23 + b), (0, x1), (9, 0), (9, 0)] [(0, z1), (2, 1)] σ = js_t E w σ2 :=
  j_callT (m := 0) (js_caV q_83_21 (js_Mo qy_83 qm_5_124)) (js_agV (av := [(0, z1)]) (st := []) rfl rfl js_o1 rfl) rfl rfl (by rw [ql_47]; exact Nat.le_of_ble_eq_true rfl) (Nat.le_of_ble_eq_true rfl) hd rfl hz
theorem b_83_24 {E : js_E} {d : Nat} {σ : js_S} {x1 b : Int} : js_J E d 83 24 [(2, 23 + b), (0, x1), (9, 0), (9, 0)] [] σ = js_J E d 83 25 [(2, 23 + b), (0, x1), (9, 0), (9, 0)] [(2, 23 + b)] σ :=
  (j_aload_n q_83_24 rfl).trans <| rfl
theorem k_83_25 {E : js_E} {d : Nat} {σ σ2 : js_S} {x1 b : Int} (hb : b = 0 ∨ b = 25) (hd : 1 ≤ d) (hz : js_J E (d - 1) 61 0 [(2, 23 + b), (9, 0), (9, 0), (9, 0), (9, 0), (9, 0), (9, 0)] [] σ = js_r0 E σ2) : js_J E d 83 25 [(2, 23 + b), (0, x1), (9, 0), (9, 0)] [(2, 23 + b)] σ = js_J E d 83 28 [(2, 23 + b), (0, x1), (9, 0), (9, 0)] [] σ2 :=
  j_call0 (m := 6) (js_caV q_83_25 (js_Mo qy_83 qm_5_177)) (js_agV (av := []) (st := []) rfl rfl (js_o23b hb) rfl) rfl rfl (by rw [ql_61]; exact Nat.le_of_ble_eq_true rfl) (Nat.le_of_ble_eq_true rfl) hd hz
theorem kt_83_25 {E : js_E} {d : Nat} {σ σ2 : js_S} {x1 b : Int} (hb : b = 0 ∨ b = 25) {w : Int} (hd : 1 ≤ d) (hz : js_J E (d - 1) 61 0 [(2, 23 + b), (9, 0), (9, 0), (9, 0), (9, 0), (9, 0), (9, 0)] [] σ = js_t E w σ2) : js_J E d 83 25 [(2, 23 + b), (0, x1), (9, 0), (9, 0)] [(2, 23 + b)] σ = js_t E w σ2 :=
  j_callT (m := 6) (js_caV q_83_25 (js_Mo qy_83 qm_5_177)) (js_agV (av := []) (st := []) rfl rfl (js_o23b hb) rfl) rfl rfl (by rw [ql_61]; exact Nat.le_of_ble_eq_true rfl) (Nat.le_of_ble_eq_true rfl) hd rfl hz
theorem b_83_28 {E : js_E} {d : Nat} {σ : js_S} {x1 b : Int} (hb : b = 0 ∨ b = 25) : js_J E d 83 28 [(2, 23 + b), (0, x1), (9, 0), (9, 0)] [] σ = js_J E d 83 34 [(2, 23 + b), (0, x1), (9, 0), (9, 0)] [(0, x1), (0, σ (23 + b) 0), (2, 23 + b)] σ :=
  (j_aload_n q_83_28 rfl).trans <| (j_aload_n q_83_29 rfl).trans <| (j_get (ji := 0) (v := (0, σ (23 + b) 0)) q_83_30 (js_Fo qy_83 qf_5_130) (js_o23b hb) rfl rfl rfl rfl).trans <| (j_iload_n q_83_33 rfl).trans <| rfl
theorem k_83_34 {E : js_E} {d : Nat} {σ σ2 : js_S} {x1 z1 z2 b : Int} (hb : b = 0 ∨ b = 25) (hd : 1 ≤ d) (hz : js_J E (d - 1) 81 0 [(2, 23 + b), (0, z1), (0, z2)] [] σ = js_r0 E σ2) : js_J E d 83 34 [(2, 23 + b), (0, x1), (9, 0), (9, 0)] [(0, z2), (0, z1), (2, 23 + b)] σ = js_J E d 83 37 [(2, 23 + b), (0, x1), (9, 0), (9, 0)] [] σ2 :=
  j_call0 (m := 0) (js_caV q_83_34 (js_Mo qy_83 qm_5_203)) (js_agV (av := [(0, z1), (0, z2)]) (st := []) rfl rfl (js_o23b hb) rfl) rfl rfl (by rw [ql_81]; exact Nat.le_of_ble_eq_true rfl) (Nat.le_of_ble_eq_true rfl) hd hz
theorem kt_83_34 {E : js_E} {d : Nat} {σ σ2 : js_S} {x1 z1 z2 b : Int} (hb : b = 0 ∨ b = 25) {w : Int} (hd : 1 ≤ d) (hz : js_J E (d - 1) 81 0 [(2, 23 + b), (0, z1), (0, z2)] [] σ = js_t E w σ2) : js_J E d 83 34 [(2, 23 + b), (0, x1), (9, 0), (9, 0)] [(0, z2), (0, z1), (2, 23 + b)] σ = js_t E w σ2 :=
  j_callT (m := 0) (js_caV q_83_34 (js_Mo qy_83 qm_5_203)) (js_agV (av := [(0, z1), (0, z2)]) (st := []) rfl rfl (js_o23b hb) rfl) rfl rfl (by rw [ql_81]; exact Nat.le_of_ble_eq_true rfl) (Nat.le_of_ble_eq_true rfl) hd rfl hz
theorem b_83_37 {E : js_E} {d : Nat} {σ : js_S} {x1 b : Int} (hb : b = 0 ∨ b = 25) : js_J E d 83 37 [(2, 23 + b), (0, x1), (9, 0), (9, 0)] [] σ = (if 0 < js_w (σ (23 + b) 1) then js_J E d 83 55 [(2, 23 + b), (0, x1), (9, 0), (9, 0)] [] σ else (if js_w (σ (23 + b) 2) < 0 then js_J E d 83 55 [(2, 23 + b), (0, x1), (9, 0), (9, 0)] [] σ else js_J E d 83 56 [(2, 23 + b), (0, x1), (9, 0), (9, 0)] [(0, 1)] σ)) :=
  (j_aload_n q_83_37 rfl).trans <| (j_get (ji := 1) (v := (0, σ (23 + b) 1)) q_83_38 (js_Fo qy_83 qf_5_94) (js_o23b hb) rfl rfl rfl rfl).trans <| (j_ifgt (t := 55) q_83_41 rfl).trans (js_ite (rfl) ((j_aload_n q_83_44 rfl).trans <| (j_get (ji := 2) (v := (0, σ (23 + b) 2)) q_83_45 (js_Fo qy_83 qf_5_97) (js_o23b hb) rfl rfl rfl rfl).trans <| (j_iflt (t := 55) q_83_48 rfl).trans (js_ite (rfl) ((j_iconst q_83_51).trans <| (j_goto (t := 56) q_83_52 rfl).trans <| rfl))))
theorem b_83_55 {E : js_E} {d : Nat} {σ : js_S} {x1 b : Int} : js_J E d 83 55 [(2, 23 + b), (0, x1), (9, 0), (9, 0)] [] σ = js_J E d 83 56 [(2, 23 + b), (0, x1), (9, 0), (9, 0)] [(0, 0)] σ :=
  (j_iconst q_83_55).trans <| rfl
theorem b_83_56 {E : js_E} {d : Nat} {σ : js_S} {x1 z0 b : Int} (hd : 4 ≤ d) (hb : b = 0 ∨ b = 25) : js_J E d 83 56 [(2, 23 + b), (0, x1), (9, 0), (9, 0)] [(0, z0)] σ = (if js_w z0 = 0 then js_J E d 83 82 [(2, 23 + b), (0, x1), (0, z0), (9, 0)] [(0, if js_w (if js_w (σ (23 + b) 2) < 0 then -(σ (23 + b) 2) else (σ (23 + b) 2)) < js_w (if js_w (σ (23 + b) 1) < 0 then -(σ (23 + b) 1) else (σ (23 + b) 1)) then (if js_w (σ (23 + b) 2) < 0 then -(σ (23 + b) 2) else (σ (23 + b) 2)) else (if js_w (σ (23 + b) 1) < 0 then -(σ (23 + b) 1) else (σ (23 + b) 1)))] σ else js_J E d 83 82 [(2, 23 + b), (0, x1), (0, z0), (9, 0)] [(0, 0)] σ) :=
  (j_istore_n (l2 := [(2, 23 + b), (0, x1), (0, z0), (9, 0)]) q_83_56 rfl (Nat.le_of_ble_eq_true rfl)).trans <| (j_iload_n q_83_57 rfl).trans <| (j_ifeq (t := 65) q_83_58 rfl).trans (js_ite ((j_aload_n q_83_65 rfl).trans <| (j_get (ji := 1) (v := (0, σ (23 + b) 1)) q_83_66 (js_Fo qy_83 qf_5_94) (js_o23b hb) rfl rfl rfl rfl).trans <| (j_abs (js_clS q_83_69 (js_Mo qy_83 qm_5_206)) (Nat.le_of_ble_eq_true rfl) hd).trans <| (j_aload_n q_83_72 rfl).trans <| (j_get (ji := 2) (v := (0, σ (23 + b) 2)) q_83_73 (js_Fo qy_83 qf_5_97) (js_o23b hb) rfl rfl rfl rfl).trans <| (j_abs (js_clS q_83_76 (js_Mo qy_83 qm_5_206)) (Nat.le_of_ble_eq_true rfl) hd).trans <| (j_min (js_clS q_83_79 (js_Mo qy_83 qm_5_183)) (Nat.le_of_ble_eq_true rfl) hd).trans <| rfl) ((j_iconst q_83_61).trans <| (j_goto (t := 82) q_83_62 rfl).trans <| rfl))
theorem b_83_82 {E : js_E} {d : Nat} {σ : js_S} {x1 x2 z0 b : Int} (hd : 4 ≤ d) (hb : b = 0 ∨ b = 25) : js_J E d 83 82 [(2, 23 + b), (0, x1), (0, x2), (9, 0)] [(0, z0)] σ = js_J E d 83 103 [(2, 23 + b), (0, x1), (0, x2), (0, z0)] [(0, if js_w (if js_w (σ (23 + b) 1) < 0 then -(σ (23 + b) 1) else (σ (23 + b) 1)) < js_w (if js_w (σ (23 + b) 2) < 0 then -(σ (23 + b) 2) else (σ (23 + b) 2)) then (if js_w (σ (23 + b) 2) < 0 then -(σ (23 + b) 2) else (σ (23 + b) 2)) else (if js_w (σ (23 + b) 1) < 0 then -(σ (23 + b) 1) else (σ (23 + b) 1))), (0, z0), (0, 0), (2, 23 + b)] σ :=
  (j_istore_n (l2 := [(2, 23 + b), (0, x1), (0, x2), (0, z0)]) q_83_82 rfl (Nat.le_of_ble_eq_true rfl)).trans <| (j_aload_n q_83_83 rfl).trans <| (j_iconst q_83_84).trans <| (j_iload_n q_83_85 rfl).trans <| (j_aload_n q_83_86 rfl).trans <| (j_get (ji := 1) (v := (0, σ (23 + b) 1)) q_83_87 (js_Fo qy_83 qf_5_94) (js_o23b hb) rfl rfl rfl rfl).trans <| (j_abs (js_clS q_83_90 (js_Mo qy_83 qm_5_206)) (Nat.le_of_ble_eq_true rfl) hd).trans <| (j_aload_n q_83_93 rfl).trans <| (j_get (ji := 2) (v := (0, σ (23 + b) 2)) q_83_94 (js_Fo qy_83 qf_5_97) (js_o23b hb) rfl rfl rfl rfl).trans <| (j_abs (js_clS q_83_97 (js_Mo qy_83 qm_5_206)) (Nat.le_of_ble_eq_true rfl) hd).trans <| (j_max (js_clS q_83_100 (js_Mo qy_83 qm_5_185)) (Nat.le_of_ble_eq_true rfl) hd).trans <| rfl
theorem k_83_103 {E : js_E} {d : Nat} {σ σ2 : js_S} {x1 x2 x3 z1 z2 z3 b : Int} (hb : b = 0 ∨ b = 25) (hd : 1 ≤ d) (hz : js_J E (d - 1) 75 0 [(2, 23 + b), (0, z1), (0, z2), (0, z3)] [] σ = js_r0 E σ2) : js_J E d 83 103 [(2, 23 + b), (0, x1), (0, x2), (0, x3)] [(0, z3), (0, z2), (0, z1), (2, 23 + b)] σ = js_J E d 83 106 [(2, 23 + b), (0, x1), (0, x2), (0, x3)] [] σ2 :=
  j_call0 (m := 0) (js_caV q_83_103 (js_Mo qy_83 qm_5_147)) (js_agV (av := [(0, z1), (0, z2), (0, z3)]) (st := []) rfl rfl (js_o23b hb) rfl) rfl rfl (by rw [ql_75]; exact Nat.le_of_ble_eq_true rfl) (Nat.le_of_ble_eq_true rfl) hd hz
theorem kt_83_103 {E : js_E} {d : Nat} {σ σ2 : js_S} {x1 x2 x3 z1 z2 z3 b : Int} (hb : b = 0 ∨ b = 25) {w : Int} (hd : 1 ≤ d) (hz : js_J E (d - 1) 75 0 [(2, 23 + b), (0, z1), (0, z2), (0, z3)] [] σ = js_t E w σ2) : js_J E d 83 103 [(2, 23 + b), (0, x1), (0, x2), (0, x3)] [(0, z3), (0, z2), (0, z1), (2, 23 + b)] σ = js_t E w σ2 :=
  j_callT (m := 0) (js_caV q_83_103 (js_Mo qy_83 qm_5_147)) (js_agV (av := [(0, z1), (0, z2), (0, z3)]) (st := []) rfl rfl (js_o23b hb) rfl) rfl rfl (by rw [ql_75]; exact Nat.le_of_ble_eq_true rfl) (Nat.le_of_ble_eq_true rfl) hd rfl hz
theorem b_83_106 {E : js_E} {d : Nat} {σ : js_S} {x1 x2 x3 b : Int} (hb : b = 0 ∨ b = 25) : js_J E d 83 106 [(2, 23 + b), (0, x1), (0, x2), (0, x3)] [] σ = js_J E d 83 121 [(2, 23 + b), (0, x1), (0, x2), (0, x3)] [(0, σ (23 + b) 2), (0, σ (23 + b) 1), (0, 0), (0, 20), (2, 8 + b)] σ :=
  (j_aload_n q_83_106 rfl).trans <| (j_get (ji := 6) (v := (2, 8 + b)) q_83_107 (js_Fo qy_83 qf_5_47) (js_o23b hb) rfl rfl rfl rfl).trans <| (j_bi q_83_110 rfl).trans <| (j_iconst q_83_112).trans <| (j_aload_n q_83_113 rfl).trans <| (j_get (ji := 1) (v := (0, σ (23 + b) 1)) q_83_114 (js_Fo qy_83 qf_5_94) (js_o23b hb) rfl rfl rfl rfl).trans <| (j_aload_n q_83_117 rfl).trans <| (j_get (ji := 2) (v := (0, σ (23 + b) 2)) q_83_118 (js_Fo qy_83 qf_5_97) (js_o23b hb) rfl rfl rfl rfl).trans <| rfl
theorem k_83_121 {E : js_E} {d : Nat} {σ σ2 : js_S} {x1 x2 x3 z1 z2 z3 z4 b : Int} (hb : b = 0 ∨ b = 25) (hd : 1 ≤ d) (hz : js_J E (d - 1) 59 0 [(2, 8 + b), (0, z1), (0, z2), (0, z3), (0, z4)] [] σ = js_r0 E σ2) : js_J E d 83 121 [(2, 23 + b), (0, x1), (0, x2), (0, x3)] [(0, z4), (0, z3), (0, z2), (0, z1), (2, 8 + b)] σ = js_J E d 83 124 [(2, 23 + b), (0, x1), (0, x2), (0, x3)] [] σ2 :=
  j_call0 (m := 0) (js_caV q_83_121 (js_Mo qy_83 qm_5_100)) (js_agV (av := [(0, z1), (0, z2), (0, z3), (0, z4)]) (st := []) rfl rfl (js_o8b hb) rfl) rfl rfl (by rw [ql_59]; exact Nat.le_of_ble_eq_true rfl) (Nat.le_of_ble_eq_true rfl) hd hz
theorem kt_83_121 {E : js_E} {d : Nat} {σ σ2 : js_S} {x1 x2 x3 z1 z2 z3 z4 b : Int} (hb : b = 0 ∨ b = 25) {w : Int} (hd : 1 ≤ d) (hz : js_J E (d - 1) 59 0 [(2, 8 + b), (0, z1), (0, z2), (0, z3), (0, z4)] [] σ = js_t E w σ2) : js_J E d 83 121 [(2, 23 + b), (0, x1), (0, x2), (0, x3)] [(0, z4), (0, z3), (0, z2), (0, z1), (2, 8 + b)] σ = js_t E w σ2 :=
  j_callT (m := 0) (js_caV q_83_121 (js_Mo qy_83 qm_5_100)) (js_agV (av := [(0, z1), (0, z2), (0, z3), (0, z4)]) (st := []) rfl rfl (js_o8b hb) rfl) rfl rfl (by rw [ql_59]; exact Nat.le_of_ble_eq_true rfl) (Nat.le_of_ble_eq_true rfl) hd rfl hz
theorem b_83_124 {E : js_E} {d : Nat} {σ : js_S} {x1 x2 x3 b : Int} (hb : b = 0 ∨ b = 25) : js_J E d 83 124 [(2, 23 + b), (0, x1), (0, x2), (0, x3)] [] σ = js_J E d 83 130 [(2, 23 + b), (0, x1), (0, x2), (0, x3)] [(0, 41), (2, 1)] σ :=
  (j_aload_n q_83_124 rfl).trans <| (j_get (ji := 4) (v := (2, 1)) q_83_125 (js_Fo qy_83 qf_5_33) (js_o23b hb) rfl rfl rfl rfl).trans <| (j_bi q_83_128 rfl).trans <| rfl
theorem k_83_130 {E : js_E} {d : Nat} {σ σ2 : js_S} {x1 x2 x3 z1 b : Int} (hd : 1 ≤ d) (hz : js_J E (d - 1) 48 0 [(2, 1), (0, z1)] [] σ = js_r0 E σ2) : js_J E d 83 130 [(2, 23 + b), (0, x1), (0, x2), (0, x3)] [(0, z1), (2, 1)] σ = js_J E d 83 133 [(2, 23 + b), (0, x1), (0, x2), (0, x3)] [] σ2 :=
  j_call0 (m := 0) (js_caV q_83_130 (js_Mo qy_83 qm_5_191)) (js_agV (av := [(0, z1)]) (st := []) rfl rfl js_o1 rfl) rfl rfl (by rw [ql_48]; exact Nat.le_of_ble_eq_true rfl) (Nat.le_of_ble_eq_true rfl) hd hz
theorem kt_83_130 {E : js_E} {d : Nat} {σ σ2 : js_S} {x1 x2 x3 z1 b : Int} {w : Int} (hd : 1 ≤ d) (hz : js_J E (d - 1) 48 0 [(2, 1), (0, z1)] [] σ = js_t E w σ2) : js_J E d 83 130 [(2, 23 + b), (0, x1), (0, x2), (0, x3)] [(0, z1), (2, 1)] σ = js_t E w σ2 :=
  j_callT (m := 0) (js_caV q_83_130 (js_Mo qy_83 qm_5_191)) (js_agV (av := [(0, z1)]) (st := []) rfl rfl js_o1 rfl) rfl rfl (by rw [ql_48]; exact Nat.le_of_ble_eq_true rfl) (Nat.le_of_ble_eq_true rfl) hd rfl hz
theorem b_83_133 {E : js_E} {d : Nat} {σ : js_S} {x1 x2 x3 b : Int} : js_J E d 83 133 [(2, 23 + b), (0, x1), (0, x2), (0, x3)] [] σ = js_r0 E σ :=
  j_return q_83_133 qr_83
-- 84: VitalTwin$Expressions.clamp ()V
theorem b_84_0 {E : js_E} {d : Nat} {σ : js_S} {b : Int} (hb : b = 0 ∨ b = 25) : js_J E d 84 0 [(2, 23 + b), (9, 0), (9, 0), (9, 0)] [] σ = js_J E d 84 12 [(2, 23 + b), (0, σ 1 2), (9, 0), (9, 0)] [(2, 1)] σ :=
  (j_aload_n q_84_0 rfl).trans <| (j_get (ji := 4) (v := (2, 1)) q_84_1 (js_Fo qy_84 qf_5_33) (js_o23b hb) rfl rfl rfl rfl).trans <| (j_get (ji := 2) (v := (0, σ 1 2)) q_84_4 (js_Fo qy_84 qf_5_56) js_o1 rfl rfl rfl rfl).trans <| (j_istore_n (l2 := [(2, 23 + b), (0, σ 1 2), (9, 0), (9, 0)]) q_84_7 rfl (Nat.le_of_ble_eq_true rfl)).trans <| (j_aload_n q_84_8 rfl).trans <| (j_get (ji := 4) (v := (2, 1)) q_84_9 (js_Fo qy_84 qf_5_33) (js_o23b hb) rfl rfl rfl rfl).trans <| rfl
theorem k_84_12 {E : js_E} {d : Nat} {σ σ2 : js_S} {x1 b : Int} (hd : 1 ≤ d) (hz : js_J E (d - 1) 33 0 [(2, 1), (9, 0)] [] σ = js_r0 E σ2) : js_J E d 84 12 [(2, 23 + b), (0, x1), (9, 0), (9, 0)] [(2, 1)] σ = js_J E d 84 15 [(2, 23 + b), (0, x1), (9, 0), (9, 0)] [] σ2 :=
  j_call0 (m := 1) (js_caV q_84_12 (js_Mo qy_84 qm_5_140)) (js_agV (av := []) (st := []) rfl rfl js_o1 rfl) rfl rfl (by rw [ql_33]; exact Nat.le_of_ble_eq_true rfl) (Nat.le_of_ble_eq_true rfl) hd hz
theorem kt_84_12 {E : js_E} {d : Nat} {σ σ2 : js_S} {x1 b : Int} {w : Int} (hd : 1 ≤ d) (hz : js_J E (d - 1) 33 0 [(2, 1), (9, 0)] [] σ = js_t E w σ2) : js_J E d 84 12 [(2, 23 + b), (0, x1), (9, 0), (9, 0)] [(2, 1)] σ = js_t E w σ2 :=
  j_callT (m := 1) (js_caV q_84_12 (js_Mo qy_84 qm_5_140)) (js_agV (av := []) (st := []) rfl rfl js_o1 rfl) rfl rfl (by rw [ql_33]; exact Nat.le_of_ble_eq_true rfl) (Nat.le_of_ble_eq_true rfl) hd rfl hz
theorem b_84_15 {E : js_E} {d : Nat} {σ : js_S} {x1 b : Int} (hb : b = 0 ∨ b = 25) : js_J E d 84 15 [(2, 23 + b), (0, x1), (9, 0), (9, 0)] [] σ = js_J E d 84 21 [(2, 23 + b), (0, x1), (9, 0), (9, 0)] [(0, 40), (2, 1)] σ :=
  (j_aload_n q_84_15 rfl).trans <| (j_get (ji := 4) (v := (2, 1)) q_84_16 (js_Fo qy_84 qf_5_33) (js_o23b hb) rfl rfl rfl rfl).trans <| (j_bi q_84_19 rfl).trans <| rfl
theorem k_84_21 {E : js_E} {d : Nat} {σ σ2 : js_S} {x1 z1 b : Int} (hd : 1 ≤ d) (hz : js_J E (d - 1) 47 0 [(2, 1), (0, z1)] [] σ = js_r0 E σ2) : js_J E d 84 21 [(2, 23 + b), (0, x1), (9, 0), (9, 0)] [(0, z1), (2, 1)] σ = js_J E d 84 24 [(2, 23 + b), (0, x1), (9, 0), (9, 0)] [] σ2 :=
  j_call0 (m := 0) (js_caV q_84_21 (js_Mo qy_84 qm_5_124)) (js_agV (av := [(0, z1)]) (st := []) rfl rfl js_o1 rfl) rfl rfl (by rw [ql_47]; exact Nat.le_of_ble_eq_true rfl) (Nat.le_of_ble_eq_true rfl) hd hz
theorem kt_84_21 {E : js_E} {d : Nat} {σ σ2 : js_S} {x1 z1 b : Int} {w : Int} (hd : 1 ≤ d) (hz : js_J E (d - 1) 47 0 [(2, 1), (0, z1)] [] σ = js_t E w σ2) : js_J E d 84 21 [(2, 23 + b), (0, x1), (9, 0), (9, 0)] [(0, z1), (2, 1)] σ = js_t E w σ2 :=
  j_callT (m := 0) (js_caV q_84_21 (js_Mo qy_84 qm_5_124)) (js_agV (av := [(0, z1)]) (st := []) rfl rfl js_o1 rfl) rfl rfl (by rw [ql_47]; exact Nat.le_of_ble_eq_true rfl) (Nat.le_of_ble_eq_true rfl) hd rfl hz
theorem b_84_24 {E : js_E} {d : Nat} {σ : js_S} {x1 b : Int} : js_J E d 84 24 [(2, 23 + b), (0, x1), (9, 0), (9, 0)] [] σ = js_J E d 84 25 [(2, 23 + b), (0, x1), (9, 0), (9, 0)] [(2, 23 + b)] σ :=
  (j_aload_n q_84_24 rfl).trans <| rfl
theorem k_84_25 {E : js_E} {d : Nat} {σ σ2 : js_S} {x1 b : Int} (hb : b = 0 ∨ b = 25) (hd : 1 ≤ d) (hz : js_J E (d - 1) 61 0 [(2, 23 + b), (9, 0), (9, 0), (9, 0), (9, 0), (9, 0), (9, 0)] [] σ = js_r0 E σ2) : js_J E d 84 25 [(2, 23 + b), (0, x1), (9, 0), (9, 0)] [(2, 23 + b)] σ = js_J E d 84 28 [(2, 23 + b), (0, x1), (9, 0), (9, 0)] [] σ2 :=
  j_call0 (m := 6) (js_caV q_84_25 (js_Mo qy_84 qm_5_177)) (js_agV (av := []) (st := []) rfl rfl (js_o23b hb) rfl) rfl rfl (by rw [ql_61]; exact Nat.le_of_ble_eq_true rfl) (Nat.le_of_ble_eq_true rfl) hd hz
theorem kt_84_25 {E : js_E} {d : Nat} {σ σ2 : js_S} {x1 b : Int} (hb : b = 0 ∨ b = 25) {w : Int} (hd : 1 ≤ d) (hz : js_J E (d - 1) 61 0 [(2, 23 + b), (9, 0), (9, 0), (9, 0), (9, 0), (9, 0), (9, 0)] [] σ = js_t E w σ2) : js_J E d 84 25 [(2, 23 + b), (0, x1), (9, 0), (9, 0)] [(2, 23 + b)] σ = js_t E w σ2 :=
  j_callT (m := 6) (js_caV q_84_25 (js_Mo qy_84 qm_5_177)) (js_agV (av := []) (st := []) rfl rfl (js_o23b hb) rfl) rfl rfl (by rw [ql_61]; exact Nat.le_of_ble_eq_true rfl) (Nat.le_of_ble_eq_true rfl) hd rfl hz
theorem b_84_28 {E : js_E} {d : Nat} {σ : js_S} {x1 b : Int} (hb : b = 0 ∨ b = 25) : js_J E d 84 28 [(2, 23 + b), (0, x1), (9, 0), (9, 0)] [] σ = js_J E d 84 34 [(2, 23 + b), (0, x1), (9, 0), (9, 0)] [(0, x1), (0, σ (23 + b) 0), (2, 23 + b)] σ :=
  (j_aload_n q_84_28 rfl).trans <| (j_aload_n q_84_29 rfl).trans <| (j_get (ji := 0) (v := (0, σ (23 + b) 0)) q_84_30 (js_Fo qy_84 qf_5_130) (js_o23b hb) rfl rfl rfl rfl).trans <| (j_iload_n q_84_33 rfl).trans <| rfl
theorem k_84_34 {E : js_E} {d : Nat} {σ σ2 : js_S} {x1 z1 z2 b : Int} (hb : b = 0 ∨ b = 25) (hd : 1 ≤ d) (hz : js_J E (d - 1) 81 0 [(2, 23 + b), (0, z1), (0, z2)] [] σ = js_r0 E σ2) : js_J E d 84 34 [(2, 23 + b), (0, x1), (9, 0), (9, 0)] [(0, z2), (0, z1), (2, 23 + b)] σ = js_J E d 84 37 [(2, 23 + b), (0, x1), (9, 0), (9, 0)] [] σ2 :=
  j_call0 (m := 0) (js_caV q_84_34 (js_Mo qy_84 qm_5_203)) (js_agV (av := [(0, z1), (0, z2)]) (st := []) rfl rfl (js_o23b hb) rfl) rfl rfl (by rw [ql_81]; exact Nat.le_of_ble_eq_true rfl) (Nat.le_of_ble_eq_true rfl) hd hz
theorem kt_84_34 {E : js_E} {d : Nat} {σ σ2 : js_S} {x1 z1 z2 b : Int} (hb : b = 0 ∨ b = 25) {w : Int} (hd : 1 ≤ d) (hz : js_J E (d - 1) 81 0 [(2, 23 + b), (0, z1), (0, z2)] [] σ = js_t E w σ2) : js_J E d 84 34 [(2, 23 + b), (0, x1), (9, 0), (9, 0)] [(0, z2), (0, z1), (2, 23 + b)] σ = js_t E w σ2 :=
  j_callT (m := 0) (js_caV q_84_34 (js_Mo qy_84 qm_5_203)) (js_agV (av := [(0, z1), (0, z2)]) (st := []) rfl rfl (js_o23b hb) rfl) rfl rfl (by rw [ql_81]; exact Nat.le_of_ble_eq_true rfl) (Nat.le_of_ble_eq_true rfl) hd rfl hz
theorem b_84_37 {E : js_E} {d : Nat} {σ : js_S} {x1 b : Int} (hb : b = 0 ∨ b = 25) : js_J E d 84 37 [(2, 23 + b), (0, x1), (9, 0), (9, 0)] [] σ = js_J E d 84 43 [(2, 23 + b), (0, x1), (9, 0), (9, 0)] [(0, 44), (2, 1)] σ :=
  (j_aload_n q_84_37 rfl).trans <| (j_get (ji := 4) (v := (2, 1)) q_84_38 (js_Fo qy_84 qf_5_33) (js_o23b hb) rfl rfl rfl rfl).trans <| (j_bi q_84_41 rfl).trans <| rfl
theorem k_84_43 {E : js_E} {d : Nat} {σ σ2 : js_S} {x1 z1 b : Int} (hd : 1 ≤ d) (hz : js_J E (d - 1) 40 0 [(2, 1), (0, z1)] [] σ = js_r0 E σ2) : js_J E d 84 43 [(2, 23 + b), (0, x1), (9, 0), (9, 0)] [(0, z1), (2, 1)] σ = js_J E d 84 46 [(2, 23 + b), (0, x1), (9, 0), (9, 0)] [] σ2 :=
  j_call0 (m := 0) (js_caV q_84_43 (js_Mo qy_84 qm_5_180)) (js_agV (av := [(0, z1)]) (st := []) rfl rfl js_o1 rfl) rfl rfl (by rw [ql_40]; exact Nat.le_of_ble_eq_true rfl) (Nat.le_of_ble_eq_true rfl) hd hz
theorem kt_84_43 {E : js_E} {d : Nat} {σ σ2 : js_S} {x1 z1 b : Int} {w : Int} (hd : 1 ≤ d) (hz : js_J E (d - 1) 40 0 [(2, 1), (0, z1)] [] σ = js_t E w σ2) : js_J E d 84 43 [(2, 23 + b), (0, x1), (9, 0), (9, 0)] [(0, z1), (2, 1)] σ = js_t E w σ2 :=
  j_callT (m := 0) (js_caV q_84_43 (js_Mo qy_84 qm_5_180)) (js_agV (av := [(0, z1)]) (st := []) rfl rfl js_o1 rfl) rfl rfl (by rw [ql_40]; exact Nat.le_of_ble_eq_true rfl) (Nat.le_of_ble_eq_true rfl) hd rfl hz
theorem b_84_46 {E : js_E} {d : Nat} {σ : js_S} {x1 b : Int} (hb : b = 0 ∨ b = 25) : js_J E d 84 46 [(2, 23 + b), (0, x1), (9, 0), (9, 0)] [] σ = js_J E d 84 51 [(2, 23 + b), (0, x1), (9, 0), (9, 0)] [(0, 0), (2, 21 + b)] σ :=
  (j_aload_n q_84_46 rfl).trans <| (j_get (ji := 7) (v := (2, 21 + b)) q_84_47 (js_Fo qy_84 qf_5_48) (js_o23b hb) rfl rfl rfl rfl).trans <| (j_iconst q_84_50).trans <| rfl
theorem k_84_51 {E : js_E} {d : Nat} {σ σ2 : js_S} {x1 z1 b : Int} (hb : b = 0 ∨ b = 25) {v : Int} (hd : 1 ≤ d) (hz : js_J E (d - 1) 41 0 [(2, 21 + b), (0, z1), (9, 0), (9, 0), (9, 0)] [] σ = js_r E (0, v) σ2) : js_J E d 84 51 [(2, 23 + b), (0, x1), (9, 0), (9, 0)] [(0, z1), (2, 21 + b)] σ = js_J E d 84 54 [(2, 23 + b), (0, x1), (9, 0), (9, 0)] [(0, v)] σ2 :=
  j_call (m := 3) (js_caV q_84_51 (js_Mo qy_84 qm_5_208)) (js_agV (av := [(0, z1)]) (st := []) rfl rfl (js_o21b hb) rfl) rfl rfl (by rw [ql_41]; exact Nat.le_of_ble_eq_true rfl) (Nat.le_of_ble_eq_true rfl) hd hz
theorem kt_84_51 {E : js_E} {d : Nat} {σ σ2 : js_S} {x1 z1 b : Int} (hb : b = 0 ∨ b = 25) {w : Int} (hd : 1 ≤ d) (hz : js_J E (d - 1) 41 0 [(2, 21 + b), (0, z1), (9, 0), (9, 0), (9, 0)] [] σ = js_t E w σ2) : js_J E d 84 51 [(2, 23 + b), (0, x1), (9, 0), (9, 0)] [(0, z1), (2, 21 + b)] σ = js_t E w σ2 :=
  j_callT (m := 3) (js_caV q_84_51 (js_Mo qy_84 qm_5_208)) (js_agV (av := [(0, z1)]) (st := []) rfl rfl (js_o21b hb) rfl) rfl rfl (by rw [ql_41]; exact Nat.le_of_ble_eq_true rfl) (Nat.le_of_ble_eq_true rfl) hd rfl hz
theorem b_84_54 {E : js_E} {d : Nat} {σ : js_S} {x1 z0 b : Int} (hd : 4 ≤ d) (hb : b = 0 ∨ b = 25) : js_J E d 84 54 [(2, 23 + b), (0, x1), (9, 0), (9, 0)] [(0, z0)] σ = js_J E d 84 73 [(2, 23 + b), (0, x1), (0, z0), (9, 0)] [(0, if js_w (σ (23 + b) 2) < js_w z0 then z0 else (σ (23 + b) 2)), (0, if js_w (σ (23 + b) 1) < js_w z0 then z0 else (σ (23 + b) 1)), (0, 0), (2, 23 + b)] σ :=
  (j_istore_n (l2 := [(2, 23 + b), (0, x1), (0, z0), (9, 0)]) q_84_54 rfl (Nat.le_of_ble_eq_true rfl)).trans <| (j_aload_n q_84_55 rfl).trans <| (j_iconst q_84_56).trans <| (j_aload_n q_84_57 rfl).trans <| (j_get (ji := 1) (v := (0, σ (23 + b) 1)) q_84_58 (js_Fo qy_84 qf_5_94) (js_o23b hb) rfl rfl rfl rfl).trans <| (j_iload_n q_84_61 rfl).trans <| (j_max (js_clS q_84_62 (js_Mo qy_84 qm_5_185)) (Nat.le_of_ble_eq_true rfl) hd).trans <| (j_aload_n q_84_65 rfl).trans <| (j_get (ji := 2) (v := (0, σ (23 + b) 2)) q_84_66 (js_Fo qy_84 qf_5_97) (js_o23b hb) rfl rfl rfl rfl).trans <| (j_iload_n q_84_69 rfl).trans <| (j_max (js_clS q_84_70 (js_Mo qy_84 qm_5_185)) (Nat.le_of_ble_eq_true rfl) hd).trans <| rfl
theorem k_84_73 {E : js_E} {d : Nat} {σ σ2 : js_S} {x1 x2 z1 z2 z3 b : Int} (hb : b = 0 ∨ b = 25) (hd : 1 ≤ d) (hz : js_J E (d - 1) 75 0 [(2, 23 + b), (0, z1), (0, z2), (0, z3)] [] σ = js_r0 E σ2) : js_J E d 84 73 [(2, 23 + b), (0, x1), (0, x2), (9, 0)] [(0, z3), (0, z2), (0, z1), (2, 23 + b)] σ = js_J E d 84 76 [(2, 23 + b), (0, x1), (0, x2), (9, 0)] [] σ2 :=
  j_call0 (m := 0) (js_caV q_84_73 (js_Mo qy_84 qm_5_147)) (js_agV (av := [(0, z1), (0, z2), (0, z3)]) (st := []) rfl rfl (js_o23b hb) rfl) rfl rfl (by rw [ql_75]; exact Nat.le_of_ble_eq_true rfl) (Nat.le_of_ble_eq_true rfl) hd hz
theorem kt_84_73 {E : js_E} {d : Nat} {σ σ2 : js_S} {x1 x2 z1 z2 z3 b : Int} (hb : b = 0 ∨ b = 25) {w : Int} (hd : 1 ≤ d) (hz : js_J E (d - 1) 75 0 [(2, 23 + b), (0, z1), (0, z2), (0, z3)] [] σ = js_t E w σ2) : js_J E d 84 73 [(2, 23 + b), (0, x1), (0, x2), (9, 0)] [(0, z3), (0, z2), (0, z1), (2, 23 + b)] σ = js_t E w σ2 :=
  j_callT (m := 0) (js_caV q_84_73 (js_Mo qy_84 qm_5_147)) (js_agV (av := [(0, z1), (0, z2), (0, z3)]) (st := []) rfl rfl (js_o23b hb) rfl) rfl rfl (by rw [ql_75]; exact Nat.le_of_ble_eq_true rfl) (Nat.le_of_ble_eq_true rfl) hd rfl hz
theorem b_84_76 {E : js_E} {d : Nat} {σ : js_S} {x1 x2 b : Int} (hb : b = 0 ∨ b = 25) : js_J E d 84 76 [(2, 23 + b), (0, x1), (0, x2), (9, 0)] [] σ = js_J E d 84 91 [(2, 23 + b), (0, x1), (0, x2), (9, 0)] [(0, σ (23 + b) 2), (0, σ (23 + b) 1), (0, x2), (0, 22), (2, 8 + b)] σ :=
  (j_aload_n q_84_76 rfl).trans <| (j_get (ji := 6) (v := (2, 8 + b)) q_84_77 (js_Fo qy_84 qf_5_47) (js_o23b hb) rfl rfl rfl rfl).trans <| (j_bi q_84_80 rfl).trans <| (j_iload_n q_84_82 rfl).trans <| (j_aload_n q_84_83 rfl).trans <| (j_get (ji := 1) (v := (0, σ (23 + b) 1)) q_84_84 (js_Fo qy_84 qf_5_94) (js_o23b hb) rfl rfl rfl rfl).trans <| (j_aload_n q_84_87 rfl).trans <| (j_get (ji := 2) (v := (0, σ (23 + b) 2)) q_84_88 (js_Fo qy_84 qf_5_97) (js_o23b hb) rfl rfl rfl rfl).trans <| rfl
theorem k_84_91 {E : js_E} {d : Nat} {σ σ2 : js_S} {x1 x2 z1 z2 z3 z4 b : Int} (hb : b = 0 ∨ b = 25) (hd : 1 ≤ d) (hz : js_J E (d - 1) 59 0 [(2, 8 + b), (0, z1), (0, z2), (0, z3), (0, z4)] [] σ = js_r0 E σ2) : js_J E d 84 91 [(2, 23 + b), (0, x1), (0, x2), (9, 0)] [(0, z4), (0, z3), (0, z2), (0, z1), (2, 8 + b)] σ = js_J E d 84 94 [(2, 23 + b), (0, x1), (0, x2), (9, 0)] [] σ2 :=
  j_call0 (m := 0) (js_caV q_84_91 (js_Mo qy_84 qm_5_100)) (js_agV (av := [(0, z1), (0, z2), (0, z3), (0, z4)]) (st := []) rfl rfl (js_o8b hb) rfl) rfl rfl (by rw [ql_59]; exact Nat.le_of_ble_eq_true rfl) (Nat.le_of_ble_eq_true rfl) hd hz
theorem kt_84_91 {E : js_E} {d : Nat} {σ σ2 : js_S} {x1 x2 z1 z2 z3 z4 b : Int} (hb : b = 0 ∨ b = 25) {w : Int} (hd : 1 ≤ d) (hz : js_J E (d - 1) 59 0 [(2, 8 + b), (0, z1), (0, z2), (0, z3), (0, z4)] [] σ = js_t E w σ2) : js_J E d 84 91 [(2, 23 + b), (0, x1), (0, x2), (9, 0)] [(0, z4), (0, z3), (0, z2), (0, z1), (2, 8 + b)] σ = js_t E w σ2 :=
  j_callT (m := 0) (js_caV q_84_91 (js_Mo qy_84 qm_5_100)) (js_agV (av := [(0, z1), (0, z2), (0, z3), (0, z4)]) (st := []) rfl rfl (js_o8b hb) rfl) rfl rfl (by rw [ql_59]; exact Nat.le_of_ble_eq_true rfl) (Nat.le_of_ble_eq_true rfl) hd rfl hz
theorem b_84_94 {E : js_E} {d : Nat} {σ : js_S} {x1 x2 b : Int} (hb : b = 0 ∨ b = 25) : js_J E d 84 94 [(2, 23 + b), (0, x1), (0, x2), (9, 0)] [] σ = js_J E d 84 100 [(2, 23 + b), (0, x1), (0, x2), (9, 0)] [(0, 44), (2, 1)] σ :=
  (j_aload_n q_84_94 rfl).trans <| (j_get (ji := 4) (v := (2, 1)) q_84_95 (js_Fo qy_84 qf_5_33) (js_o23b hb) rfl rfl rfl rfl).trans <| (j_bi q_84_98 rfl).trans <| rfl
theorem k_84_100 {E : js_E} {d : Nat} {σ σ2 : js_S} {x1 x2 z1 b : Int} (hd : 1 ≤ d) (hz : js_J E (d - 1) 40 0 [(2, 1), (0, z1)] [] σ = js_r0 E σ2) : js_J E d 84 100 [(2, 23 + b), (0, x1), (0, x2), (9, 0)] [(0, z1), (2, 1)] σ = js_J E d 84 103 [(2, 23 + b), (0, x1), (0, x2), (9, 0)] [] σ2 :=
  j_call0 (m := 0) (js_caV q_84_100 (js_Mo qy_84 qm_5_180)) (js_agV (av := [(0, z1)]) (st := []) rfl rfl js_o1 rfl) rfl rfl (by rw [ql_40]; exact Nat.le_of_ble_eq_true rfl) (Nat.le_of_ble_eq_true rfl) hd hz
theorem kt_84_100 {E : js_E} {d : Nat} {σ σ2 : js_S} {x1 x2 z1 b : Int} {w : Int} (hd : 1 ≤ d) (hz : js_J E (d - 1) 40 0 [(2, 1), (0, z1)] [] σ = js_t E w σ2) : js_J E d 84 100 [(2, 23 + b), (0, x1), (0, x2), (9, 0)] [(0, z1), (2, 1)] σ = js_t E w σ2 :=
  j_callT (m := 0) (js_caV q_84_100 (js_Mo qy_84 qm_5_180)) (js_agV (av := [(0, z1)]) (st := []) rfl rfl js_o1 rfl) rfl rfl (by rw [ql_40]; exact Nat.le_of_ble_eq_true rfl) (Nat.le_of_ble_eq_true rfl) hd rfl hz
theorem b_84_103 {E : js_E} {d : Nat} {σ : js_S} {x1 x2 b : Int} (hb : b = 0 ∨ b = 25) : js_J E d 84 103 [(2, 23 + b), (0, x1), (0, x2), (9, 0)] [] σ = js_J E d 84 108 [(2, 23 + b), (0, x1), (0, x2), (9, 0)] [(0, 0), (2, 21 + b)] σ :=
  (j_aload_n q_84_103 rfl).trans <| (j_get (ji := 7) (v := (2, 21 + b)) q_84_104 (js_Fo qy_84 qf_5_48) (js_o23b hb) rfl rfl rfl rfl).trans <| (j_iconst q_84_107).trans <| rfl
theorem k_84_108 {E : js_E} {d : Nat} {σ σ2 : js_S} {x1 x2 z1 b : Int} (hb : b = 0 ∨ b = 25) {v : Int} (hd : 1 ≤ d) (hz : js_J E (d - 1) 41 0 [(2, 21 + b), (0, z1), (9, 0), (9, 0), (9, 0)] [] σ = js_r E (0, v) σ2) : js_J E d 84 108 [(2, 23 + b), (0, x1), (0, x2), (9, 0)] [(0, z1), (2, 21 + b)] σ = js_J E d 84 111 [(2, 23 + b), (0, x1), (0, x2), (9, 0)] [(0, v)] σ2 :=
  j_call (m := 3) (js_caV q_84_108 (js_Mo qy_84 qm_5_208)) (js_agV (av := [(0, z1)]) (st := []) rfl rfl (js_o21b hb) rfl) rfl rfl (by rw [ql_41]; exact Nat.le_of_ble_eq_true rfl) (Nat.le_of_ble_eq_true rfl) hd hz
theorem kt_84_108 {E : js_E} {d : Nat} {σ σ2 : js_S} {x1 x2 z1 b : Int} (hb : b = 0 ∨ b = 25) {w : Int} (hd : 1 ≤ d) (hz : js_J E (d - 1) 41 0 [(2, 21 + b), (0, z1), (9, 0), (9, 0), (9, 0)] [] σ = js_t E w σ2) : js_J E d 84 108 [(2, 23 + b), (0, x1), (0, x2), (9, 0)] [(0, z1), (2, 21 + b)] σ = js_t E w σ2 :=
  j_callT (m := 3) (js_caV q_84_108 (js_Mo qy_84 qm_5_208)) (js_agV (av := [(0, z1)]) (st := []) rfl rfl (js_o21b hb) rfl) rfl rfl (by rw [ql_41]; exact Nat.le_of_ble_eq_true rfl) (Nat.le_of_ble_eq_true rfl) hd rfl hz
theorem b_84_111 {E : js_E} {d : Nat} {σ : js_S} {x1 x2 z0 b : Int} (hb : b = 0 ∨ b = 25) : js_J E d 84 111 [(2, 23 + b), (0, x1), (0, x2), (9, 0)] [(0, z0)] σ = js_J E d 84 117 [(2, 23 + b), (0, x1), (0, x2), (0, z0)] [(0, x2), (2, 21 + b)] σ :=
  (j_istore_n (l2 := [(2, 23 + b), (0, x1), (0, x2), (0, z0)]) q_84_111 rfl (Nat.le_of_ble_eq_true rfl)).trans <| (j_aload_n q_84_112 rfl).trans <| (j_get (ji := 7) (v := (2, 21 + b)) q_84_113 (js_Fo qy_84 qf_5_48) (js_o23b hb) rfl rfl rfl rfl).trans <| (j_iload_n q_84_116 rfl).trans <| rfl
theorem k_84_117 {E : js_E} {d : Nat} {σ σ2 : js_S} {x1 x2 x3 z1 b : Int} (hb : b = 0 ∨ b = 25) (hd : 1 ≤ d) (hz : js_J E (d - 1) 50 0 [(2, 21 + b), (0, z1)] [] σ = js_r0 E σ2) : js_J E d 84 117 [(2, 23 + b), (0, x1), (0, x2), (0, x3)] [(0, z1), (2, 21 + b)] σ = js_J E d 84 120 [(2, 23 + b), (0, x1), (0, x2), (0, x3)] [] σ2 :=
  j_call0 (m := 0) (js_caV q_84_117 (js_Mo qy_84 qm_5_213)) (js_agV (av := [(0, z1)]) (st := []) rfl rfl (js_o21b hb) rfl) rfl rfl (by rw [ql_50]; exact Nat.le_of_ble_eq_true rfl) (Nat.le_of_ble_eq_true rfl) hd hz
theorem kt_84_117 {E : js_E} {d : Nat} {σ σ2 : js_S} {x1 x2 x3 z1 b : Int} (hb : b = 0 ∨ b = 25) {w : Int} (hd : 1 ≤ d) (hz : js_J E (d - 1) 50 0 [(2, 21 + b), (0, z1)] [] σ = js_t E w σ2) : js_J E d 84 117 [(2, 23 + b), (0, x1), (0, x2), (0, x3)] [(0, z1), (2, 21 + b)] σ = js_t E w σ2 :=
  j_callT (m := 0) (js_caV q_84_117 (js_Mo qy_84 qm_5_213)) (js_agV (av := [(0, z1)]) (st := []) rfl rfl (js_o21b hb) rfl) rfl rfl (by rw [ql_50]; exact Nat.le_of_ble_eq_true rfl) (Nat.le_of_ble_eq_true rfl) hd rfl hz
theorem b_84_120 {E : js_E} {d : Nat} {σ : js_S} {x1 x2 x3 b : Int} (hd : 4 ≤ d) (hb : b = 0 ∨ b = 25) : js_J E d 84 120 [(2, 23 + b), (0, x1), (0, x2), (0, x3)] [] σ = js_J E d 84 138 [(2, 23 + b), (0, x1), (0, x2), (0, x3)] [(0, if js_w x3 < js_w (σ (23 + b) 2) then x3 else (σ (23 + b) 2)), (0, if js_w x3 < js_w (σ (23 + b) 1) then x3 else (σ (23 + b) 1)), (0, 0), (2, 23 + b)] σ :=
  (j_aload_n q_84_120 rfl).trans <| (j_iconst q_84_121).trans <| (j_aload_n q_84_122 rfl).trans <| (j_get (ji := 1) (v := (0, σ (23 + b) 1)) q_84_123 (js_Fo qy_84 qf_5_94) (js_o23b hb) rfl rfl rfl rfl).trans <| (j_iload_n q_84_126 rfl).trans <| (j_min (js_clS q_84_127 (js_Mo qy_84 qm_5_183)) (Nat.le_of_ble_eq_true rfl) hd).trans <| (j_aload_n q_84_130 rfl).trans <| (j_get (ji := 2) (v := (0, σ (23 + b) 2)) q_84_131 (js_Fo qy_84 qf_5_97) (js_o23b hb) rfl rfl rfl rfl).trans <| (j_iload_n q_84_134 rfl).trans <| (j_min (js_clS q_84_135 (js_Mo qy_84 qm_5_183)) (Nat.le_of_ble_eq_true rfl) hd).trans <| rfl
theorem k_84_138 {E : js_E} {d : Nat} {σ σ2 : js_S} {x1 x2 x3 z1 z2 z3 b : Int} (hb : b = 0 ∨ b = 25) (hd : 1 ≤ d) (hz : js_J E (d - 1) 75 0 [(2, 23 + b), (0, z1), (0, z2), (0, z3)] [] σ = js_r0 E σ2) : js_J E d 84 138 [(2, 23 + b), (0, x1), (0, x2), (0, x3)] [(0, z3), (0, z2), (0, z1), (2, 23 + b)] σ = js_J E d 84 141 [(2, 23 + b), (0, x1), (0, x2), (0, x3)] [] σ2 :=
  j_call0 (m := 0) (js_caV q_84_138 (js_Mo qy_84 qm_5_147)) (js_agV (av := [(0, z1), (0, z2), (0, z3)]) (st := []) rfl rfl (js_o23b hb) rfl) rfl rfl (by rw [ql_75]; exact Nat.le_of_ble_eq_true rfl) (Nat.le_of_ble_eq_true rfl) hd hz
theorem kt_84_138 {E : js_E} {d : Nat} {σ σ2 : js_S} {x1 x2 x3 z1 z2 z3 b : Int} (hb : b = 0 ∨ b = 25) {w : Int} (hd : 1 ≤ d) (hz : js_J E (d - 1) 75 0 [(2, 23 + b), (0, z1), (0, z2), (0, z3)] [] σ = js_t E w σ2) : js_J E d 84 138 [(2, 23 + b), (0, x1), (0, x2), (0, x3)] [(0, z3), (0, z2), (0, z1), (2, 23 + b)] σ = js_t E w σ2 :=
  j_callT (m := 0) (js_caV q_84_138 (js_Mo qy_84 qm_5_147)) (js_agV (av := [(0, z1), (0, z2), (0, z3)]) (st := []) rfl rfl (js_o23b hb) rfl) rfl rfl (by rw [ql_75]; exact Nat.le_of_ble_eq_true rfl) (Nat.le_of_ble_eq_true rfl) hd rfl hz
theorem b_84_141 {E : js_E} {d : Nat} {σ : js_S} {x1 x2 x3 b : Int} (hb : b = 0 ∨ b = 25) : js_J E d 84 141 [(2, 23 + b), (0, x1), (0, x2), (0, x3)] [] σ = js_J E d 84 156 [(2, 23 + b), (0, x1), (0, x2), (0, x3)] [(0, σ (23 + b) 2), (0, σ (23 + b) 1), (0, x3), (0, 23), (2, 8 + b)] σ :=
  (j_aload_n q_84_141 rfl).trans <| (j_get (ji := 6) (v := (2, 8 + b)) q_84_142 (js_Fo qy_84 qf_5_47) (js_o23b hb) rfl rfl rfl rfl).trans <| (j_bi q_84_145 rfl).trans <| (j_iload_n q_84_147 rfl).trans <| (j_aload_n q_84_148 rfl).trans <| (j_get (ji := 1) (v := (0, σ (23 + b) 1)) q_84_149 (js_Fo qy_84 qf_5_94) (js_o23b hb) rfl rfl rfl rfl).trans <| (j_aload_n q_84_152 rfl).trans <| (j_get (ji := 2) (v := (0, σ (23 + b) 2)) q_84_153 (js_Fo qy_84 qf_5_97) (js_o23b hb) rfl rfl rfl rfl).trans <| rfl
theorem k_84_156 {E : js_E} {d : Nat} {σ σ2 : js_S} {x1 x2 x3 z1 z2 z3 z4 b : Int} (hb : b = 0 ∨ b = 25) (hd : 1 ≤ d) (hz : js_J E (d - 1) 59 0 [(2, 8 + b), (0, z1), (0, z2), (0, z3), (0, z4)] [] σ = js_r0 E σ2) : js_J E d 84 156 [(2, 23 + b), (0, x1), (0, x2), (0, x3)] [(0, z4), (0, z3), (0, z2), (0, z1), (2, 8 + b)] σ = js_J E d 84 159 [(2, 23 + b), (0, x1), (0, x2), (0, x3)] [] σ2 :=
  j_call0 (m := 0) (js_caV q_84_156 (js_Mo qy_84 qm_5_100)) (js_agV (av := [(0, z1), (0, z2), (0, z3), (0, z4)]) (st := []) rfl rfl (js_o8b hb) rfl) rfl rfl (by rw [ql_59]; exact Nat.le_of_ble_eq_true rfl) (Nat.le_of_ble_eq_true rfl) hd hz
theorem kt_84_156 {E : js_E} {d : Nat} {σ σ2 : js_S} {x1 x2 x3 z1 z2 z3 z4 b : Int} (hb : b = 0 ∨ b = 25) {w : Int} (hd : 1 ≤ d) (hz : js_J E (d - 1) 59 0 [(2, 8 + b), (0, z1), (0, z2), (0, z3), (0, z4)] [] σ = js_t E w σ2) : js_J E d 84 156 [(2, 23 + b), (0, x1), (0, x2), (0, x3)] [(0, z4), (0, z3), (0, z2), (0, z1), (2, 8 + b)] σ = js_t E w σ2 :=
  j_callT (m := 0) (js_caV q_84_156 (js_Mo qy_84 qm_5_100)) (js_agV (av := [(0, z1), (0, z2), (0, z3), (0, z4)]) (st := []) rfl rfl (js_o8b hb) rfl) rfl rfl (by rw [ql_59]; exact Nat.le_of_ble_eq_true rfl) (Nat.le_of_ble_eq_true rfl) hd rfl hz
theorem b_84_159 {E : js_E} {d : Nat} {σ : js_S} {x1 x2 x3 b : Int} (hb : b = 0 ∨ b = 25) : js_J E d 84 159 [(2, 23 + b), (0, x1), (0, x2), (0, x3)] [] σ = js_J E d 84 165 [(2, 23 + b), (0, x1), (0, x2), (0, x3)] [(0, 41), (2, 1)] σ :=
  (j_aload_n q_84_159 rfl).trans <| (j_get (ji := 4) (v := (2, 1)) q_84_160 (js_Fo qy_84 qf_5_33) (js_o23b hb) rfl rfl rfl rfl).trans <| (j_bi q_84_163 rfl).trans <| rfl
theorem k_84_165 {E : js_E} {d : Nat} {σ σ2 : js_S} {x1 x2 x3 z1 b : Int} (hd : 1 ≤ d) (hz : js_J E (d - 1) 48 0 [(2, 1), (0, z1)] [] σ = js_r0 E σ2) : js_J E d 84 165 [(2, 23 + b), (0, x1), (0, x2), (0, x3)] [(0, z1), (2, 1)] σ = js_J E d 84 168 [(2, 23 + b), (0, x1), (0, x2), (0, x3)] [] σ2 :=
  j_call0 (m := 0) (js_caV q_84_165 (js_Mo qy_84 qm_5_191)) (js_agV (av := [(0, z1)]) (st := []) rfl rfl js_o1 rfl) rfl rfl (by rw [ql_48]; exact Nat.le_of_ble_eq_true rfl) (Nat.le_of_ble_eq_true rfl) hd hz
theorem kt_84_165 {E : js_E} {d : Nat} {σ σ2 : js_S} {x1 x2 x3 z1 b : Int} {w : Int} (hd : 1 ≤ d) (hz : js_J E (d - 1) 48 0 [(2, 1), (0, z1)] [] σ = js_t E w σ2) : js_J E d 84 165 [(2, 23 + b), (0, x1), (0, x2), (0, x3)] [(0, z1), (2, 1)] σ = js_t E w σ2 :=
  j_callT (m := 0) (js_caV q_84_165 (js_Mo qy_84 qm_5_191)) (js_agV (av := [(0, z1)]) (st := []) rfl rfl js_o1 rfl) rfl rfl (by rw [ql_48]; exact Nat.le_of_ble_eq_true rfl) (Nat.le_of_ble_eq_true rfl) hd rfl hz
theorem b_84_168 {E : js_E} {d : Nat} {σ : js_S} {x1 x2 x3 b : Int} : js_J E d 84 168 [(2, 23 + b), (0, x1), (0, x2), (0, x3)] [] σ = js_r0 E σ :=
  j_return q_84_168 qr_84
-- 85: VitalTwin$Expressions.levelOfNext (I)I
theorem b_85_0 {E : js_E} {d : Nat} {σ : js_S} {x1 b : Int} (hb : b = 0 ∨ b = 25) : js_J E d 85 0 [(2, 23 + b), (0, x1), (9, 0), (9, 0)] [] σ = js_J E d 85 7 [(2, 23 + b), (0, x1), (9, 0), (9, 0)] [(0, σ 1 1)] σ :=
  (j_aload_n q_85_0 rfl).trans <| (j_get (ji := 4) (v := (2, 1)) q_85_1 (js_Fo qy_85 qf_5_33) (js_o23b hb) rfl rfl rfl rfl).trans <| (j_get (ji := 1) (v := (0, σ 1 1)) q_85_4 (js_Fo qy_85 qf_5_65) js_o1 rfl rfl rfl rfl).trans <| rfl
theorem k_85_7 {E : js_E} {d : Nat} {σ σ2 : js_S} {x1 z0 b : Int} {v : Int} (hd : 1 ≤ d) (hz : js_J E (d - 1) 86 0 [(0, z0)] [] σ = js_r E (0, v) σ2) : js_J E d 85 7 [(2, 23 + b), (0, x1), (9, 0), (9, 0)] [(0, z0)] σ = js_J E d 85 10 [(2, 23 + b), (0, x1), (9, 0), (9, 0)] [(0, v)] σ2 :=
  j_call (m := 0) (js_caS q_85_7 (js_Mo qy_85 qm_5_117)) (js_agS (av := [(0, z0)]) (st := []) rfl rfl) rfl rfl (by rw [ql_86]; exact Nat.le_of_ble_eq_true rfl) (Nat.le_of_ble_eq_true rfl) hd hz
theorem kt_85_7 {E : js_E} {d : Nat} {σ σ2 : js_S} {x1 z0 b : Int} {w : Int} (hd : 1 ≤ d) (hz : js_J E (d - 1) 86 0 [(0, z0)] [] σ = js_t E w σ2) : js_J E d 85 7 [(2, 23 + b), (0, x1), (9, 0), (9, 0)] [(0, z0)] σ = js_t E w σ2 :=
  j_callT (m := 0) (js_caS q_85_7 (js_Mo qy_85 qm_5_117)) (js_agS (av := [(0, z0)]) (st := []) rfl rfl) rfl rfl (by rw [ql_86]; exact Nat.le_of_ble_eq_true rfl) (Nat.le_of_ble_eq_true rfl) hd rfl hz
theorem b_85_10 {E : js_E} {d : Nat} {σ : js_S} {x1 z0 b : Int} : js_J E d 85 10 [(2, 23 + b), (0, x1), (9, 0), (9, 0)] [(0, z0)] σ = (if js_w z0 = 3 then js_J E d 85 18 [(2, 23 + b), (0, x1), (0, z0), (0, x1)] [] σ else js_r E (0, z0) σ) :=
  (j_istore_n (l2 := [(2, 23 + b), (0, x1), (0, z0), (9, 0)]) q_85_10 rfl (Nat.le_of_ble_eq_true rfl)).trans <| (j_iload_n q_85_11 rfl).trans <| (j_iconst q_85_12).trans <| (j_cmpneB (t := 44) q_85_13 rfl ww_3).trans (js_ite ((j_iload_n q_85_16 rfl).trans <| (j_istore_n (l2 := [(2, 23 + b), (0, x1), (0, z0), (0, x1)]) q_85_17 rfl (Nat.le_of_ble_eq_true rfl)).trans <| rfl) ((j_iload_n q_85_44 rfl).trans <| j_ireturn q_85_45 qr_85))
theorem b_85_18 {E : js_E} {d : Nat} {σ : js_S} {x1 x2 x3 b : Int} (hb : b = 0 ∨ b = 25) : js_J E d 85 18 [(2, 23 + b), (0, x1), (0, x2), (0, x3)] [] σ = (if js_w x3 < js_w (σ (23 + b) 15) then (if 0 ≤ js_w x3 ∧ js_w x3 < 512 then (if js_w (σ (25 + b) (js_w x3)) = 3 then js_r E (0, 0) σ else js_J E d 85 18 [(2, 23 + b), (0, x1), (0, x2), (0, x3 + 1)] [] σ) else none) else js_r E (0, x2) σ) :=
  (j_iload_n q_85_18 rfl).trans <| (j_aload_n q_85_19 rfl).trans <| (j_get (ji := 15) (v := (0, σ (23 + b) 15)) q_85_20 (js_Fo qy_85 qf_5_52) (js_o23b hb) rfl rfl rfl rfl).trans <| (j_cmpge (t := 44) q_85_23 rfl).trans (js_ite ((j_aload_n q_85_26 rfl).trans <| (j_get (ji := 9) (v := (2, 25 + b)) q_85_27 (js_Fo qy_85 qf_5_15) (js_o23b hb) rfl rfl rfl rfl).trans <| (j_iload_n q_85_30 rfl).trans <| (j_iaload q_85_31 (js_o25b hb)).trans <| js_itp fun g0 => (j_iconst q_85_32).trans <| (j_cmpneB (t := 38) q_85_33 rfl ww_3).trans (js_ite ((j_iconst q_85_36).trans <| j_ireturn q_85_37 qr_85) ((j_iinc (l2 := [(2, 23 + b), (0, x1), (0, x2), (0, x3 + 1)]) q_85_38 rfl rfl).trans <| (j_goto (t := 18) q_85_41 rfl).trans <| rfl))) ((j_iload_n q_85_44 rfl).trans <| j_ireturn q_85_45 qr_85))
-- 86: VitalTwin$Expressions.levelOf (I)I
theorem b_86_0 {E : js_E} {d : Nat} {σ : js_S} {x0 : Int} : js_J E d 86 0 [(0, x0)] [] σ = js_J E d 86 1 [(0, x0)] [(0, x0)] σ :=
  (j_iload_n q_86_0 rfl).trans <| rfl
theorem s_86_1_37 {E : js_E} {d : Nat} {σ : js_S} {x0 z0 : Int} (h : js_w z0 = 37) : js_J E d 86 1 [(0, x0)] [(0, z0)] σ = js_J E d 86 124 [(0, x0)] [] σ :=
  j_lsw (t := 124) q_86_1 (by rw [h]; rfl)
theorem s_86_1_42 {E : js_E} {d : Nat} {σ : js_S} {x0 z0 : Int} (h : js_w z0 = 42) : js_J E d 86 1 [(0, x0)] [(0, z0)] σ = js_J E d 86 124 [(0, x0)] [] σ :=
  j_lsw (t := 124) q_86_1 (by rw [h]; rfl)
theorem s_86_1_43 {E : js_E} {d : Nat} {σ : js_S} {x0 z0 : Int} (h : js_w z0 = 43) : js_J E d 86 1 [(0, x0)] [(0, z0)] σ = js_J E d 86 122 [(0, x0)] [] σ :=
  j_lsw (t := 122) q_86_1 (by rw [h]; rfl)
theorem s_86_1_45 {E : js_E} {d : Nat} {σ : js_S} {x0 z0 : Int} (h : js_w z0 = 45) : js_J E d 86 1 [(0, x0)] [(0, z0)] σ = js_J E d 86 122 [(0, x0)] [] σ :=
  j_lsw (t := 122) q_86_1 (by rw [h]; rfl)
theorem s_86_1_47 {E : js_E} {d : Nat} {σ : js_S} {x0 z0 : Int} (h : js_w z0 = 47) : js_J E d 86 1 [(0, x0)] [(0, z0)] σ = js_J E d 86 124 [(0, x0)] [] σ :=
  j_lsw (t := 124) q_86_1 (by rw [h]; rfl)
theorem s_86_1_60 {E : js_E} {d : Nat} {σ : js_S} {x0 z0 : Int} (h : js_w z0 = 60) : js_J E d 86 1 [(0, x0)] [(0, z0)] σ = js_J E d 86 120 [(0, x0)] [] σ :=
  j_lsw (t := 120) q_86_1 (by rw [h]; rfl)
theorem s_86_1_62 {E : js_E} {d : Nat} {σ : js_S} {x0 z0 : Int} (h : js_w z0 = 62) : js_J E d 86 1 [(0, x0)] [(0, z0)] σ = js_J E d 86 120 [(0, x0)] [] σ :=
  j_lsw (t := 120) q_86_1 (by rw [h]; rfl)
theorem s_86_1_129 {E : js_E} {d : Nat} {σ : js_S} {x0 z0 : Int} (h : js_w z0 = 129) : js_J E d 86 1 [(0, x0)] [(0, z0)] σ = js_J E d 86 120 [(0, x0)] [] σ :=
  j_lsw (t := 120) q_86_1 (by rw [h]; rfl)
theorem s_86_1_130 {E : js_E} {d : Nat} {σ : js_S} {x0 z0 : Int} (h : js_w z0 = 130) : js_J E d 86 1 [(0, x0)] [(0, z0)] σ = js_J E d 86 120 [(0, x0)] [] σ :=
  j_lsw (t := 120) q_86_1 (by rw [h]; rfl)
theorem s_86_1_131 {E : js_E} {d : Nat} {σ : js_S} {x0 z0 : Int} (h : js_w z0 = 131) : js_J E d 86 1 [(0, x0)] [(0, z0)] σ = js_J E d 86 120 [(0, x0)] [] σ :=
  j_lsw (t := 120) q_86_1 (by rw [h]; rfl)
theorem s_86_1_132 {E : js_E} {d : Nat} {σ : js_S} {x0 z0 : Int} (h : js_w z0 = 132) : js_J E d 86 1 [(0, x0)] [(0, z0)] σ = js_J E d 86 120 [(0, x0)] [] σ :=
  j_lsw (t := 120) q_86_1 (by rw [h]; rfl)
theorem s_86_1_133 {E : js_E} {d : Nat} {σ : js_S} {x0 z0 : Int} (h : js_w z0 = 133) : js_J E d 86 1 [(0, x0)] [(0, z0)] σ = js_J E d 86 118 [(0, x0)] [] σ :=
  j_lsw (t := 118) q_86_1 (by rw [h]; rfl)
theorem s_86_1_134 {E : js_E} {d : Nat} {σ : js_S} {x0 z0 : Int} (h : js_w z0 = 134) : js_J E d 86 1 [(0, x0)] [(0, z0)] σ = js_J E d 86 116 [(0, x0)] [] σ :=
  j_lsw (t := 116) q_86_1 (by rw [h]; rfl)
theorem s_86_1_d {E : js_E} {d : Nat} {σ : js_S} {x0 z0 : Int} (h : js_w z0 ≠ 37 ∧ js_w z0 ≠ 42 ∧ js_w z0 ≠ 43 ∧ js_w z0 ≠ 45 ∧ js_w z0 ≠ 47 ∧ js_w z0 ≠ 60 ∧ js_w z0 ≠ 62 ∧ js_w z0 ≠ 129 ∧ js_w z0 ≠ 130 ∧ js_w z0 ≠ 131 ∧ js_w z0 ≠ 132 ∧ js_w z0 ≠ 133 ∧ js_w z0 ≠ 134) : js_J E d 86 1 [(0, x0)] [(0, z0)] σ = js_J E d 86 126 [(0, x0)] [] σ :=
  j_lsw (t := 126) q_86_1 (by obtain ⟨h0, h1, h2, h3, h4, h5, h6, h7, h8, h9, h10, h11, h12⟩ := h; simp [Op.lookupswitch.offset, Ne.symm h0, Ne.symm h1, Ne.symm h2, Ne.symm h3, Ne.symm h4, Ne.symm h5, Ne.symm h6, Ne.symm h7, Ne.symm h8, Ne.symm h9, Ne.symm h10, Ne.symm h11, Ne.symm h12]; rfl)
theorem b_86_116 {E : js_E} {d : Nat} {σ : js_S} {x0 : Int} : js_J E d 86 116 [(0, x0)] [] σ = js_r E (0, 1) σ :=
  (j_iconst q_86_116).trans <| j_ireturn q_86_117 qr_86
theorem b_86_118 {E : js_E} {d : Nat} {σ : js_S} {x0 : Int} : js_J E d 86 118 [(0, x0)] [] σ = js_r E (0, 2) σ :=
  (j_iconst q_86_118).trans <| j_ireturn q_86_119 qr_86
theorem b_86_120 {E : js_E} {d : Nat} {σ : js_S} {x0 : Int} : js_J E d 86 120 [(0, x0)] [] σ = js_r E (0, 3) σ :=
  (j_iconst q_86_120).trans <| j_ireturn q_86_121 qr_86
theorem b_86_122 {E : js_E} {d : Nat} {σ : js_S} {x0 : Int} : js_J E d 86 122 [(0, x0)] [] σ = js_r E (0, 4) σ :=
  (j_iconst q_86_122).trans <| j_ireturn q_86_123 qr_86
theorem b_86_124 {E : js_E} {d : Nat} {σ : js_S} {x0 : Int} : js_J E d 86 124 [(0, x0)] [] σ = js_r E (0, 5) σ :=
  (j_iconst q_86_124).trans <| j_ireturn q_86_125 qr_86
theorem b_86_126 {E : js_E} {d : Nat} {σ : js_S} {x0 : Int} : js_J E d 86 126 [(0, x0)] [] σ = js_r E (0, 0) σ :=
  (j_iconst q_86_126).trans <| j_ireturn q_86_127 qr_86
-- 87: VitalTwin$Expressions.finish ()V
theorem b_87_0 {E : js_E} {d : Nat} {σ : js_S} {b : Int} (hb : b = 0 ∨ b = 25) : js_J E d 87 0 [(2, 23 + b), (9, 0), (9, 0)] [] σ = (if 0 ≤ js_w (σ (23 + b) 15) ∧ js_w (σ (23 + b) 15) < 512 then js_J E d 87 19 [(2, 23 + b), (0, σ (27 + b) (js_w (σ (23 + b) 15))), (9, 0)] [(0, σ (25 + b) (js_w (σ (23 + b) 15)))] σ else none) :=
  (j_aload_n q_87_0 rfl).trans <| (j_get (ji := 11) (v := (2, 27 + b)) q_87_1 (js_Fo qy_87 qf_5_21) (js_o23b hb) rfl rfl rfl rfl).trans <| (j_aload_n q_87_4 rfl).trans <| (j_get (ji := 15) (v := (0, σ (23 + b) 15)) q_87_5 (js_Fo qy_87 qf_5_52) (js_o23b hb) rfl rfl rfl rfl).trans <| (j_iaload q_87_8 (js_o27b hb)).trans <| js_itp fun g0 => (j_istore_n (l2 := [(2, 23 + b), (0, σ (27 + b) (js_w (σ (23 + b) 15))), (9, 0)]) q_87_9 rfl (Nat.le_of_ble_eq_true rfl)).trans <| (j_aload_n q_87_10 rfl).trans <| (j_get (ji := 9) (v := (2, 25 + b)) q_87_11 (js_Fo qy_87 qf_5_15) (js_o23b hb) rfl rfl rfl rfl).trans <| (j_aload_n q_87_14 rfl).trans <| (j_get (ji := 15) (v := (0, σ (23 + b) 15)) q_87_15 (js_Fo qy_87 qf_5_52) (js_o23b hb) rfl rfl rfl rfl).trans <| (j_iaload q_87_18 (js_o25b hb)).trans <| (if_pos g0).trans <| rfl
theorem s_87_19_1 {E : js_E} {d : Nat} {σ : js_S} {x1 z0 b : Int} (h : js_w z0 = 1) : js_J E d 87 19 [(2, 23 + b), (0, x1), (9, 0)] [(0, z0)] σ = js_J E d 87 116 [(2, 23 + b), (0, x1), (9, 0)] [] σ :=
  j_tsw (t := 116) (off := 97) q_87_19 (by rw [h]; decide) (by rw [h]; decide) (by rw [h]; rfl) rfl
theorem s_87_19_2 {E : js_E} {d : Nat} {σ : js_S} {x1 z0 b : Int} (h : js_w z0 = 2) : js_J E d 87 19 [(2, 23 + b), (0, x1), (9, 0)] [(0, z0)] σ = js_J E d 87 116 [(2, 23 + b), (0, x1), (9, 0)] [] σ :=
  j_tsw (t := 116) (off := 97) q_87_19 (by rw [h]; decide) (by rw [h]; decide) (by rw [h]; rfl) rfl
theorem s_87_19_3 {E : js_E} {d : Nat} {σ : js_S} {x1 z0 b : Int} (h : js_w z0 = 3) : js_J E d 87 19 [(2, 23 + b), (0, x1), (9, 0)] [(0, z0)] σ = js_J E d 87 141 [(2, 23 + b), (0, x1), (9, 0)] [] σ :=
  j_tsw (t := 141) (off := 122) q_87_19 (by rw [h]; decide) (by rw [h]; decide) (by rw [h]; rfl) rfl
theorem s_87_19_4 {E : js_E} {d : Nat} {σ : js_S} {x1 z0 b : Int} (h : js_w z0 = 4) : js_J E d 87 19 [(2, 23 + b), (0, x1), (9, 0)] [(0, z0)] σ = js_J E d 87 215 [(2, 23 + b), (0, x1), (9, 0)] [] σ :=
  j_tsw (t := 215) (off := 196) q_87_19 (by rw [h]; decide) (by rw [h]; decide) (by rw [h]; rfl) rfl
theorem s_87_19_5 {E : js_E} {d : Nat} {σ : js_S} {x1 z0 b : Int} (h : js_w z0 = 5) : js_J E d 87 19 [(2, 23 + b), (0, x1), (9, 0)] [(0, z0)] σ = js_J E d 87 215 [(2, 23 + b), (0, x1), (9, 0)] [] σ :=
  j_tsw (t := 215) (off := 196) q_87_19 (by rw [h]; decide) (by rw [h]; decide) (by rw [h]; rfl) rfl
theorem s_87_19_6 {E : js_E} {d : Nat} {σ : js_S} {x1 z0 b : Int} (h : js_w z0 = 6) : js_J E d 87 19 [(2, 23 + b), (0, x1), (9, 0)] [(0, z0)] σ = js_J E d 87 56 [(2, 23 + b), (0, x1), (9, 0)] [] σ :=
  j_tsw (t := 56) (off := 37) q_87_19 (by rw [h]; decide) (by rw [h]; decide) (by rw [h]; rfl) rfl
theorem s_87_19_d {E : js_E} {d : Nat} {σ : js_S} {x1 z0 b : Int} (h : js_w z0 < 1 ∨ 6 < js_w z0) : js_J E d 87 19 [(2, 23 + b), (0, x1), (9, 0)] [(0, z0)] σ = js_J E d 87 215 [(2, 23 + b), (0, x1), (9, 0)] [] σ :=
  j_tswd (t := 215) q_87_19 h rfl
theorem b_87_56 {E : js_E} {d : Nat} {σ : js_S} {x1 b : Int} (hb : b = 0 ∨ b = 25) : js_J E d 87 56 [(2, 23 + b), (0, x1), (9, 0)] [] σ = (if 0 ≤ js_w (σ (23 + b) 15) ∧ js_w (σ (23 + b) 15) < 512 then (if js_w (σ (24 + b) (js_w (σ (23 + b) 15))) = 45 then js_J E d 87 80 [(2, 23 + b), (0, x1), (9, 0)] [(0, 0), (0, σ (23 + b) 0), (2, 23 + b)] σ else js_J E d 87 80 [(2, 23 + b), (0, x1), (9, 0)] [(0, 1), (0, σ (23 + b) 0), (2, 23 + b)] σ) else none) :=
  (j_aload_n q_87_56 rfl).trans <| (j_aload_n q_87_57 rfl).trans <| (j_get (ji := 0) (v := (0, σ (23 + b) 0)) q_87_58 (js_Fo qy_87 qf_5_130) (js_o23b hb) rfl rfl rfl rfl).trans <| (j_aload_n q_87_61 rfl).trans <| (j_get (ji := 8) (v := (2, 24 + b)) q_87_62 (js_Fo qy_87 qf_5_11) (js_o23b hb) rfl rfl rfl rfl).trans <| (j_aload_n q_87_65 rfl).trans <| (j_get (ji := 15) (v := (0, σ (23 + b) 15)) q_87_66 (js_Fo qy_87 qf_5_52) (js_o23b hb) rfl rfl rfl rfl).trans <| (j_iaload q_87_69 (js_o24b hb)).trans <| js_itp fun g0 => (j_bi q_87_70 rfl).trans <| (j_cmpneB (t := 79) q_87_72 rfl ww_45).trans (js_ite ((j_iconst q_87_75).trans <| (j_goto (t := 80) q_87_76 rfl).trans <| rfl) ((j_iconst q_87_79).trans <| rfl))
theorem b_87_80 {E : js_E} {d : Nat} {σ : js_S} {x1 z1 z2 b : Int} : js_J E d 87 80 [(2, 23 + b), (0, x1), (9, 0)] [(0, z2), (0, z1), (2, 23 + b)] σ = (if js_w z1 = js_w z2 then js_J E d 87 88 [(2, 23 + b), (0, x1), (9, 0)] [(0, 1), (2, 23 + b)] σ else js_J E d 87 88 [(2, 23 + b), (0, x1), (9, 0)] [(0, 0), (2, 23 + b)] σ) :=
  (j_cmpne (t := 87) q_87_80 rfl).trans (js_ite ((j_iconst q_87_83).trans <| (j_goto (t := 88) q_87_84 rfl).trans <| rfl) ((j_iconst q_87_87).trans <| rfl))
theorem k_87_88 {E : js_E} {d : Nat} {σ σ2 : js_S} {x1 z1 b : Int} (hb : b = 0 ∨ b = 25) (hd : 1 ≤ d) (hz : js_J E (d - 1) 88 0 [(2, 23 + b), (0, z1)] [] σ = js_r0 E σ2) : js_J E d 87 88 [(2, 23 + b), (0, x1), (9, 0)] [(0, z1), (2, 23 + b)] σ = js_J E d 87 91 [(2, 23 + b), (0, x1), (9, 0)] [] σ2 :=
  j_call0 (m := 0) (js_caV q_87_88 (js_Mo qy_87 qm_5_143)) (js_agV (av := [(0, z1)]) (st := []) rfl rfl (js_o23b hb) rfl) rfl rfl (by rw [ql_88]; exact Nat.le_of_ble_eq_true rfl) (Nat.le_of_ble_eq_true rfl) hd hz
theorem kt_87_88 {E : js_E} {d : Nat} {σ σ2 : js_S} {x1 z1 b : Int} (hb : b = 0 ∨ b = 25) {w : Int} (hd : 1 ≤ d) (hz : js_J E (d - 1) 88 0 [(2, 23 + b), (0, z1)] [] σ = js_t E w σ2) : js_J E d 87 88 [(2, 23 + b), (0, x1), (9, 0)] [(0, z1), (2, 23 + b)] σ = js_t E w σ2 :=
  j_callT (m := 0) (js_caV q_87_88 (js_Mo qy_87 qm_5_143)) (js_agV (av := [(0, z1)]) (st := []) rfl rfl (js_o23b hb) rfl) rfl rfl (by rw [ql_88]; exact Nat.le_of_ble_eq_true rfl) (Nat.le_of_ble_eq_true rfl) hd rfl hz
theorem b_87_91 {E : js_E} {d : Nat} {σ : js_S} {x1 b : Int} (hb : b = 0 ∨ b = 25) : js_J E d 87 91 [(2, 23 + b), (0, x1), (9, 0)] [] σ = (if js_w (σ (23 + b) 0) = 0 then js_J E d 87 110 [(2, 23 + b), (0, x1), (9, 0)] [(0, -(σ (23 + b) 1)), (0, -(σ (23 + b) 2)), (0, 0), (2, 23 + b)] σ else js_J E d 87 268 [(2, 23 + b), (0, x1), (9, 0)] [] σ) :=
  (j_aload_n q_87_91 rfl).trans <| (j_get (ji := 0) (v := (0, σ (23 + b) 0)) q_87_92 (js_Fo qy_87 qf_5_130) (js_o23b hb) rfl rfl rfl rfl).trans <| (j_ifne (t := 268) q_87_95 rfl).trans (js_ite ((j_aload_n q_87_98 rfl).trans <| (j_iconst q_87_99).trans <| (j_aload_n q_87_100 rfl).trans <| (j_get (ji := 2) (v := (0, σ (23 + b) 2)) q_87_101 (js_Fo qy_87 qf_5_97) (js_o23b hb) rfl rfl rfl rfl).trans <| (j_ineg q_87_104).trans <| (j_aload_n q_87_105 rfl).trans <| (j_get (ji := 1) (v := (0, σ (23 + b) 1)) q_87_106 (js_Fo qy_87 qf_5_94) (js_o23b hb) rfl rfl rfl rfl).trans <| (j_ineg q_87_109).trans <| rfl) (rfl))
theorem k_87_110 {E : js_E} {d : Nat} {σ σ2 : js_S} {x1 z1 z2 z3 b : Int} (hb : b = 0 ∨ b = 25) (hd : 1 ≤ d) (hz : js_J E (d - 1) 75 0 [(2, 23 + b), (0, z1), (0, z2), (0, z3)] [] σ = js_r0 E σ2) : js_J E d 87 110 [(2, 23 + b), (0, x1), (9, 0)] [(0, z3), (0, z2), (0, z1), (2, 23 + b)] σ = js_J E d 87 113 [(2, 23 + b), (0, x1), (9, 0)] [] σ2 :=
  j_call0 (m := 0) (js_caV q_87_110 (js_Mo qy_87 qm_5_147)) (js_agV (av := [(0, z1), (0, z2), (0, z3)]) (st := []) rfl rfl (js_o23b hb) rfl) rfl rfl (by rw [ql_75]; exact Nat.le_of_ble_eq_true rfl) (Nat.le_of_ble_eq_true rfl) hd hz
theorem kt_87_110 {E : js_E} {d : Nat} {σ σ2 : js_S} {x1 z1 z2 z3 b : Int} (hb : b = 0 ∨ b = 25) {w : Int} (hd : 1 ≤ d) (hz : js_J E (d - 1) 75 0 [(2, 23 + b), (0, z1), (0, z2), (0, z3)] [] σ = js_t E w σ2) : js_J E d 87 110 [(2, 23 + b), (0, x1), (9, 0)] [(0, z3), (0, z2), (0, z1), (2, 23 + b)] σ = js_t E w σ2 :=
  j_callT (m := 0) (js_caV q_87_110 (js_Mo qy_87 qm_5_147)) (js_agV (av := [(0, z1), (0, z2), (0, z3)]) (st := []) rfl rfl (js_o23b hb) rfl) rfl rfl (by rw [ql_75]; exact Nat.le_of_ble_eq_true rfl) (Nat.le_of_ble_eq_true rfl) hd rfl hz
theorem b_87_113 {E : js_E} {d : Nat} {σ : js_S} {x1 b : Int} : js_J E d 87 113 [(2, 23 + b), (0, x1), (9, 0)] [] σ = js_J E d 87 268 [(2, 23 + b), (0, x1), (9, 0)] [] σ :=
  (j_goto (t := 268) q_87_113 rfl).trans <| rfl
theorem b_87_116 {E : js_E} {d : Nat} {σ : js_S} {x1 b : Int} (hb : b = 0 ∨ b = 25) : js_J E d 87 116 [(2, 23 + b), (0, x1), (9, 0)] [] σ = (if js_w x1 = 1 then (if js_w (σ (23 + b) 0) = 1 then js_J E d 87 135 [(2, 23 + b), (0, x1), (9, 0)] [(0, 1), (2, 23 + b)] σ else js_J E d 87 134 [(2, 23 + b), (0, x1), (9, 0)] [(2, 23 + b)] σ) else js_J E d 87 134 [(2, 23 + b), (0, x1), (9, 0)] [(2, 23 + b)] σ) :=
  (j_aload_n q_87_116 rfl).trans <| (j_iload_n q_87_117 rfl).trans <| (j_iconst q_87_118).trans <| (j_cmpneB (t := 134) q_87_119 rfl ww_1).trans (js_ite ((j_aload_n q_87_122 rfl).trans <| (j_get (ji := 0) (v := (0, σ (23 + b) 0)) q_87_123 (js_Fo qy_87 qf_5_130) (js_o23b hb) rfl rfl rfl rfl).trans <| (j_iconst q_87_126).trans <| (j_cmpneB (t := 134) q_87_127 rfl ww_1).trans (js_ite ((j_iconst q_87_130).trans <| (j_goto (t := 135) q_87_131 rfl).trans <| rfl) (rfl))) (rfl))
theorem b_87_134 {E : js_E} {d : Nat} {σ : js_S} {x1 b : Int} : js_J E d 87 134 [(2, 23 + b), (0, x1), (9, 0)] [(2, 23 + b)] σ = js_J E d 87 135 [(2, 23 + b), (0, x1), (9, 0)] [(0, 0), (2, 23 + b)] σ :=
  (j_iconst q_87_134).trans <| rfl
theorem k_87_135 {E : js_E} {d : Nat} {σ σ2 : js_S} {x1 z1 b : Int} (hb : b = 0 ∨ b = 25) (hd : 1 ≤ d) (hz : js_J E (d - 1) 88 0 [(2, 23 + b), (0, z1)] [] σ = js_r0 E σ2) : js_J E d 87 135 [(2, 23 + b), (0, x1), (9, 0)] [(0, z1), (2, 23 + b)] σ = js_J E d 87 138 [(2, 23 + b), (0, x1), (9, 0)] [] σ2 :=
  j_call0 (m := 0) (js_caV q_87_135 (js_Mo qy_87 qm_5_143)) (js_agV (av := [(0, z1)]) (st := []) rfl rfl (js_o23b hb) rfl) rfl rfl (by rw [ql_88]; exact Nat.le_of_ble_eq_true rfl) (Nat.le_of_ble_eq_true rfl) hd hz
theorem kt_87_135 {E : js_E} {d : Nat} {σ σ2 : js_S} {x1 z1 b : Int} (hb : b = 0 ∨ b = 25) {w : Int} (hd : 1 ≤ d) (hz : js_J E (d - 1) 88 0 [(2, 23 + b), (0, z1)] [] σ = js_t E w σ2) : js_J E d 87 135 [(2, 23 + b), (0, x1), (9, 0)] [(0, z1), (2, 23 + b)] σ = js_t E w σ2 :=
  j_callT (m := 0) (js_caV q_87_135 (js_Mo qy_87 qm_5_143)) (js_agV (av := [(0, z1)]) (st := []) rfl rfl (js_o23b hb) rfl) rfl rfl (by rw [ql_88]; exact Nat.le_of_ble_eq_true rfl) (Nat.le_of_ble_eq_true rfl) hd rfl hz
theorem b_87_138 {E : js_E} {d : Nat} {σ : js_S} {x1 b : Int} : js_J E d 87 138 [(2, 23 + b), (0, x1), (9, 0)] [] σ = js_J E d 87 268 [(2, 23 + b), (0, x1), (9, 0)] [] σ :=
  (j_goto (t := 268) q_87_138 rfl).trans <| rfl
theorem b_87_141 {E : js_E} {d : Nat} {σ : js_S} {x1 b : Int} (hb : b = 0 ∨ b = 25) : js_J E d 87 141 [(2, 23 + b), (0, x1), (9, 0)] [] σ = (if 0 ≤ js_w (σ (23 + b) 15) ∧ js_w (σ (23 + b) 15) < 512 then (if js_w (σ (24 + b) (js_w (σ (23 + b) 15))) = 131 then js_J E d 87 171 [(2, 23 + b), (0, x1), (9, 0)] [] σ else (if js_w (σ (24 + b) (js_w (σ (23 + b) 15))) = 132 then js_J E d 87 171 [(2, 23 + b), (0, x1), (9, 0)] [] σ else js_J E d 87 176 [(2, 23 + b), (0, x1), (9, 0)] [(0, 0)] σ)) else none) :=
  (j_aload_n q_87_141 rfl).trans <| (j_get (ji := 8) (v := (2, 24 + b)) q_87_142 (js_Fo qy_87 qf_5_11) (js_o23b hb) rfl rfl rfl rfl).trans <| (j_aload_n q_87_145 rfl).trans <| (j_get (ji := 15) (v := (0, σ (23 + b) 15)) q_87_146 (js_Fo qy_87 qf_5_52) (js_o23b hb) rfl rfl rfl rfl).trans <| (j_iaload q_87_149 (js_o24b hb)).trans <| js_itp fun g0 => (j_si q_87_150 rfl).trans <| (j_cmpeqB (t := 171) q_87_153 rfl ww_131).trans (js_ite (rfl) ((j_aload_n q_87_156 rfl).trans <| (j_get (ji := 8) (v := (2, 24 + b)) q_87_157 (js_Fo qy_87 qf_5_11) (js_o23b hb) rfl rfl rfl rfl).trans <| (j_aload_n q_87_160 rfl).trans <| (j_get (ji := 15) (v := (0, σ (23 + b) 15)) q_87_161 (js_Fo qy_87 qf_5_52) (js_o23b hb) rfl rfl rfl rfl).trans <| (j_iaload q_87_164 (js_o24b hb)).trans <| (if_pos g0).trans <| (j_si q_87_165 rfl).trans <| (j_cmpneB (t := 175) q_87_168 rfl ww_132).trans (js_ite (rfl) ((j_iconst q_87_175).trans <| rfl))))
theorem b_87_171 {E : js_E} {d : Nat} {σ : js_S} {x1 b : Int} : js_J E d 87 171 [(2, 23 + b), (0, x1), (9, 0)] [] σ = js_J E d 87 176 [(2, 23 + b), (0, x1), (9, 0)] [(0, 1)] σ :=
  (j_iconst q_87_171).trans <| (j_goto (t := 176) q_87_172 rfl).trans <| rfl
theorem b_87_176 {E : js_E} {d : Nat} {σ : js_S} {x1 z0 b : Int} (hb : b = 0 ∨ b = 25) : js_J E d 87 176 [(2, 23 + b), (0, x1), (9, 0)] [(0, z0)] σ = (if js_w x1 = js_w (σ (23 + b) 0) then (if js_w z0 = 0 then (if js_w (σ (23 + b) 0) = 0 then js_J E d 87 197 [(2, 23 + b), (0, x1), (0, z0)] [(2, 23 + b)] σ else js_J E d 87 201 [(2, 23 + b), (0, x1), (0, z0)] [(2, 23 + b)] σ) else js_J E d 87 197 [(2, 23 + b), (0, x1), (0, z0)] [(2, 23 + b)] σ) else js_J E d 87 201 [(2, 23 + b), (0, x1), (0, z0)] [(2, 23 + b)] σ) :=
  (j_istore_n (l2 := [(2, 23 + b), (0, x1), (0, z0)]) q_87_176 rfl (Nat.le_of_ble_eq_true rfl)).trans <| (j_aload_n q_87_177 rfl).trans <| (j_iload_n q_87_178 rfl).trans <| (j_aload_n q_87_179 rfl).trans <| (j_get (ji := 0) (v := (0, σ (23 + b) 0)) q_87_180 (js_Fo qy_87 qf_5_130) (js_o23b hb) rfl rfl rfl rfl).trans <| (j_cmpne (t := 201) q_87_183 rfl).trans (js_ite ((j_iload_n q_87_186 rfl).trans <| (j_ifne (t := 197) q_87_187 rfl).trans (js_ite ((j_aload_n q_87_190 rfl).trans <| (j_get (ji := 0) (v := (0, σ (23 + b) 0)) q_87_191 (js_Fo qy_87 qf_5_130) (js_o23b hb) rfl rfl rfl rfl).trans <| (j_ifne (t := 201) q_87_194 rfl).trans (js_ite (rfl) (rfl))) (rfl))) (rfl))
theorem b_87_197 {E : js_E} {d : Nat} {σ : js_S} {x1 x2 b : Int} : js_J E d 87 197 [(2, 23 + b), (0, x1), (0, x2)] [(2, 23 + b)] σ = js_J E d 87 202 [(2, 23 + b), (0, x1), (0, x2)] [(0, 1), (2, 23 + b)] σ :=
  (j_iconst q_87_197).trans <| (j_goto (t := 202) q_87_198 rfl).trans <| rfl
theorem b_87_201 {E : js_E} {d : Nat} {σ : js_S} {x1 x2 b : Int} : js_J E d 87 201 [(2, 23 + b), (0, x1), (0, x2)] [(2, 23 + b)] σ = js_J E d 87 202 [(2, 23 + b), (0, x1), (0, x2)] [(0, 0), (2, 23 + b)] σ :=
  (j_iconst q_87_201).trans <| rfl
theorem k_87_202 {E : js_E} {d : Nat} {σ σ2 : js_S} {x1 x2 z1 b : Int} (hb : b = 0 ∨ b = 25) (hd : 1 ≤ d) (hz : js_J E (d - 1) 88 0 [(2, 23 + b), (0, z1)] [] σ = js_r0 E σ2) : js_J E d 87 202 [(2, 23 + b), (0, x1), (0, x2)] [(0, z1), (2, 23 + b)] σ = js_J E d 87 205 [(2, 23 + b), (0, x1), (0, x2)] [] σ2 :=
  j_call0 (m := 0) (js_caV q_87_202 (js_Mo qy_87 qm_5_143)) (js_agV (av := [(0, z1)]) (st := []) rfl rfl (js_o23b hb) rfl) rfl rfl (by rw [ql_88]; exact Nat.le_of_ble_eq_true rfl) (Nat.le_of_ble_eq_true rfl) hd hz
theorem kt_87_202 {E : js_E} {d : Nat} {σ σ2 : js_S} {x1 x2 z1 b : Int} (hb : b = 0 ∨ b = 25) {w : Int} (hd : 1 ≤ d) (hz : js_J E (d - 1) 88 0 [(2, 23 + b), (0, z1)] [] σ = js_t E w σ2) : js_J E d 87 202 [(2, 23 + b), (0, x1), (0, x2)] [(0, z1), (2, 23 + b)] σ = js_t E w σ2 :=
  j_callT (m := 0) (js_caV q_87_202 (js_Mo qy_87 qm_5_143)) (js_agV (av := [(0, z1)]) (st := []) rfl rfl (js_o23b hb) rfl) rfl rfl (by rw [ql_88]; exact Nat.le_of_ble_eq_true rfl) (Nat.le_of_ble_eq_true rfl) hd rfl hz
theorem b_87_205 {E : js_E} {d : Nat} {σ : js_S} {x1 x2 b : Int} : js_J E d 87 205 [(2, 23 + b), (0, x1), (0, x2)] [] σ = js_J E d 87 209 [(2, 23 + b), (0, x1), (0, x2)] [(0, 1), (0, 0), (0, 1), (2, 23 + b)] σ :=
  (j_aload_n q_87_205 rfl).trans <| (j_iconst q_87_206).trans <| (j_iconst q_87_207).trans <| (j_iconst q_87_208).trans <| rfl
theorem k_87_209 {E : js_E} {d : Nat} {σ σ2 : js_S} {x1 x2 z1 z2 z3 b : Int} (hb : b = 0 ∨ b = 25) (hd : 1 ≤ d) (hz : js_J E (d - 1) 75 0 [(2, 23 + b), (0, z1), (0, z2), (0, z3)] [] σ = js_r0 E σ2) : js_J E d 87 209 [(2, 23 + b), (0, x1), (0, x2)] [(0, z3), (0, z2), (0, z1), (2, 23 + b)] σ = js_J E d 87 212 [(2, 23 + b), (0, x1), (0, x2)] [] σ2 :=
  j_call0 (m := 0) (js_caV q_87_209 (js_Mo qy_87 qm_5_147)) (js_agV (av := [(0, z1), (0, z2), (0, z3)]) (st := []) rfl rfl (js_o23b hb) rfl) rfl rfl (by rw [ql_75]; exact Nat.le_of_ble_eq_true rfl) (Nat.le_of_ble_eq_true rfl) hd hz
theorem kt_87_209 {E : js_E} {d : Nat} {σ σ2 : js_S} {x1 x2 z1 z2 z3 b : Int} (hb : b = 0 ∨ b = 25) {w : Int} (hd : 1 ≤ d) (hz : js_J E (d - 1) 75 0 [(2, 23 + b), (0, z1), (0, z2), (0, z3)] [] σ = js_t E w σ2) : js_J E d 87 209 [(2, 23 + b), (0, x1), (0, x2)] [(0, z3), (0, z2), (0, z1), (2, 23 + b)] σ = js_t E w σ2 :=
  j_callT (m := 0) (js_caV q_87_209 (js_Mo qy_87 qm_5_147)) (js_agV (av := [(0, z1), (0, z2), (0, z3)]) (st := []) rfl rfl (js_o23b hb) rfl) rfl rfl (by rw [ql_75]; exact Nat.le_of_ble_eq_true rfl) (Nat.le_of_ble_eq_true rfl) hd rfl hz
theorem b_87_212 {E : js_E} {d : Nat} {σ : js_S} {x1 x2 b : Int} : js_J E d 87 212 [(2, 23 + b), (0, x1), (0, x2)] [] σ = js_J E d 87 268 [(2, 23 + b), (0, x1), (0, x2)] [] σ :=
  (j_goto (t := 268) q_87_212 rfl).trans <| rfl
theorem b_87_215 {E : js_E} {d : Nat} {σ : js_S} {x1 b : Int} (hb : b = 0 ∨ b = 25) : js_J E d 87 215 [(2, 23 + b), (0, x1), (9, 0)] [] σ = (if js_w x1 = 0 then (if js_w (σ (23 + b) 0) = 0 then js_J E d 87 232 [(2, 23 + b), (0, x1), (9, 0)] [(0, 1), (2, 23 + b)] σ else js_J E d 87 231 [(2, 23 + b), (0, x1), (9, 0)] [(2, 23 + b)] σ) else js_J E d 87 231 [(2, 23 + b), (0, x1), (9, 0)] [(2, 23 + b)] σ) :=
  (j_aload_n q_87_215 rfl).trans <| (j_iload_n q_87_216 rfl).trans <| (j_ifne (t := 231) q_87_217 rfl).trans (js_ite ((j_aload_n q_87_220 rfl).trans <| (j_get (ji := 0) (v := (0, σ (23 + b) 0)) q_87_221 (js_Fo qy_87 qf_5_130) (js_o23b hb) rfl rfl rfl rfl).trans <| (j_ifne (t := 231) q_87_224 rfl).trans (js_ite ((j_iconst q_87_227).trans <| (j_goto (t := 232) q_87_228 rfl).trans <| rfl) (rfl))) (rfl))
theorem b_87_231 {E : js_E} {d : Nat} {σ : js_S} {x1 b : Int} : js_J E d 87 231 [(2, 23 + b), (0, x1), (9, 0)] [(2, 23 + b)] σ = js_J E d 87 232 [(2, 23 + b), (0, x1), (9, 0)] [(0, 0), (2, 23 + b)] σ :=
  (j_iconst q_87_231).trans <| rfl
theorem k_87_232 {E : js_E} {d : Nat} {σ σ2 : js_S} {x1 z1 b : Int} (hb : b = 0 ∨ b = 25) (hd : 1 ≤ d) (hz : js_J E (d - 1) 88 0 [(2, 23 + b), (0, z1)] [] σ = js_r0 E σ2) : js_J E d 87 232 [(2, 23 + b), (0, x1), (9, 0)] [(0, z1), (2, 23 + b)] σ = js_J E d 87 235 [(2, 23 + b), (0, x1), (9, 0)] [] σ2 :=
  j_call0 (m := 0) (js_caV q_87_232 (js_Mo qy_87 qm_5_143)) (js_agV (av := [(0, z1)]) (st := []) rfl rfl (js_o23b hb) rfl) rfl rfl (by rw [ql_88]; exact Nat.le_of_ble_eq_true rfl) (Nat.le_of_ble_eq_true rfl) hd hz
theorem kt_87_232 {E : js_E} {d : Nat} {σ σ2 : js_S} {x1 z1 b : Int} (hb : b = 0 ∨ b = 25) {w : Int} (hd : 1 ≤ d) (hz : js_J E (d - 1) 88 0 [(2, 23 + b), (0, z1)] [] σ = js_t E w σ2) : js_J E d 87 232 [(2, 23 + b), (0, x1), (9, 0)] [(0, z1), (2, 23 + b)] σ = js_t E w σ2 :=
  j_callT (m := 0) (js_caV q_87_232 (js_Mo qy_87 qm_5_143)) (js_agV (av := [(0, z1)]) (st := []) rfl rfl (js_o23b hb) rfl) rfl rfl (by rw [ql_88]; exact Nat.le_of_ble_eq_true rfl) (Nat.le_of_ble_eq_true rfl) hd rfl hz
theorem b_87_235 {E : js_E} {d : Nat} {σ : js_S} {x1 b : Int} (hb : b = 0 ∨ b = 25) : js_J E d 87 235 [(2, 23 + b), (0, x1), (9, 0)] [] σ = (if 0 ≤ js_w (σ (23 + b) 15) ∧ js_w (σ (23 + b) 15) < 512 then js_J E d 87 265 [(2, 23 + b), (0, x1), (9, 0)] [(1, js_w (σ (29 + b) (js_w (σ (23 + b) 15)))), (1, js_w (σ (28 + b) (js_w (σ (23 + b) 15)))), (0, σ (24 + b) (js_w (σ (23 + b) 15))), (2, 23 + b)] σ else none) :=
  (j_aload_n q_87_235 rfl).trans <| (j_aload_n q_87_236 rfl).trans <| (j_get (ji := 8) (v := (2, 24 + b)) q_87_237 (js_Fo qy_87 qf_5_11) (js_o23b hb) rfl rfl rfl rfl).trans <| (j_aload_n q_87_240 rfl).trans <| (j_get (ji := 15) (v := (0, σ (23 + b) 15)) q_87_241 (js_Fo qy_87 qf_5_52) (js_o23b hb) rfl rfl rfl rfl).trans <| (j_iaload q_87_244 (js_o24b hb)).trans <| js_itp fun g0 => (j_aload_n q_87_245 rfl).trans <| (j_get (ji := 12) (v := (2, 28 + b)) q_87_246 (js_Fo qy_87 qf_5_24) (js_o23b hb) rfl rfl rfl rfl).trans <| (j_aload_n q_87_249 rfl).trans <| (j_get (ji := 15) (v := (0, σ (23 + b) 15)) q_87_250 (js_Fo qy_87 qf_5_52) (js_o23b hb) rfl rfl rfl rfl).trans <| (j_iaload q_87_253 (js_o28b hb)).trans <| (if_pos g0).trans <| (j_i2l q_87_254).trans <| (j_aload_n q_87_255 rfl).trans <| (j_get (ji := 13) (v := (2, 29 + b)) q_87_256 (js_Fo qy_87 qf_5_27) (js_o23b hb) rfl rfl rfl rfl).trans <| (j_aload_n q_87_259 rfl).trans <| (j_get (ji := 15) (v := (0, σ (23 + b) 15)) q_87_260 (js_Fo qy_87 qf_5_52) (js_o23b hb) rfl rfl rfl rfl).trans <| (j_iaload q_87_263 (js_o29b hb)).trans <| (if_pos g0).trans <| (j_i2l q_87_264).trans <| rfl
theorem k_87_265 {E : js_E} {d : Nat} {σ σ2 : js_S} {x1 z1 z2 z3 b : Int} (hb : b = 0 ∨ b = 25) (hd : 1 ≤ d) (hz : js_J E (d - 1) 89 0 [(2, 23 + b), (0, z1), (1, z2), (9, 0), (1, z3), (9, 0), (9, 0), (9, 0), (9, 0), (9, 0), (9, 0), (9, 0), (9, 0), (9, 0), (9, 0), (9, 0), (9, 0), (9, 0), (9, 0), (9, 0)] [] σ = js_r0 E σ2) : js_J E d 87 265 [(2, 23 + b), (0, x1), (9, 0)] [(1, z3), (1, z2), (0, z1), (2, 23 + b)] σ = js_J E d 87 268 [(2, 23 + b), (0, x1), (9, 0)] [] σ2 :=
  j_call0 (m := 14) (js_caV q_87_265 (js_Mo qy_87 qm_5_149)) (js_agV (av := [(0, z1), (1, z2), (1, z3)]) (st := []) rfl rfl (js_o23b hb) rfl) rfl rfl (by rw [ql_89]; exact Nat.le_of_ble_eq_true rfl) (Nat.le_of_ble_eq_true rfl) hd hz
theorem kt_87_265 {E : js_E} {d : Nat} {σ σ2 : js_S} {x1 z1 z2 z3 b : Int} (hb : b = 0 ∨ b = 25) {w : Int} (hd : 1 ≤ d) (hz : js_J E (d - 1) 89 0 [(2, 23 + b), (0, z1), (1, z2), (9, 0), (1, z3), (9, 0), (9, 0), (9, 0), (9, 0), (9, 0), (9, 0), (9, 0), (9, 0), (9, 0), (9, 0), (9, 0), (9, 0), (9, 0), (9, 0), (9, 0)] [] σ = js_t E w σ2) : js_J E d 87 265 [(2, 23 + b), (0, x1), (9, 0)] [(1, z3), (1, z2), (0, z1), (2, 23 + b)] σ = js_t E w σ2 :=
  j_callT (m := 14) (js_caV q_87_265 (js_Mo qy_87 qm_5_149)) (js_agV (av := [(0, z1), (1, z2), (1, z3)]) (st := []) rfl rfl (js_o23b hb) rfl) rfl rfl (by rw [ql_89]; exact Nat.le_of_ble_eq_true rfl) (Nat.le_of_ble_eq_true rfl) hd rfl hz
theorem b_87_268 {E : js_E} {d : Nat} {σ : js_S} {x1 b : Int} {ux2 : js_v} : js_J E d 87 268 [(2, 23 + b), (0, x1), ux2] [] σ = js_r0 E σ :=
  j_return q_87_268 qr_87
-- 88: VitalTwin$Expressions.askType (Z)V
theorem b_88_0 {E : js_E} {d : Nat} {σ : js_S} {x1 b : Int} (hb : b = 0 ∨ b = 25) : js_J E d 88 0 [(2, 23 + b), (0, x1)] [] σ = (if js_w x1 = 0 then (if 0 ≤ js_w (σ (23 + b) 15) ∧ js_w (σ (23 + b) 15) < 512 then js_J E d 88 18 [(2, 23 + b), (0, x1)] [(0, σ (26 + b) (js_w (σ (23 + b) 15))), (0, 5), (2, 1)] σ else none) else js_J E d 88 21 [(2, 23 + b), (0, x1)] [] σ) :=
  (j_iload_n q_88_0 rfl).trans <| (j_ifne (t := 21) q_88_1 rfl).trans (js_ite ((j_aload_n q_88_4 rfl).trans <| (j_get (ji := 4) (v := (2, 1)) q_88_5 (js_Fo qy_88 qf_5_33) (js_o23b hb) rfl rfl rfl rfl).trans <| (j_iconst q_88_8).trans <| (j_aload_n q_88_9 rfl).trans <| (j_get (ji := 10) (v := (2, 26 + b)) q_88_10 (js_Fo qy_88 qf_5_18) (js_o23b hb) rfl rfl rfl rfl).trans <| (j_aload_n q_88_13 rfl).trans <| (j_get (ji := 15) (v := (0, σ (23 + b) 15)) q_88_14 (js_Fo qy_88 qf_5_52) (js_o23b hb) rfl rfl rfl rfl).trans <| (j_iaload q_88_17 (js_o26b hb)).trans <| js_itp fun g0 => rfl) (rfl))
theorem k_88_18 {E : js_E} {d : Nat} {σ σ2 : js_S} {x1 z1 z2 b : Int} (hd : 1 ≤ d) (hz : js_J E (d - 1) 36 0 [(2, 1), (0, z1), (0, z2)] [] σ = js_r0 E σ2) : js_J E d 88 18 [(2, 23 + b), (0, x1)] [(0, z2), (0, z1), (2, 1)] σ = js_J E d 88 21 [(2, 23 + b), (0, x1)] [] σ2 :=
  j_call0 (m := 0) (js_caV q_88_18 (js_Mo qy_88 qm_5_127)) (js_agV (av := [(0, z1), (0, z2)]) (st := []) rfl rfl js_o1 rfl) rfl rfl (by rw [ql_36]; exact Nat.le_of_ble_eq_true rfl) (Nat.le_of_ble_eq_true rfl) hd hz
theorem kt_88_18 {E : js_E} {d : Nat} {σ σ2 : js_S} {x1 z1 z2 b : Int} {w : Int} (hd : 1 ≤ d) (hz : js_J E (d - 1) 36 0 [(2, 1), (0, z1), (0, z2)] [] σ = js_t E w σ2) : js_J E d 88 18 [(2, 23 + b), (0, x1)] [(0, z2), (0, z1), (2, 1)] σ = js_t E w σ2 :=
  j_callT (m := 0) (js_caV q_88_18 (js_Mo qy_88 qm_5_127)) (js_agV (av := [(0, z1), (0, z2)]) (st := []) rfl rfl js_o1 rfl) rfl rfl (by rw [ql_36]; exact Nat.le_of_ble_eq_true rfl) (Nat.le_of_ble_eq_true rfl) hd rfl hz
theorem b_88_21 {E : js_E} {d : Nat} {σ : js_S} {x1 b : Int} : js_J E d 88 21 [(2, 23 + b), (0, x1)] [] σ = js_r0 E σ :=
  j_return q_88_21 qr_88
