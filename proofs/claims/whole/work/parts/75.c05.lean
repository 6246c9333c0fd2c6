/-! part 75.c05: block equations of the class's (and the law's helpers') methods 89 to 103 (printed by wip/whole/tools/gen71.py) -/
theorem qy_90 : vt_O 90 = 5 := by decide +kernel
theorem qr_90 : vt_rc.getD 90 0 = 3 := by decide +kernel
theorem ql_90 : vt_ml.getD 90 0 = 5 := by decide +kernel
theorem qy_92 : vt_O 92 = 1 := by decide +kernel
theorem qr_92 : vt_rc.getD 92 0 = 2 := by decide +kernel
theorem ql_92 : vt_ml.getD 92 0 = 2 := by decide +kernel
theorem qy_100 : vt_O 100 = 10 := by decide +kernel
theorem qr_100 : vt_rc.getD 100 0 = 1 := by decide +kernel
theorem ql_100 : vt_ml.getD 100 0 = 7 := by decide +kernel
theorem qy_103 : vt_O 103 = 1 := by decide +kernel
theorem qr_103 : vt_rc.getD 103 0 = 0 := by decide +kernel
theorem ql_103 : vt_ml.getD 103 0 = 5 := by decide +kernel
theorem qy_101 : vt_O 101 = 10 := by decide +kernel
theorem qr_101 : vt_rc.getD 101 0 = 1 := by decide +kernel
theorem ql_101 : vt_ml.getD 101 0 = 5 := by decide +kernel
theorem qy_102 : vt_O 102 = 1 := by decide +kernel
theorem qr_102 : vt_rc.getD 102 0 = 0 := by decide +kernel
theorem ql_102 : vt_ml.getD 102 0 = 3 := by decide +kernel
theorem q_89_0 : js_I 89 0 = some (.iload_n 1, 1) := by decide +kernel
theorem q_89_1 : js_I 89 1 = some (.bipush 47, 2) := by decide +kernel
theorem q_89_3 : js_I 89 3 = some (.if_icmp .eq 9, 3) := by decide +kernel
theorem q_89_6 : js_I 89 6 = some (.iload_n 1, 1) := by decide +kernel
theorem q_89_7 : js_I 89 7 = some (.bipush 37, 2) := by decide +kernel
theorem q_89_9 : js_I 89 9 = some (.if_icmp .ne 35, 3) := by decide +kernel
theorem q_89_12 : js_I 89 12 = some (.aload_n 0, 1) := by decide +kernel
theorem q_89_13 : js_I 89 13 = some (.getfield 94, 3) := by decide +kernel
theorem q_89_16 : js_I 89 16 = some (.ifCond .gt 28, 3) := by decide +kernel
theorem q_89_19 : js_I 89 19 = some (.aload_n 0, 1) := by decide +kernel
theorem q_89_20 : js_I 89 20 = some (.getfield 97, 3) := by decide +kernel
theorem q_89_23 : js_I 89 23 = some (.ifCond .lt 21, 3) := by decide +kernel
theorem q_89_26 : js_I 89 26 = some (.aload_n 0, 1) := by decide +kernel
theorem q_89_27 : js_I 89 27 = some (.getfield 33, 3) := by decide +kernel
theorem q_89_30 : js_I 89 30 = some (.bipush 7, 2) := by decide +kernel
theorem q_89_32 : js_I 89 32 = some (.aload_n 0, 1) := by decide +kernel
theorem q_89_33 : js_I 89 33 = some (.getfield 18, 3) := by decide +kernel
theorem q_89_36 : js_I 89 36 = some (.aload_n 0, 1) := by decide +kernel
theorem q_89_37 : js_I 89 37 = some (.getfield 52, 3) := by decide +kernel
theorem q_89_40 : js_I 89 40 = some (.iaload, 1) := by decide +kernel
theorem q_89_41 : js_I 89 41 = some (.invokevirtual 127, 3) := by decide +kernel
theorem q_89_44 : js_I 89 44 = some (.iload_n 1, 1) := by decide +kernel
theorem q_89_45 : js_I 89 45 = some (.lload_n 2, 1) := by decide +kernel
theorem q_89_46 : js_I 89 46 = some (.aload_n 0, 1) := by decide +kernel
theorem q_89_47 : js_I 89 47 = some (.getfield 94, 3) := by decide +kernel
theorem q_89_50 : js_I 89 50 = some (.i2l, 1) := by decide +kernel
theorem q_89_51 : js_I 89 51 = some (.invokestatic 153, 3) := by decide +kernel
theorem q_89_54 : js_I 89 54 = some (.lstore 6, 2) := by decide +kernel
theorem q_89_56 : js_I 89 56 = some (.iload_n 1, 1) := by decide +kernel
theorem q_89_57 : js_I 89 57 = some (.lload_n 2, 1) := by decide +kernel
theorem q_89_58 : js_I 89 58 = some (.aload_n 0, 1) := by decide +kernel
theorem q_89_59 : js_I 89 59 = some (.getfield 97, 3) := by decide +kernel
theorem q_89_62 : js_I 89 62 = some (.i2l, 1) := by decide +kernel
theorem q_89_63 : js_I 89 63 = some (.invokestatic 153, 3) := by decide +kernel
theorem q_89_66 : js_I 89 66 = some (.lstore 8, 2) := by decide +kernel
theorem q_89_68 : js_I 89 68 = some (.iload_n 1, 1) := by decide +kernel
theorem q_89_69 : js_I 89 69 = some (.lload 4, 2) := by decide +kernel
theorem q_89_71 : js_I 89 71 = some (.aload_n 0, 1) := by decide +kernel
theorem q_89_72 : js_I 89 72 = some (.getfield 94, 3) := by decide +kernel
theorem q_89_75 : js_I 89 75 = some (.i2l, 1) := by decide +kernel
theorem q_89_76 : js_I 89 76 = some (.invokestatic 153, 3) := by decide +kernel
theorem q_89_79 : js_I 89 79 = some (.lstore 10, 2) := by decide +kernel
theorem q_89_81 : js_I 89 81 = some (.iload_n 1, 1) := by decide +kernel
theorem q_89_82 : js_I 89 82 = some (.lload 4, 2) := by decide +kernel
theorem q_89_84 : js_I 89 84 = some (.aload_n 0, 1) := by decide +kernel
theorem q_89_85 : js_I 89 85 = some (.getfield 97, 3) := by decide +kernel
theorem q_89_88 : js_I 89 88 = some (.i2l, 1) := by decide +kernel
theorem q_89_89 : js_I 89 89 = some (.invokestatic 153, 3) := by decide +kernel
theorem q_89_92 : js_I 89 92 = some (.lstore 12, 2) := by decide +kernel
theorem q_89_94 : js_I 89 94 = some (.lload 6, 2) := by decide +kernel
theorem q_89_96 : js_I 89 96 = some (.lload 8, 2) := by decide +kernel
theorem q_89_98 : js_I 89 98 = some (.invokestatic 157, 3) := by decide +kernel
theorem q_89_101 : js_I 89 101 = some (.lload 10, 2) := by decide +kernel
theorem q_89_103 : js_I 89 103 = some (.lload 12, 2) := by decide +kernel
theorem q_89_105 : js_I 89 105 = some (.invokestatic 157, 3) := by decide +kernel
theorem q_89_108 : js_I 89 108 = some (.invokestatic 157, 3) := by decide +kernel
theorem q_89_111 : js_I 89 111 = some (.lstore 14, 2) := by decide +kernel
theorem q_89_113 : js_I 89 113 = some (.lload 6, 2) := by decide +kernel
theorem q_89_115 : js_I 89 115 = some (.lload 8, 2) := by decide +kernel
theorem q_89_117 : js_I 89 117 = some (.invokestatic 163, 3) := by decide +kernel
theorem q_89_120 : js_I 89 120 = some (.lload 10, 2) := by decide +kernel
theorem q_89_122 : js_I 89 122 = some (.lload 12, 2) := by decide +kernel
theorem q_89_124 : js_I 89 124 = some (.invokestatic 163, 3) := by decide +kernel
theorem q_89_127 : js_I 89 127 = some (.invokestatic 163, 3) := by decide +kernel
theorem q_89_130 : js_I 89 130 = some (.lstore 16, 2) := by decide +kernel
theorem q_89_132 : js_I 89 132 = some (.iload_n 1, 1) := by decide +kernel
theorem q_89_133 : js_I 89 133 = some (.bipush 37, 2) := by decide +kernel
theorem q_89_135 : js_I 89 135 = some (.if_icmp .ne 65, 3) := by decide +kernel
theorem q_89_138 : js_I 89 138 = some (.aload_n 0, 1) := by decide +kernel
theorem q_89_139 : js_I 89 139 = some (.getfield 94, 3) := by decide +kernel
theorem q_89_142 : js_I 89 142 = some (.i2l, 1) := by decide +kernel
theorem q_89_143 : js_I 89 143 = some (.invokestatic 166, 3) := by decide +kernel
theorem q_89_146 : js_I 89 146 = some (.aload_n 0, 1) := by decide +kernel
theorem q_89_147 : js_I 89 147 = some (.getfield 97, 3) := by decide +kernel
theorem q_89_150 : js_I 89 150 = some (.i2l, 1) := by decide +kernel
theorem q_89_151 : js_I 89 151 = some (.invokestatic 166, 3) := by decide +kernel
theorem q_89_154 : js_I 89 154 = some (.invokestatic 163, 3) := by decide +kernel
theorem q_89_157 : js_I 89 157 = some (.lconst 1, 1) := by decide +kernel
theorem q_89_158 : js_I 89 158 = some (.lsub, 1) := by decide +kernel
theorem q_89_159 : js_I 89 159 = some (.lstore 18, 2) := by decide +kernel
theorem q_89_161 : js_I 89 161 = some (.lload_n 2, 1) := by decide +kernel
theorem q_89_162 : js_I 89 162 = some (.lconst 0, 1) := by decide +kernel
theorem q_89_163 : js_I 89 163 = some (.lcmp, 1) := by decide +kernel
theorem q_89_164 : js_I 89 164 = some (.ifCond .ge 13, 3) := by decide +kernel
theorem q_89_167 : js_I 89 167 = some (.lload 18, 2) := by decide +kernel
theorem q_89_169 : js_I 89 169 = some (.lneg, 1) := by decide +kernel
theorem q_89_170 : js_I 89 170 = some (.lload_n 2, 1) := by decide +kernel
theorem q_89_171 : js_I 89 171 = some (.invokestatic 163, 3) := by decide +kernel
theorem q_89_174 : js_I 89 174 = some (.goto 4, 3) := by decide +kernel
theorem q_89_177 : js_I 89 177 = some (.lconst 0, 1) := by decide +kernel
theorem q_89_178 : js_I 89 178 = some (.lstore 14, 2) := by decide +kernel
theorem q_89_180 : js_I 89 180 = some (.lload 4, 2) := by decide +kernel
theorem q_89_182 : js_I 89 182 = some (.lconst 0, 1) := by decide +kernel
theorem q_89_183 : js_I 89 183 = some (.lcmp, 1) := by decide +kernel
theorem q_89_184 : js_I 89 184 = some (.ifCond .le 13, 3) := by decide +kernel
theorem q_89_187 : js_I 89 187 = some (.lload 18, 2) := by decide +kernel
theorem q_89_189 : js_I 89 189 = some (.lload 4, 2) := by decide +kernel
theorem q_89_191 : js_I 89 191 = some (.invokestatic 157, 3) := by decide +kernel
theorem q_89_194 : js_I 89 194 = some (.goto 4, 3) := by decide +kernel
theorem q_89_197 : js_I 89 197 = some (.lconst 0, 1) := by decide +kernel
theorem q_89_198 : js_I 89 198 = some (.lstore 16, 2) := by decide +kernel
theorem q_89_200 : js_I 89 200 = some (.lload 14, 2) := by decide +kernel
theorem q_89_202 : js_I 89 202 = some (.ldc2_w 170, 3) := by decide +kernel
theorem q_89_205 : js_I 89 205 = some (.lcmp, 1) := by decide +kernel
theorem q_89_206 : js_I 89 206 = some (.ifCond .lt 12, 3) := by decide +kernel
theorem q_89_209 : js_I 89 209 = some (.lload 16, 2) := by decide +kernel
theorem q_89_211 : js_I 89 211 = some (.ldc2_w 172, 3) := by decide +kernel
theorem q_89_214 : js_I 89 214 = some (.lcmp, 1) := by decide +kernel
theorem q_89_215 : js_I 89 215 = some (.ifCond .le 21, 3) := by decide +kernel
theorem q_89_218 : js_I 89 218 = some (.aload_n 0, 1) := by decide +kernel
theorem q_89_219 : js_I 89 219 = some (.getfield 33, 3) := by decide +kernel
theorem q_89_222 : js_I 89 222 = some (.bipush 8, 2) := by decide +kernel
theorem q_89_224 : js_I 89 224 = some (.aload_n 0, 1) := by decide +kernel
theorem q_89_225 : js_I 89 225 = some (.getfield 18, 3) := by decide +kernel
theorem q_89_228 : js_I 89 228 = some (.aload_n 0, 1) := by decide +kernel
theorem q_89_229 : js_I 89 229 = some (.getfield 52, 3) := by decide +kernel
theorem q_89_232 : js_I 89 232 = some (.iaload, 1) := by decide +kernel
theorem q_89_233 : js_I 89 233 = some (.invokevirtual 127, 3) := by decide +kernel
theorem q_89_236 : js_I 89 236 = some (.aload_n 0, 1) := by decide +kernel
theorem q_89_237 : js_I 89 237 = some (.lload 14, 2) := by decide +kernel
theorem q_89_239 : js_I 89 239 = some (.l2i, 1) := by decide +kernel
theorem q_89_240 : js_I 89 240 = some (.putfield 94, 3) := by decide +kernel
theorem q_89_243 : js_I 89 243 = some (.aload_n 0, 1) := by decide +kernel
theorem q_89_244 : js_I 89 244 = some (.lload 16, 2) := by decide +kernel
theorem q_89_246 : js_I 89 246 = some (.l2i, 1) := by decide +kernel
theorem q_89_247 : js_I 89 247 = some (.putfield 97, 3) := by decide +kernel
theorem q_89_250 : js_I 89 250 = some (.return_, 1) := by decide +kernel
theorem q_90_0 : js_I 90 0 = some (.iload_n 0, 1) := by decide +kernel
theorem q_90_1 : js_I 90 1 = some (.tableswitch 43 42 45 #[39, 31, 43, 35], 31) := by decide +kernel
theorem q_90_32 : js_I 90 32 = some (.lload_n 1, 1) := by decide +kernel
theorem q_90_33 : js_I 90 33 = some (.lload_n 3, 1) := by decide +kernel
theorem q_90_34 : js_I 90 34 = some (.ladd, 1) := by decide +kernel
theorem q_90_35 : js_I 90 35 = some (.lreturn, 1) := by decide +kernel
theorem q_90_36 : js_I 90 36 = some (.lload_n 1, 1) := by decide +kernel
theorem q_90_37 : js_I 90 37 = some (.lload_n 3, 1) := by decide +kernel
theorem q_90_38 : js_I 90 38 = some (.lsub, 1) := by decide +kernel
theorem q_90_39 : js_I 90 39 = some (.lreturn, 1) := by decide +kernel
theorem q_90_40 : js_I 90 40 = some (.lload_n 1, 1) := by decide +kernel
theorem q_90_41 : js_I 90 41 = some (.lload_n 3, 1) := by decide +kernel
theorem q_90_42 : js_I 90 42 = some (.lmul, 1) := by decide +kernel
theorem q_90_43 : js_I 90 43 = some (.lreturn, 1) := by decide +kernel
theorem q_90_44 : js_I 90 44 = some (.lload_n 3, 1) := by decide +kernel
theorem q_90_45 : js_I 90 45 = some (.lconst 0, 1) := by decide +kernel
theorem q_90_46 : js_I 90 46 = some (.lcmp, 1) := by decide +kernel
theorem q_90_47 : js_I 90 47 = some (.ifCond .ne 7, 3) := by decide +kernel
theorem q_90_50 : js_I 90 50 = some (.lconst 0, 1) := by decide +kernel
theorem q_90_51 : js_I 90 51 = some (.goto 6, 3) := by decide +kernel
theorem q_90_57 : js_I 90 57 = some (.lreturn, 1) := by decide +kernel
theorem q_90_54 : js_I 90 54 = some (.lload_n 1, 1) := by decide +kernel
theorem q_90_55 : js_I 90 55 = some (.lload_n 3, 1) := by decide +kernel
theorem q_90_56 : js_I 90 56 = some (.ldiv, 1) := by decide +kernel
theorem q_91_0 : js_I 91 0 = some (.aload_n 0, 1) := by decide +kernel
theorem q_91_1 : js_I 91 1 = some (.iload_n 1, 1) := by decide +kernel
theorem q_91_2 : js_I 91 2 = some (.invokevirtual 117, 3) := by decide +kernel
theorem q_91_5 : js_I 91 5 = some (.ifCond .eq 13, 3) := by decide +kernel
theorem q_91_18 : js_I 91 18 = some (.return_, 1) := by decide +kernel
theorem q_91_8 : js_I 91 8 = some (.aload_n 0, 1) := by decide +kernel
theorem q_91_9 : js_I 91 9 = some (.getfield 15, 3) := by decide +kernel
theorem q_91_12 : js_I 91 12 = some (.iload_n 1, 1) := by decide +kernel
theorem q_91_13 : js_I 91 13 = some (.aload_n 0, 1) := by decide +kernel
theorem q_91_14 : js_I 91 14 = some (.getfield 42, 3) := by decide +kernel
theorem q_91_17 : js_I 91 17 = some (.iastore, 1) := by decide +kernel
theorem q_92_0 : js_I 92 0 = some (.iload_n 1, 1) := by decide +kernel
theorem q_92_1 : js_I 92 1 = some (.ifCond .lt 24, 3) := by decide +kernel
theorem q_92_25 : js_I 92 25 = some (.iconst 0, 1) := by decide +kernel
theorem q_92_26 : js_I 92 26 = some (.ireturn, 1) := by decide +kernel
theorem q_92_4 : js_I 92 4 = some (.iload_n 1, 1) := by decide +kernel
theorem q_92_5 : js_I 92 5 = some (.aload_n 0, 1) := by decide +kernel
theorem q_92_6 : js_I 92 6 = some (.getfield 42, 3) := by decide +kernel
theorem q_92_9 : js_I 92 9 = some (.if_icmp .ge 16, 3) := by decide +kernel
theorem q_92_12 : js_I 92 12 = some (.iload_n 1, 1) := by decide +kernel
theorem q_92_13 : js_I 92 13 = some (.aload_n 0, 1) := by decide +kernel
theorem q_92_14 : js_I 92 14 = some (.getfield 9, 3) := by decide +kernel
theorem q_92_17 : js_I 92 17 = some (.arraylength, 1) := by decide +kernel
theorem q_92_18 : js_I 92 18 = some (.if_icmp .ge 7, 3) := by decide +kernel
theorem q_92_21 : js_I 92 21 = some (.iconst 1, 1) := by decide +kernel
theorem q_92_22 : js_I 92 22 = some (.goto 4, 3) := by decide +kernel
theorem q_93_0 : js_I 93 0 = some (.iload_n 0, 1) := by decide +kernel
theorem q_93_1 : js_I 93 1 = some (.lookupswitch 141 #[(37, 120), (42, 114), (43, 99), (45, 102), (47, 117), (60, 123), (62, 129), (129, 126), (130, 132), (131, 135), (132, 138)], 99) := by decide +kernel
theorem q_93_100 : js_I 93 100 = some (.bipush 6, 2) := by decide +kernel
theorem q_93_102 : js_I 93 102 = some (.ireturn, 1) := by decide +kernel
theorem q_93_103 : js_I 93 103 = some (.iload_n 1, 1) := by decide +kernel
theorem q_93_104 : js_I 93 104 = some (.ifCond .eq 8, 3) := by decide +kernel
theorem q_93_112 : js_I 93 112 = some (.bipush 7, 2) := by decide +kernel
theorem q_93_114 : js_I 93 114 = some (.ireturn, 1) := by decide +kernel
theorem q_93_107 : js_I 93 107 = some (.bipush 19, 2) := by decide +kernel
theorem q_93_109 : js_I 93 109 = some (.goto 5, 3) := by decide +kernel
theorem q_93_115 : js_I 93 115 = some (.bipush 8, 2) := by decide +kernel
theorem q_93_117 : js_I 93 117 = some (.ireturn, 1) := by decide +kernel
theorem q_93_118 : js_I 93 118 = some (.bipush 9, 2) := by decide +kernel
theorem q_93_120 : js_I 93 120 = some (.ireturn, 1) := by decide +kernel
theorem q_93_121 : js_I 93 121 = some (.bipush 10, 2) := by decide +kernel
theorem q_93_123 : js_I 93 123 = some (.ireturn, 1) := by decide +kernel
theorem q_93_124 : js_I 93 124 = some (.bipush 13, 2) := by decide +kernel
theorem q_93_126 : js_I 93 126 = some (.ireturn, 1) := by decide +kernel
theorem q_93_127 : js_I 93 127 = some (.bipush 14, 2) := by decide +kernel
theorem q_93_129 : js_I 93 129 = some (.ireturn, 1) := by decide +kernel
theorem q_93_130 : js_I 93 130 = some (.bipush 15, 2) := by decide +kernel
theorem q_93_132 : js_I 93 132 = some (.ireturn, 1) := by decide +kernel
theorem q_93_133 : js_I 93 133 = some (.bipush 16, 2) := by decide +kernel
theorem q_93_135 : js_I 93 135 = some (.ireturn, 1) := by decide +kernel
theorem q_93_136 : js_I 93 136 = some (.bipush 17, 2) := by decide +kernel
theorem q_93_138 : js_I 93 138 = some (.ireturn, 1) := by decide +kernel
theorem q_93_139 : js_I 93 139 = some (.bipush 18, 2) := by decide +kernel
theorem q_93_141 : js_I 93 141 = some (.ireturn, 1) := by decide +kernel
theorem q_93_142 : js_I 93 142 = some (.bipush 21, 2) := by decide +kernel
theorem q_93_144 : js_I 93 144 = some (.ireturn, 1) := by decide +kernel
theorem q_94_0 : js_I 94 0 = some (.iconst (-1), 1) := by decide +kernel
theorem q_94_1 : js_I 94 1 = some (.istore_n 2, 1) := by decide +kernel
theorem q_94_2 : js_I 94 2 = some (.iload_n 1, 1) := by decide +kernel
theorem q_94_3 : js_I 94 3 = some (.iconst 2, 1) := by decide +kernel
theorem q_94_4 : js_I 94 4 = some (.if_icmp .gt 27, 3) := by decide +kernel
theorem q_94_31 : js_I 94 31 = some (.aload_n 0, 1) := by decide +kernel
theorem q_94_32 : js_I 94 32 = some (.getfield 47, 3) := by decide +kernel
theorem q_94_35 : js_I 94 35 = some (.aload_n 0, 1) := by decide +kernel
theorem q_94_36 : js_I 94 36 = some (.getfield 94, 3) := by decide +kernel
theorem q_94_39 : js_I 94 39 = some (.aload_n 0, 1) := by decide +kernel
theorem q_94_40 : js_I 94 40 = some (.getfield 97, 3) := by decide +kernel
theorem q_94_43 : js_I 94 43 = some (.invokevirtual 137, 3) := by decide +kernel
theorem q_94_7 : js_I 94 7 = some (.aload_n 0, 1) := by decide +kernel
theorem q_94_8 : js_I 94 8 = some (.getfield 47, 3) := by decide +kernel
theorem q_94_11 : js_I 94 11 = some (.iload_n 1, 1) := by decide +kernel
theorem q_94_12 : js_I 94 12 = some (.iconst 1, 1) := by decide +kernel
theorem q_94_13 : js_I 94 13 = some (.if_icmp .ne 8, 3) := by decide +kernel
theorem q_94_16 : js_I 94 16 = some (.bipush 26, 2) := by decide +kernel
theorem q_94_18 : js_I 94 18 = some (.goto 5, 3) := by decide +kernel
theorem q_94_21 : js_I 94 21 = some (.bipush 25, 2) := by decide +kernel
theorem q_94_23 : js_I 94 23 = some (.iconst 0, 1) := by decide +kernel
theorem q_94_24 : js_I 94 24 = some (.invokevirtual 133, 3) := by decide +kernel
theorem q_94_27 : js_I 94 27 = some (.istore_n 2, 1) := by decide +kernel
theorem q_94_28 : js_I 94 28 = some (.goto 19, 3) := by decide +kernel
theorem q_94_46 : js_I 94 46 = some (.pop, 1) := by decide +kernel
theorem q_94_47 : js_I 94 47 = some (.aload_n 0, 1) := by decide +kernel
theorem q_94_48 : js_I 94 48 = some (.iload_n 1, 1) := by decide +kernel
theorem q_94_49 : js_I 94 49 = some (.iload_n 2, 1) := by decide +kernel
theorem q_94_50 : js_I 94 50 = some (.invokevirtual 120, 3) := by decide +kernel
theorem q_94_53 : js_I 94 53 = some (.aload_n 0, 1) := by decide +kernel
theorem q_94_54 : js_I 94 54 = some (.getfield 33, 3) := by decide +kernel
theorem q_94_57 : js_I 94 57 = some (.invokevirtual 140, 3) := by decide +kernel
theorem q_94_60 : js_I 94 60 = some (.return_, 1) := by decide +kernel
theorem q_95_0 : js_I 95 0 = some (.aload_n 0, 1) := by decide +kernel
theorem q_95_1 : js_I 95 1 = some (.iload_n 1, 1) := by decide +kernel
theorem q_95_2 : js_I 95 2 = some (.iload_n 2, 1) := by decide +kernel
theorem q_95_3 : js_I 95 3 = some (.iconst 0, 1) := by decide +kernel
theorem q_95_4 : js_I 95 4 = some (.iconst 1, 1) := by decide +kernel
theorem q_95_5 : js_I 95 5 = some (.iconst 0, 1) := by decide +kernel
theorem q_95_6 : js_I 95 6 = some (.iconst 0, 1) := by decide +kernel
theorem q_95_7 : js_I 95 7 = some (.invokevirtual 74, 3) := by decide +kernel
theorem q_95_10 : js_I 95 10 = some (.aload_n 0, 1) := by decide +kernel
theorem q_95_11 : js_I 95 11 = some (.getfield 42, 3) := by decide +kernel
theorem q_95_14 : js_I 95 14 = some (.iconst 1, 1) := by decide +kernel
theorem q_95_15 : js_I 95 15 = some (.isub, 1) := by decide +kernel
theorem q_95_16 : js_I 95 16 = some (.ireturn, 1) := by decide +kernel
theorem q_96_0 : js_I 96 0 = some (.aload_n 0, 1) := by decide +kernel
theorem q_96_1 : js_I 96 1 = some (.getfield 33, 3) := by decide +kernel
theorem q_96_4 : js_I 96 4 = some (.getfield 56, 3) := by decide +kernel
theorem q_96_7 : js_I 96 7 = some (.istore_n 1, 1) := by decide +kernel
theorem q_96_8 : js_I 96 8 = some (.aload_n 0, 1) := by decide +kernel
theorem q_96_9 : js_I 96 9 = some (.getfield 130, 3) := by decide +kernel
theorem q_96_12 : js_I 96 12 = some (.istore_n 2, 1) := by decide +kernel
theorem q_96_13 : js_I 96 13 = some (.aload_n 0, 1) := by decide +kernel
theorem q_96_14 : js_I 96 14 = some (.getfield 33, 3) := by decide +kernel
theorem q_96_17 : js_I 96 17 = some (.bipush 63, 2) := by decide +kernel
theorem q_96_19 : js_I 96 19 = some (.invokevirtual 124, 3) := by decide +kernel
theorem q_96_22 : js_I 96 22 = some (.aload_n 0, 1) := by decide +kernel
theorem q_96_23 : js_I 96 23 = some (.getfield 47, 3) := by decide +kernel
theorem q_96_26 : js_I 96 26 = some (.bipush 25, 2) := by decide +kernel
theorem q_96_28 : js_I 96 28 = some (.iconst 0, 1) := by decide +kernel
theorem q_96_29 : js_I 96 29 = some (.invokevirtual 133, 3) := by decide +kernel
theorem q_96_32 : js_I 96 32 = some (.istore_n 3, 1) := by decide +kernel
theorem q_96_33 : js_I 96 33 = some (.aload_n 0, 1) := by decide +kernel
theorem q_96_34 : js_I 96 34 = some (.getfield 47, 3) := by decide +kernel
theorem q_96_37 : js_I 96 37 = some (.getfield 174, 3) := by decide +kernel
theorem q_96_40 : js_I 96 40 = some (.istore 4, 2) := by decide +kernel
theorem q_96_42 : js_I 96 42 = some (.aload_n 0, 1) := by decide +kernel
theorem q_96_43 : js_I 96 43 = some (.invokevirtual 177, 3) := by decide +kernel
theorem q_96_46 : js_I 96 46 = some (.aload_n 0, 1) := by decide +kernel
theorem q_96_47 : js_I 96 47 = some (.getfield 130, 3) := by decide +kernel
theorem q_96_50 : js_I 96 50 = some (.istore 5, 2) := by decide +kernel
theorem q_96_52 : js_I 96 52 = some (.aload_n 0, 1) := by decide +kernel
theorem q_96_53 : js_I 96 53 = some (.getfield 94, 3) := by decide +kernel
theorem q_96_56 : js_I 96 56 = some (.istore 6, 2) := by decide +kernel
theorem q_96_58 : js_I 96 58 = some (.aload_n 0, 1) := by decide +kernel
theorem q_96_59 : js_I 96 59 = some (.getfield 97, 3) := by decide +kernel
theorem q_96_62 : js_I 96 62 = some (.istore 7, 2) := by decide +kernel
theorem q_96_64 : js_I 96 64 = some (.aload_n 0, 1) := by decide +kernel
theorem q_96_65 : js_I 96 65 = some (.getfield 33, 3) := by decide +kernel
theorem q_96_68 : js_I 96 68 = some (.bipush 58, 2) := by decide +kernel
theorem q_96_70 : js_I 96 70 = some (.invokevirtual 180, 3) := by decide +kernel
theorem q_96_73 : js_I 96 73 = some (.aload_n 0, 1) := by decide +kernel
theorem q_96_74 : js_I 96 74 = some (.getfield 47, 3) := by decide +kernel
theorem q_96_77 : js_I 96 77 = some (.bipush 24, 2) := by decide +kernel
theorem q_96_79 : js_I 96 79 = some (.iconst 0, 1) := by decide +kernel
theorem q_96_80 : js_I 96 80 = some (.invokevirtual 133, 3) := by decide +kernel
theorem q_96_83 : js_I 96 83 = some (.istore 8, 2) := by decide +kernel
theorem q_96_85 : js_I 96 85 = some (.aload_n 0, 1) := by decide +kernel
theorem q_96_86 : js_I 96 86 = some (.getfield 47, 3) := by decide +kernel
theorem q_96_89 : js_I 96 89 = some (.getfield 174, 3) := by decide +kernel
theorem q_96_92 : js_I 96 92 = some (.istore 9, 2) := by decide +kernel
theorem q_96_94 : js_I 96 94 = some (.aload_n 0, 1) := by decide +kernel
theorem q_96_95 : js_I 96 95 = some (.getfield 47, 3) := by decide +kernel
theorem q_96_98 : js_I 96 98 = some (.iload 4, 2) := by decide +kernel
theorem q_96_100 : js_I 96 100 = some (.putfield 174, 3) := by decide +kernel
theorem q_96_103 : js_I 96 103 = some (.aload_n 0, 1) := by decide +kernel
theorem q_96_104 : js_I 96 104 = some (.getfield 47, 3) := by decide +kernel
theorem q_96_107 : js_I 96 107 = some (.iload_n 3, 1) := by decide +kernel
theorem q_96_108 : js_I 96 108 = some (.invokevirtual 81, 3) := by decide +kernel
theorem q_96_111 : js_I 96 111 = some (.aload_n 0, 1) := by decide +kernel
theorem q_96_112 : js_I 96 112 = some (.invokevirtual 177, 3) := by decide +kernel
theorem q_96_115 : js_I 96 115 = some (.iload_n 2, 1) := by decide +kernel
theorem q_96_116 : js_I 96 116 = some (.iconst 1, 1) := by decide +kernel
theorem q_96_117 : js_I 96 117 = some (.if_icmp .ne 12, 3) := by decide +kernel
theorem q_96_120 : js_I 96 120 = some (.iload 5, 2) := by decide +kernel
theorem q_96_122 : js_I 96 122 = some (.aload_n 0, 1) := by decide +kernel
theorem q_96_123 : js_I 96 123 = some (.getfield 130, 3) := by decide +kernel
theorem q_96_126 : js_I 96 126 = some (.if_icmp .eq 12, 3) := by decide +kernel
theorem q_96_129 : js_I 96 129 = some (.aload_n 0, 1) := by decide +kernel
theorem q_96_130 : js_I 96 130 = some (.getfield 33, 3) := by decide +kernel
theorem q_96_133 : js_I 96 133 = some (.iconst 5, 1) := by decide +kernel
theorem q_96_134 : js_I 96 134 = some (.iload_n 1, 1) := by decide +kernel
theorem q_96_135 : js_I 96 135 = some (.invokevirtual 127, 3) := by decide +kernel
theorem q_96_138 : js_I 96 138 = some (.aload_n 0, 1) := by decide +kernel
theorem q_96_139 : js_I 96 139 = some (.getfield 33, 3) := by decide +kernel
theorem q_96_142 : js_I 96 142 = some (.dup, 1) := by decide +kernel
theorem q_96_143 : js_I 96 143 = some (.getfield 87, 3) := by decide +kernel
theorem q_96_146 : js_I 96 146 = some (.iconst 1, 1) := by decide +kernel
theorem q_96_147 : js_I 96 147 = some (.isub, 1) := by decide +kernel
theorem q_96_148 : js_I 96 148 = some (.putfield 87, 3) := by decide +kernel
theorem q_96_151 : js_I 96 151 = some (.aload_n 0, 1) := by decide +kernel
theorem q_96_152 : js_I 96 152 = some (.aload_n 0, 1) := by decide +kernel
theorem q_96_153 : js_I 96 153 = some (.getfield 130, 3) := by decide +kernel
theorem q_96_156 : js_I 96 156 = some (.iload 6, 2) := by decide +kernel
theorem q_96_158 : js_I 96 158 = some (.aload_n 0, 1) := by decide +kernel
theorem q_96_159 : js_I 96 159 = some (.getfield 94, 3) := by decide +kernel
theorem q_96_162 : js_I 96 162 = some (.invokestatic 183, 3) := by decide +kernel
theorem q_96_165 : js_I 96 165 = some (.iload 7, 2) := by decide +kernel
theorem q_96_167 : js_I 96 167 = some (.aload_n 0, 1) := by decide +kernel
theorem q_96_168 : js_I 96 168 = some (.getfield 97, 3) := by decide +kernel
theorem q_96_171 : js_I 96 171 = some (.invokestatic 185, 3) := by decide +kernel
theorem q_96_174 : js_I 96 174 = some (.invokevirtual 147, 3) := by decide +kernel
theorem q_96_177 : js_I 96 177 = some (.aload_n 0, 1) := by decide +kernel
theorem q_96_178 : js_I 96 178 = some (.getfield 47, 3) := by decide +kernel
theorem q_96_181 : js_I 96 181 = some (.iload 8, 2) := by decide +kernel
theorem q_96_183 : js_I 96 183 = some (.invokevirtual 81, 3) := by decide +kernel
theorem q_96_186 : js_I 96 186 = some (.aload_n 0, 1) := by decide +kernel
theorem q_96_187 : js_I 96 187 = some (.getfield 47, 3) := by decide +kernel
theorem q_96_190 : js_I 96 190 = some (.iload 9, 2) := by decide +kernel
theorem q_96_192 : js_I 96 192 = some (.aload_n 0, 1) := by decide +kernel
theorem q_96_193 : js_I 96 193 = some (.getfield 47, 3) := by decide +kernel
theorem q_96_196 : js_I 96 196 = some (.getfield 174, 3) := by decide +kernel
theorem q_96_199 : js_I 96 199 = some (.invokestatic 185, 3) := by decide +kernel
theorem q_96_202 : js_I 96 202 = some (.putfield 174, 3) := by decide +kernel
theorem q_96_205 : js_I 96 205 = some (.return_, 1) := by decide +kernel
theorem q_97_0 : js_I 97 0 = some (.aload_n 0, 1) := by decide +kernel
theorem q_97_1 : js_I 97 1 = some (.iconst 2, 1) := by decide +kernel
theorem q_97_2 : js_I 97 2 = some (.aload_n 1, 1) := by decide +kernel
theorem q_97_3 : js_I 97 3 = some (.getfield 81, 3) := by decide +kernel
theorem q_97_6 : js_I 97 6 = some (.iload_n 2, 1) := by decide +kernel
theorem q_97_7 : js_I 97 7 = some (.iadd, 1) := by decide +kernel
theorem q_97_8 : js_I 97 8 = some (.iconst 0, 1) := by decide +kernel
theorem q_97_9 : js_I 97 9 = some (.iconst 1, 1) := by decide +kernel
theorem q_97_10 : js_I 97 10 = some (.iconst 0, 1) := by decide +kernel
theorem q_97_11 : js_I 97 11 = some (.aload_n 1, 1) := by decide +kernel
theorem q_97_12 : js_I 97 12 = some (.invokestatic 84, 3) := by decide +kernel
theorem q_97_15 : js_I 97 15 = some (.invokevirtual 74, 3) := by decide +kernel
theorem q_97_18 : js_I 97 18 = some (.return_, 1) := by decide +kernel
theorem q_98_0 : js_I 98 0 = some (.aload_n 0, 1) := by decide +kernel
theorem q_98_1 : js_I 98 1 = some (.getfield 35, 3) := by decide +kernel
theorem q_98_4 : js_I 98 4 = some (.invokevirtual 62, 3) := by decide +kernel
theorem q_98_7 : js_I 98 7 = some (.aload_n 0, 1) := by decide +kernel
theorem q_98_8 : js_I 98 8 = some (.getfield 35, 3) := by decide +kernel
theorem q_98_11 : js_I 98 11 = some (.iconst 1, 1) := by decide +kernel
theorem q_98_12 : js_I 98 12 = some (.iconst 0, 1) := by decide +kernel
theorem q_98_13 : js_I 98 13 = some (.iconst 1, 1) := by decide +kernel
theorem q_98_14 : js_I 98 14 = some (.invokevirtual 76, 3) := by decide +kernel
theorem q_98_17 : js_I 98 17 = some (.return_, 1) := by decide +kernel
theorem q_99_0 : js_I 99 0 = some (.aload_n 0, 1) := by decide +kernel
theorem q_99_1 : js_I 99 1 = some (.getfield 9, 3) := by decide +kernel
theorem q_99_4 : js_I 99 4 = some (.invokevirtual 89, 3) := by decide +kernel
theorem q_99_7 : js_I 99 7 = some (.aload_n 0, 1) := by decide +kernel
theorem q_99_8 : js_I 99 8 = some (.getfield 9, 3) := by decide +kernel
theorem q_99_11 : js_I 99 11 = some (.bipush 40, 2) := by decide +kernel
theorem q_99_13 : js_I 99 13 = some (.invokevirtual 46, 3) := by decide +kernel
theorem q_99_16 : js_I 99 16 = some (.aload_n 0, 1) := by decide +kernel
theorem q_99_17 : js_I 99 17 = some (.getfield 35, 3) := by decide +kernel
theorem q_99_20 : js_I 99 20 = some (.invokevirtual 62, 3) := by decide +kernel
theorem q_99_23 : js_I 99 23 = some (.aload_n 0, 1) := by decide +kernel
theorem q_99_24 : js_I 99 24 = some (.getfield 35, 3) := by decide +kernel
theorem q_99_27 : js_I 99 27 = some (.getfield 230, 3) := by decide +kernel
theorem q_99_30 : js_I 99 30 = some (.istore_n 1, 1) := by decide +kernel
theorem q_99_31 : js_I 99 31 = some (.iload_n 1, 1) := by decide +kernel
theorem q_99_32 : js_I 99 32 = some (.iconst 1, 1) := by decide +kernel
theorem q_99_33 : js_I 99 33 = some (.if_icmp .ne 18, 3) := by decide +kernel
theorem q_99_36 : js_I 99 36 = some (.aload_n 0, 1) := by decide +kernel
theorem q_99_37 : js_I 99 37 = some (.getfield 9, 3) := by decide +kernel
theorem q_99_40 : js_I 99 40 = some (.iconst 5, 1) := by decide +kernel
theorem q_99_41 : js_I 99 41 = some (.aload_n 0, 1) := by decide +kernel
theorem q_99_42 : js_I 99 42 = some (.getfield 35, 3) := by decide +kernel
theorem q_99_45 : js_I 99 45 = some (.getfield 231, 3) := by decide +kernel
theorem q_99_48 : js_I 99 48 = some (.invokevirtual 128, 3) := by decide +kernel
theorem q_99_51 : js_I 99 51 = some (.aload_n 0, 1) := by decide +kernel
theorem q_99_52 : js_I 99 52 = some (.getfield 9, 3) := by decide +kernel
theorem q_99_55 : js_I 99 55 = some (.bipush 41, 2) := by decide +kernel
theorem q_99_57 : js_I 99 57 = some (.invokevirtual 80, 3) := by decide +kernel
theorem q_99_60 : js_I 99 60 = some (.aload_n 0, 1) := by decide +kernel
theorem q_99_61 : js_I 99 61 = some (.getfield 25, 3) := by decide +kernel
theorem q_99_64 : js_I 99 64 = some (.aload_n 0, 1) := by decide +kernel
theorem q_99_65 : js_I 99 65 = some (.getfield 35, 3) := by decide +kernel
theorem q_99_68 : js_I 99 68 = some (.getfield 198, 3) := by decide +kernel
theorem q_99_71 : js_I 99 71 = some (.aload_n 0, 1) := by decide +kernel
theorem q_99_72 : js_I 99 72 = some (.getfield 35, 3) := by decide +kernel
theorem q_99_75 : js_I 99 75 = some (.getfield 199, 3) := by decide +kernel
theorem q_99_78 : js_I 99 78 = some (.invokevirtual 200, 3) := by decide +kernel
theorem q_99_81 : js_I 99 81 = some (.istore_n 2, 1) := by decide +kernel
theorem q_99_82 : js_I 99 82 = some (.aload_n 0, 1) := by decide +kernel
theorem q_99_83 : js_I 99 83 = some (.getfield 9, 3) := by decide +kernel
theorem q_99_86 : js_I 99 86 = some (.bipush 123, 2) := by decide +kernel
theorem q_99_88 : js_I 99 88 = some (.invokevirtual 46, 3) := by decide +kernel
theorem q_99_91 : js_I 99 91 = some (.iconst (-1), 1) := by decide +kernel
theorem q_99_92 : js_I 99 92 = some (.istore_n 3, 1) := by decide +kernel
theorem q_99_93 : js_I 99 93 = some (.iconst 0, 1) := by decide +kernel
theorem q_99_94 : js_I 99 94 = some (.istore 4, 2) := by decide +kernel
theorem q_99_96 : js_I 99 96 = some (.iconst 0, 1) := by decide +kernel
theorem q_99_97 : js_I 99 97 = some (.istore 5, 2) := by decide +kernel
theorem q_99_99 : js_I 99 99 = some (.iload 5, 2) := by decide +kernel
theorem q_99_101 : js_I 99 101 = some (.ldc 52, 2) := by decide +kernel
theorem q_99_103 : js_I 99 103 = some (.if_icmp .ge 106, 3) := by decide +kernel
theorem q_99_106 : js_I 99 106 = some (.aload_n 0, 1) := by decide +kernel
theorem q_99_107 : js_I 99 107 = some (.getfield 9, 3) := by decide +kernel
theorem q_99_110 : js_I 99 110 = some (.getfield 53, 3) := by decide +kernel
theorem q_99_113 : js_I 99 113 = some (.bipush 125, 2) := by decide +kernel
theorem q_99_115 : js_I 99 115 = some (.if_icmp .eq 94, 3) := by decide +kernel
theorem q_99_118 : js_I 99 118 = some (.aload_n 0, 1) := by decide +kernel
theorem q_99_119 : js_I 99 119 = some (.getfield 9, 3) := by decide +kernel
theorem q_99_122 : js_I 99 122 = some (.getfield 53, 3) := by decide +kernel
theorem q_99_125 : js_I 99 125 = some (.sipush 208, 3) := by decide +kernel
theorem q_99_128 : js_I 99 128 = some (.if_icmp .eq 81, 3) := by decide +kernel
theorem q_99_131 : js_I 99 131 = some (.aload_n 0, 1) := by decide +kernel
theorem q_99_132 : js_I 99 132 = some (.iload_n 1, 1) := by decide +kernel
theorem q_99_133 : js_I 99 133 = some (.iload_n 2, 1) := by decide +kernel
theorem q_99_134 : js_I 99 134 = some (.invokevirtual 234, 3) := by decide +kernel
theorem q_99_137 : js_I 99 137 = some (.istore 6, 2) := by decide +kernel
theorem q_99_139 : js_I 99 139 = some (.aload_n 0, 1) := by decide +kernel
theorem q_99_140 : js_I 99 140 = some (.getfield 25, 3) := by decide +kernel
theorem q_99_143 : js_I 99 143 = some (.getfield 209, 3) := by decide +kernel
theorem q_99_146 : js_I 99 146 = some (.istore 7, 2) := by decide +kernel
theorem q_99_148 : js_I 99 148 = some (.aload_n 0, 1) := by decide +kernel
theorem q_99_149 : js_I 99 149 = some (.aload_n 0, 1) := by decide +kernel
theorem q_99_150 : js_I 99 150 = some (.getfield 15, 3) := by decide +kernel
theorem q_99_153 : js_I 99 153 = some (.getfield 212, 3) := by decide +kernel
theorem q_99_156 : js_I 99 156 = some (.aconst_null, 1) := by decide +kernel
theorem q_99_157 : js_I 99 157 = some (.invokevirtual 215, 3) := by decide +kernel
theorem q_99_160 : js_I 99 160 = some (.aload_n 0, 1) := by decide +kernel
theorem q_99_161 : js_I 99 161 = some (.getfield 25, 3) := by decide +kernel
theorem q_99_164 : js_I 99 164 = some (.bipush 24, 2) := by decide +kernel
theorem q_99_166 : js_I 99 166 = some (.iload_n 3, 1) := by decide +kernel
theorem q_99_167 : js_I 99 167 = some (.invokevirtual 95, 3) := by decide +kernel
theorem q_99_170 : js_I 99 170 = some (.istore_n 3, 1) := by decide +kernel
theorem q_99_171 : js_I 99 171 = some (.iload 4, 2) := by decide +kernel
theorem q_99_173 : js_I 99 173 = some (.aload_n 0, 1) := by decide +kernel
theorem q_99_174 : js_I 99 174 = some (.getfield 25, 3) := by decide +kernel
theorem q_99_177 : js_I 99 177 = some (.getfield 209, 3) := by decide +kernel
theorem q_99_180 : js_I 99 180 = some (.invokestatic 219, 3) := by decide +kernel
theorem q_99_183 : js_I 99 183 = some (.istore 4, 2) := by decide +kernel
theorem q_99_185 : js_I 99 185 = some (.aload_n 0, 1) := by decide +kernel
theorem q_99_186 : js_I 99 186 = some (.getfield 25, 3) := by decide +kernel
theorem q_99_189 : js_I 99 189 = some (.iload 7, 2) := by decide +kernel
theorem q_99_191 : js_I 99 191 = some (.putfield 209, 3) := by decide +kernel
theorem q_99_194 : js_I 99 194 = some (.aload_n 0, 1) := by decide +kernel
theorem q_99_195 : js_I 99 195 = some (.getfield 25, 3) := by decide +kernel
theorem q_99_198 : js_I 99 198 = some (.iload 6, 2) := by decide +kernel
theorem q_99_200 : js_I 99 200 = some (.invokevirtual 227, 3) := by decide +kernel
theorem q_99_203 : js_I 99 203 = some (.iinc 5 1, 3) := by decide +kernel
theorem q_99_206 : js_I 99 206 = some (.goto (-107), 3) := by decide +kernel
theorem q_99_209 : js_I 99 209 = some (.aload_n 0, 1) := by decide +kernel
theorem q_99_210 : js_I 99 210 = some (.getfield 9, 3) := by decide +kernel
theorem q_99_213 : js_I 99 213 = some (.getfield 53, 3) := by decide +kernel
theorem q_99_216 : js_I 99 216 = some (.sipush 208, 3) := by decide +kernel
theorem q_99_219 : js_I 99 219 = some (.if_icmp .ne 22, 3) := by decide +kernel
theorem q_99_222 : js_I 99 222 = some (.aload_n 0, 1) := by decide +kernel
theorem q_99_223 : js_I 99 223 = some (.getfield 9, 3) := by decide +kernel
theorem q_99_226 : js_I 99 226 = some (.invokevirtual 89, 3) := by decide +kernel
theorem q_99_229 : js_I 99 229 = some (.aload_n 0, 1) := by decide +kernel
theorem q_99_230 : js_I 99 230 = some (.aload_n 0, 1) := by decide +kernel
theorem q_99_231 : js_I 99 231 = some (.getfield 15, 3) := by decide +kernel
theorem q_99_234 : js_I 99 234 = some (.getfield 212, 3) := by decide +kernel
theorem q_99_237 : js_I 99 237 = some (.aconst_null, 1) := by decide +kernel
theorem q_99_238 : js_I 99 238 = some (.invokevirtual 215, 3) := by decide +kernel
theorem q_99_241 : js_I 99 241 = some (.aload_n 0, 1) := by decide +kernel
theorem q_99_242 : js_I 99 242 = some (.getfield 9, 3) := by decide +kernel
theorem q_99_245 : js_I 99 245 = some (.bipush 125, 2) := by decide +kernel
theorem q_99_247 : js_I 99 247 = some (.invokevirtual 80, 3) := by decide +kernel
theorem q_99_250 : js_I 99 250 = some (.aload_n 0, 1) := by decide +kernel
theorem q_99_251 : js_I 99 251 = some (.getfield 25, 3) := by decide +kernel
theorem q_99_254 : js_I 99 254 = some (.iload_n 3, 1) := by decide +kernel
theorem q_99_255 : js_I 99 255 = some (.invokevirtual 227, 3) := by decide +kernel
theorem q_99_258 : js_I 99 258 = some (.aload_n 0, 1) := by decide +kernel
theorem q_99_259 : js_I 99 259 = some (.getfield 25, 3) := by decide +kernel
theorem q_99_262 : js_I 99 262 = some (.iload 4, 2) := by decide +kernel
theorem q_99_264 : js_I 99 264 = some (.aload_n 0, 1) := by decide +kernel
theorem q_99_265 : js_I 99 265 = some (.getfield 25, 3) := by decide +kernel
theorem q_99_268 : js_I 99 268 = some (.getfield 209, 3) := by decide +kernel
theorem q_99_271 : js_I 99 271 = some (.invokestatic 219, 3) := by decide +kernel
theorem q_99_274 : js_I 99 274 = some (.putfield 209, 3) := by decide +kernel
theorem q_99_277 : js_I 99 277 = some (.aload_n 0, 1) := by decide +kernel
theorem q_99_278 : js_I 99 278 = some (.getfield 25, 3) := by decide +kernel
theorem q_99_281 : js_I 99 281 = some (.iload_n 2, 1) := by decide +kernel
theorem q_99_282 : js_I 99 282 = some (.putfield 192, 3) := by decide +kernel
theorem q_99_285 : js_I 99 285 = some (.return_, 1) := by decide +kernel
theorem q_100_0 : js_I 100 0 = some (.aload_n 0, 1) := by decide +kernel
theorem q_100_1 : js_I 100 1 = some (.getfield 26, 3) := by decide +kernel
theorem q_100_4 : js_I 100 4 = some (.iload_n 1, 1) := by decide +kernel
theorem q_100_5 : js_I 100 5 = some (.invokevirtual 237, 3) := by decide +kernel
theorem q_100_8 : js_I 100 8 = some (.istore_n 3, 1) := by decide +kernel
theorem q_100_9 : js_I 100 9 = some (.aload_n 0, 1) := by decide +kernel
theorem q_100_10 : js_I 100 10 = some (.getfield 9, 3) := by decide +kernel
theorem q_100_13 : js_I 100 13 = some (.getfield 53, 3) := by decide +kernel
theorem q_100_16 : js_I 100 16 = some (.sipush 128, 3) := by decide +kernel
theorem q_100_19 : js_I 100 19 = some (.if_icmp .ne 7, 3) := by decide +kernel
theorem q_100_22 : js_I 100 22 = some (.iconst 1, 1) := by decide +kernel
theorem q_100_23 : js_I 100 23 = some (.goto 4, 3) := by decide +kernel
theorem q_100_26 : js_I 100 26 = some (.iconst 0, 1) := by decide +kernel
theorem q_100_27 : js_I 100 27 = some (.istore 4, 2) := by decide +kernel
theorem q_100_29 : js_I 100 29 = some (.iload 4, 2) := by decide +kernel
theorem q_100_31 : js_I 100 31 = some (.ifCond .eq 22, 3) := by decide +kernel
theorem q_100_34 : js_I 100 34 = some (.iload_n 1, 1) := by decide +kernel
theorem q_100_35 : js_I 100 35 = some (.ifCond .eq 18, 3) := by decide +kernel
theorem q_100_38 : js_I 100 38 = some (.aload_n 0, 1) := by decide +kernel
theorem q_100_39 : js_I 100 39 = some (.getfield 9, 3) := by decide +kernel
theorem q_100_42 : js_I 100 42 = some (.iconst 4, 1) := by decide +kernel
theorem q_100_43 : js_I 100 43 = some (.aload_n 0, 1) := by decide +kernel
theorem q_100_44 : js_I 100 44 = some (.getfield 9, 3) := by decide +kernel
theorem q_100_47 : js_I 100 47 = some (.getfield 110, 3) := by decide +kernel
theorem q_100_50 : js_I 100 50 = some (.invokevirtual 128, 3) := by decide +kernel
theorem q_100_53 : js_I 100 53 = some (.aload_n 0, 1) := by decide +kernel
theorem q_100_54 : js_I 100 54 = some (.iload_n 3, 1) := by decide +kernel
theorem q_100_55 : js_I 100 55 = some (.iload_n 2, 1) := by decide +kernel
theorem q_100_56 : js_I 100 56 = some (.iload 4, 2) := by decide +kernel
theorem q_100_58 : js_I 100 58 = some (.ifCond .eq 8, 3) := by decide +kernel
theorem q_100_66 : js_I 100 66 = some (.bipush 17, 2) := by decide +kernel
theorem q_100_61 : js_I 100 61 = some (.bipush 16, 2) := by decide +kernel
theorem q_100_63 : js_I 100 63 = some (.goto 5, 3) := by decide +kernel
theorem q_100_68 : js_I 100 68 = some (.iconst (-1), 1) := by decide +kernel
theorem q_100_69 : js_I 100 69 = some (.invokevirtual 241, 3) := by decide +kernel
theorem q_100_72 : js_I 100 72 = some (.istore 5, 2) := by decide +kernel
theorem q_100_74 : js_I 100 74 = some (.iload 4, 2) := by decide +kernel
theorem q_100_76 : js_I 100 76 = some (.ifCond .eq 41, 3) := by decide +kernel
theorem q_100_79 : js_I 100 79 = some (.aload_n 0, 1) := by decide +kernel
theorem q_100_80 : js_I 100 80 = some (.getfield 9, 3) := by decide +kernel
theorem q_100_83 : js_I 100 83 = some (.invokevirtual 89, 3) := by decide +kernel
theorem q_100_86 : js_I 100 86 = some (.aload_n 0, 1) := by decide +kernel
theorem q_100_87 : js_I 100 87 = some (.getfield 26, 3) := by decide +kernel
theorem q_100_90 : js_I 100 90 = some (.iconst 0, 1) := by decide +kernel
theorem q_100_91 : js_I 100 91 = some (.invokevirtual 237, 3) := by decide +kernel
theorem q_100_94 : js_I 100 94 = some (.istore 6, 2) := by decide +kernel
theorem q_100_96 : js_I 100 96 = some (.aload_n 0, 1) := by decide +kernel
theorem q_100_97 : js_I 100 97 = some (.getfield 26, 3) := by decide +kernel
theorem q_100_100 : js_I 100 100 = some (.iload_n 3, 1) := by decide +kernel
theorem q_100_101 : js_I 100 101 = some (.invokevirtual 245, 3) := by decide +kernel
theorem q_100_104 : js_I 100 104 = some (.aload_n 0, 1) := by decide +kernel
theorem q_100_105 : js_I 100 105 = some (.iload 6, 2) := by decide +kernel
theorem q_100_107 : js_I 100 107 = some (.iload_n 2, 1) := by decide +kernel
theorem q_100_108 : js_I 100 108 = some (.bipush 14, 2) := by decide +kernel
theorem q_100_110 : js_I 100 110 = some (.iload 5, 2) := by decide +kernel
theorem q_100_112 : js_I 100 112 = some (.invokevirtual 241, 3) := by decide +kernel
theorem q_100_115 : js_I 100 115 = some (.istore 5, 2) := by decide +kernel
theorem q_100_117 : js_I 100 117 = some (.aload_n 0, 1) := by decide +kernel
theorem q_100_118 : js_I 100 118 = some (.getfield 9, 3) := by decide +kernel
theorem q_100_121 : js_I 100 121 = some (.bipush 58, 2) := by decide +kernel
theorem q_100_123 : js_I 100 123 = some (.invokevirtual 59, 3) := by decide +kernel
theorem q_100_126 : js_I 100 126 = some (.iload 5, 2) := by decide +kernel
theorem q_100_128 : js_I 100 128 = some (.ireturn, 1) := by decide +kernel
theorem q_101_0 : js_I 101 0 = some (.aload_n 0, 1) := by decide +kernel
theorem q_101_1 : js_I 101 1 = some (.getfield 25, 3) := by decide +kernel
theorem q_101_4 : js_I 101 4 = some (.iconst 0, 1) := by decide +kernel
theorem q_101_5 : js_I 101 5 = some (.iload_n 1, 1) := by decide +kernel
theorem q_101_6 : js_I 101 6 = some (.iload_n 1, 1) := by decide +kernel
theorem q_101_7 : js_I 101 7 = some (.iload_n 1, 1) := by decide +kernel
theorem q_101_8 : js_I 101 8 = some (.invokevirtual 171, 3) := by decide +kernel
theorem q_101_11 : js_I 101 11 = some (.aload_n 0, 1) := by decide +kernel
theorem q_101_12 : js_I 101 12 = some (.getfield 25, 3) := by decide +kernel
theorem q_101_15 : js_I 101 15 = some (.iconst 3, 1) := by decide +kernel
theorem q_101_16 : js_I 101 16 = some (.iconst 0, 1) := by decide +kernel
theorem q_101_17 : js_I 101 17 = some (.invokevirtual 95, 3) := by decide +kernel
theorem q_101_20 : js_I 101 20 = some (.pop, 1) := by decide +kernel
theorem q_101_21 : js_I 101 21 = some (.aload_n 0, 1) := by decide +kernel
theorem q_101_22 : js_I 101 22 = some (.getfield 25, 3) := by decide +kernel
theorem q_101_25 : js_I 101 25 = some (.iload_n 2, 1) := by decide +kernel
theorem q_101_26 : js_I 101 26 = some (.invokevirtual 203, 3) := by decide +kernel
theorem q_101_29 : js_I 101 29 = some (.aload_n 0, 1) := by decide +kernel
theorem q_101_30 : js_I 101 30 = some (.getfield 25, 3) := by decide +kernel
theorem q_101_33 : js_I 101 33 = some (.iload_n 3, 1) := by decide +kernel
theorem q_101_34 : js_I 101 34 = some (.iconst 0, 1) := by decide +kernel
theorem q_101_35 : js_I 101 35 = some (.iconst 0, 1) := by decide +kernel
theorem q_101_36 : js_I 101 36 = some (.iconst 1, 1) := by decide +kernel
theorem q_101_37 : js_I 101 37 = some (.invokevirtual 171, 3) := by decide +kernel
theorem q_101_40 : js_I 101 40 = some (.aload_n 0, 1) := by decide +kernel
theorem q_101_41 : js_I 101 41 = some (.getfield 25, 3) := by decide +kernel
theorem q_101_44 : js_I 101 44 = some (.bipush 25, 2) := by decide +kernel
theorem q_101_46 : js_I 101 46 = some (.iload 4, 2) := by decide +kernel
theorem q_101_48 : js_I 101 48 = some (.invokevirtual 95, 3) := by decide +kernel
theorem q_101_51 : js_I 101 51 = some (.ireturn, 1) := by decide +kernel
theorem q_102_0 : js_I 102 0 = some (.iload_n 1, 1) := by decide +kernel
theorem q_102_1 : js_I 102 1 = some (.ifCond .lt 14, 3) := by decide +kernel
theorem q_102_4 : js_I 102 4 = some (.iload_n 1, 1) := by decide +kernel
theorem q_102_5 : js_I 102 5 = some (.sipush 1024, 3) := by decide +kernel
theorem q_102_8 : js_I 102 8 = some (.if_icmp .ge 7, 3) := by decide +kernel
theorem q_102_11 : js_I 102 11 = some (.iconst 1, 1) := by decide +kernel
theorem q_102_12 : js_I 102 12 = some (.goto 4, 3) := by decide +kernel
theorem q_102_15 : js_I 102 15 = some (.iconst 0, 1) := by decide +kernel
theorem q_102_16 : js_I 102 16 = some (.istore_n 2, 1) := by decide +kernel
theorem q_102_17 : js_I 102 17 = some (.aload_n 0, 1) := by decide +kernel
theorem q_102_18 : js_I 102 18 = some (.iconst 1, 1) := by decide +kernel
theorem q_102_19 : js_I 102 19 = some (.iload_n 1, 1) := by decide +kernel
theorem q_102_20 : js_I 102 20 = some (.iconst 0, 1) := by decide +kernel
theorem q_102_21 : js_I 102 21 = some (.iload_n 2, 1) := by decide +kernel
theorem q_102_22 : js_I 102 22 = some (.ifCond .eq 12, 3) := by decide +kernel
theorem q_102_34 : js_I 102 34 = some (.iconst 0, 1) := by decide +kernel
theorem q_102_25 : js_I 102 25 = some (.aload_n 0, 1) := by decide +kernel
theorem q_102_26 : js_I 102 26 = some (.getfield 36, 3) := by decide +kernel
theorem q_102_29 : js_I 102 29 = some (.iload_n 1, 1) := by decide +kernel
theorem q_102_30 : js_I 102 30 = some (.iaload, 1) := by decide +kernel
theorem q_102_31 : js_I 102 31 = some (.goto 4, 3) := by decide +kernel
theorem q_102_35 : js_I 102 35 = some (.iload_n 2, 1) := by decide +kernel
theorem q_102_36 : js_I 102 36 = some (.ifCond .eq 12, 3) := by decide +kernel
theorem q_102_48 : js_I 102 48 = some (.iconst 0, 1) := by decide +kernel
theorem q_102_39 : js_I 102 39 = some (.aload_n 0, 1) := by decide +kernel
theorem q_102_40 : js_I 102 40 = some (.getfield 39, 3) := by decide +kernel
theorem q_102_43 : js_I 102 43 = some (.iload_n 1, 1) := by decide +kernel
theorem q_102_44 : js_I 102 44 = some (.iaload, 1) := by decide +kernel
theorem q_102_45 : js_I 102 45 = some (.goto 4, 3) := by decide +kernel
theorem q_102_49 : js_I 102 49 = some (.aload_n 0, 1) := by decide +kernel
theorem q_102_50 : js_I 102 50 = some (.invokevirtual 100, 3) := by decide +kernel
theorem q_102_53 : js_I 102 53 = some (.invokevirtual 74, 3) := by decide +kernel
theorem q_102_56 : js_I 102 56 = some (.return_, 1) := by decide +kernel
theorem q_103_0 : js_I 103 0 = some (.iload_n 1, 1) := by decide +kernel
theorem q_103_1 : js_I 103 1 = some (.istore_n 2, 1) := by decide +kernel
theorem q_103_2 : js_I 103 2 = some (.iconst 0, 1) := by decide +kernel
theorem q_103_3 : js_I 103 3 = some (.istore_n 3, 1) := by decide +kernel
theorem q_103_4 : js_I 103 4 = some (.iload_n 3, 1) := by decide +kernel
theorem q_103_5 : js_I 103 5 = some (.ldc 121, 2) := by decide +kernel
theorem q_103_7 : js_I 103 7 = some (.if_icmp .ge 38, 3) := by decide +kernel
theorem q_103_10 : js_I 103 10 = some (.aload_n 0, 1) := by decide +kernel
theorem q_103_11 : js_I 103 11 = some (.iload_n 2, 1) := by decide +kernel
theorem q_103_12 : js_I 103 12 = some (.invokevirtual 117, 3) := by decide +kernel
theorem q_103_45 : js_I 103 45 = some (.return_, 1) := by decide +kernel
theorem q_103_15 : js_I 103 15 = some (.ifCond .eq 30, 3) := by decide +kernel
theorem q_103_18 : js_I 103 18 = some (.aload_n 0, 1) := by decide +kernel
theorem q_103_19 : js_I 103 19 = some (.getfield 15, 3) := by decide +kernel
theorem q_103_22 : js_I 103 22 = some (.iload_n 2, 1) := by decide +kernel
theorem q_103_23 : js_I 103 23 = some (.iaload, 1) := by decide +kernel
theorem q_103_24 : js_I 103 24 = some (.istore 4, 2) := by decide +kernel
theorem q_103_26 : js_I 103 26 = some (.aload_n 0, 1) := by decide +kernel
theorem q_103_27 : js_I 103 27 = some (.getfield 15, 3) := by decide +kernel
theorem q_103_30 : js_I 103 30 = some (.iload_n 2, 1) := by decide +kernel
theorem q_103_31 : js_I 103 31 = some (.aload_n 0, 1) := by decide +kernel
theorem q_103_32 : js_I 103 32 = some (.getfield 42, 3) := by decide +kernel
theorem q_103_35 : js_I 103 35 = some (.iastore, 1) := by decide +kernel
theorem q_103_36 : js_I 103 36 = some (.iload 4, 2) := by decide +kernel
theorem q_103_38 : js_I 103 38 = some (.istore_n 2, 1) := by decide +kernel
theorem q_103_39 : js_I 103 39 = some (.iinc 3 1, 3) := by decide +kernel
theorem q_103_42 : js_I 103 42 = some (.goto (-38), 3) := by decide +kernel
theorem qf_5_174 : ip_lk (vt_FL.getD 5 []) 174 = some (1, 7) := by decide +kernel
theorem qf_10_230 : ip_lk (vt_FL.getD 10 []) 230 = some (5, 0) := by decide +kernel
theorem qf_10_231 : ip_lk (vt_FL.getD 10 []) 231 = some (5, 3) := by decide +kernel
theorem qf_10_198 : ip_lk (vt_FL.getD 10 []) 198 = some (5, 1) := by decide +kernel
theorem qf_10_199 : ip_lk (vt_FL.getD 10 []) 199 = some (5, 2) := by decide +kernel
theorem qf_10_209 : ip_lk (vt_FL.getD 10 []) 209 = some (1, 7) := by decide +kernel
theorem qf_10_212 : ip_lk (vt_FL.getD 10 []) 212 = some (7, 1) := by decide +kernel
theorem qf_10_192 : ip_lk (vt_FL.getD 10 []) 192 = some (1, 10) := by decide +kernel
theorem qm_5_153 : ip_lk (vt_ML.getD 5 []) 153 = some (90, 3, 0, 0) := by decide +kernel
theorem qm_5_157 : ip_lk (vt_ML.getD 5 []) 157 = some (3, 2, 4, 0) := by decide +kernel
theorem qm_5_163 : ip_lk (vt_ML.getD 5 []) 163 = some (4, 2, 4, 0) := by decide +kernel
theorem qm_5_166 : ip_lk (vt_ML.getD 5 []) 166 = some (5, 1, 4, 0) := by decide +kernel
theorem qm_1_117 : ip_lk (vt_ML.getD 1 []) 117 = some (92, 1, 1, 1) := by decide +kernel
theorem qm_5_133 : ip_lk (vt_ML.getD 5 []) 133 = some (95, 2, 1, 1) := by decide +kernel
theorem qm_10_200 : ip_lk (vt_ML.getD 10 []) 200 = some (69, 2, 1, 1) := by decide +kernel
theorem qm_10_234 : ip_lk (vt_ML.getD 10 []) 234 = some (100, 2, 1, 10) := by decide +kernel
theorem qm_10_215 : ip_lk (vt_ML.getD 10 []) 215 = some (55, 2, 1, 10) := by decide +kernel
theorem qm_10_219 : ip_lk (vt_ML.getD 10 []) 219 = some (1, 2, 4, 0) := by decide +kernel
theorem qm_10_227 : ip_lk (vt_ML.getD 10 []) 227 = some (103, 1, 1, 1) := by decide +kernel
theorem qm_10_237 : ip_lk (vt_ML.getD 10 []) 237 = some (41, 1, 1, 2) := by decide +kernel
theorem qm_10_241 : ip_lk (vt_ML.getD 10 []) 241 = some (101, 4, 1, 10) := by decide +kernel
theorem qm_10_245 : ip_lk (vt_ML.getD 10 []) 245 = some (50, 1, 1, 2) := by decide +kernel
theorem qm_10_203 : ip_lk (vt_ML.getD 10 []) 203 = some (102, 1, 1, 1) := by decide +kernel
theorem qc_5_170 : ip_lk (vt_CL.getD 5 []) 170 = some (js_V (1, (-2000000000))) := by decide +kernel
theorem qc_5_172 : ip_lk (vt_CL.getD 5 []) 172 = some (js_V (1, 2000000000)) := by decide +kernel
theorem qc_1_121 : ip_lk (vt_CL.getD 1 []) 121 = some (js_V (0, 1000000)) := by decide +kernel
theorem ww_208 : js_w 208 = 208 := by decide +kernel
theorem ww_128 : js_w 128 = 128 := by decide +kernel
-- 89: VitalTwin$Expressions.finishSum (IJJ)V
theorem b_89_0 {E : js_E} {d : Nat} {σ : js_S} {x1 x2 x4 b : Int} : js_J E d 89 0 [(2, 23 + b), (0, x1), (1, x2), (9, 0), (1, x4), (9, 0), (9, 0), (9, 0), (9, 0), (9, 0), (9, 0), (9, 0), (9, 0), (9, 0), (9, 0), (9, 0), (9, 0), (9, 0), (9, 0), (9, 0)] [] σ = (if js_w x1 = 47 then js_J E d 89 12 [(2, 23 + b), (0, x1), (1, x2), (9, 0), (1, x4), (9, 0), (9, 0), (9, 0), (9, 0), (9, 0), (9, 0), (9, 0), (9, 0), (9, 0), (9, 0), (9, 0), (9, 0), (9, 0), (9, 0), (9, 0)] [] σ else (if js_w x1 = 37 then js_J E d 89 12 [(2, 23 + b), (0, x1), (1, x2), (9, 0), (1, x4), (9, 0), (9, 0), (9, 0), (9, 0), (9, 0), (9, 0), (9, 0), (9, 0), (9, 0), (9, 0), (9, 0), (9, 0), (9, 0), (9, 0), (9, 0)] [] σ else js_J E d 89 44 [(2, 23 + b), (0, x1), (1, x2), (9, 0), (1, x4), (9, 0), (9, 0), (9, 0), (9, 0), (9, 0), (9, 0), (9, 0), (9, 0), (9, 0), (9, 0), (9, 0), (9, 0), (9, 0), (9, 0), (9, 0)] [] σ)) :=
  (j_iload_n q_89_0 rfl).trans <| (j_bi q_89_1 rfl).trans <| (j_cmpeqB (t := 12) q_89_3 rfl ww_47).trans (js_ite (rfl) ((j_iload_n q_89_6 rfl).trans <| (j_bi q_89_7 rfl).trans <| (j_cmpneB (t := 44) q_89_9 rfl ww_37).trans (js_ite (rfl) (rfl))))
theorem b_89_12 {E : js_E} {d : Nat} {σ : js_S} {x1 x2 x4 b : Int} (hb : b = 0 ∨ b = 25) : js_J E d 89 12 [(2, 23 + b), (0, x1), (1, x2), (9, 0), (1, x4), (9, 0), (9, 0), (9, 0), (9, 0), (9, 0), (9, 0), (9, 0), (9, 0), (9, 0), (9, 0), (9, 0), (9, 0), (9, 0), (9, 0), (9, 0)] [] σ = (if 0 < js_w (σ (23 + b) 1) then js_J E d 89 44 [(2, 23 + b), (0, x1), (1, x2), (9, 0), (1, x4), (9, 0), (9, 0), (9, 0), (9, 0), (9, 0), (9, 0), (9, 0), (9, 0), (9, 0), (9, 0), (9, 0), (9, 0), (9, 0), (9, 0), (9, 0)] [] σ else (if js_w (σ (23 + b) 2) < 0 then js_J E d 89 44 [(2, 23 + b), (0, x1), (1, x2), (9, 0), (1, x4), (9, 0), (9, 0), (9, 0), (9, 0), (9, 0), (9, 0), (9, 0), (9, 0), (9, 0), (9, 0), (9, 0), (9, 0), (9, 0), (9, 0), (9, 0)] [] σ else (if 0 ≤ js_w (σ (23 + b) 15) ∧ js_w (σ (23 + b) 15) < 512 then js_J E d 89 41 [(2, 23 + b), (0, x1), (1, x2), (9, 0), (1, x4), (9, 0), (9, 0), (9, 0), (9, 0), (9, 0), (9, 0), (9, 0), (9, 0), (9, 0), (9, 0), (9, 0), (9, 0), (9, 0), (9, 0), (9, 0)] [(0, σ (26 + b) (js_w (σ (23 + b) 15))), (0, 7), (2, 1)] σ else none))) :=
  (j_aload_n q_89_12 rfl).trans <| (j_get (ji := 1) (v := (0, σ (23 + b) 1)) q_89_13 (js_Fo qy_89 qf_5_94) (js_o23b hb) rfl rfl rfl rfl).trans <| (j_ifgt (t := 44) q_89_16 rfl).trans (js_ite (rfl) ((j_aload_n q_89_19 rfl).trans <| (j_get (ji := 2) (v := (0, σ (23 + b) 2)) q_89_20 (js_Fo qy_89 qf_5_97) (js_o23b hb) rfl rfl rfl rfl).trans <| (j_iflt (t := 44) q_89_23 rfl).trans (js_ite (rfl) ((j_aload_n q_89_26 rfl).trans <| (j_get (ji := 4) (v := (2, 1)) q_89_27 (js_Fo qy_89 qf_5_33) (js_o23b hb) rfl rfl rfl rfl).trans <| (j_bi q_89_30 rfl).trans <| (j_aload_n q_89_32 rfl).trans <| (j_get (ji := 10) (v := (2, 26 + b)) q_89_33 (js_Fo qy_89 qf_5_18) (js_o23b hb) rfl rfl rfl rfl).trans <| (j_aload_n q_89_36 rfl).trans <| (j_get (ji := 15) (v := (0, σ (23 + b) 15)) q_89_37 (js_Fo qy_89 qf_5_52) (js_o23b hb) rfl rfl rfl rfl).trans <| (j_iaload q_89_40 (js_o26b hb)).trans <| js_itp fun g0 => rfl))))
theorem k_89_41 {E : js_E} {d : Nat} {σ σ2 : js_S} {x1 x2 x4 z1 z2 b : Int} (hd : 1 ≤ d) (hz : js_J E (d - 1) 36 0 [(2, 1), (0, z1), (0, z2)] [] σ = js_r0 E σ2) : js_J E d 89 41 [(2, 23 + b), (0, x1), (1, x2), (9, 0), (1, x4), (9, 0), (9, 0), (9, 0), (9, 0), (9, 0), (9, 0), (9, 0), (9, 0), (9, 0), (9, 0), (9, 0), (9, 0), (9, 0), (9, 0), (9, 0)] [(0, z2), (0, z1), (2, 1)] σ = js_J E d 89 44 [(2, 23 + b), (0, x1), (1, x2), (9, 0), (1, x4), (9, 0), (9, 0), (9, 0), (9, 0), (9, 0), (9, 0), (9, 0), (9, 0), (9, 0), (9, 0), (9, 0), (9, 0), (9, 0), (9, 0), (9, 0)] [] σ2 :=
  j_call0 (m := 0) (js_caV q_89_41 (js_Mo qy_89 qm_5_127)) (js_agV (av := [(0, z1), (0, z2)]) (st := []) rfl rfl js_o1 rfl) rfl rfl (by rw [ql_36]; exact Nat.le_of_ble_eq_true rfl) (Nat.le_of_ble_eq_true rfl) hd hz
theorem kt_89_41 {E : js_E} {d : Nat} {σ σ2 : js_S} {x1 x2 x4 z1 z2 b : Int} {w : Int} (hd : 1 ≤ d) (hz : js_J E (d - 1) 36 0 [(2, 1), (0, z1), (0, z2)] [] σ = js_t E w σ2) : js_J E d 89 41 [(2, 23 + b), (0, x1), (1, x2), (9, 0), (1, x4), (9, 0), (9, 0), (9, 0), (9, 0), (9, 0), (9, 0), (9, 0), (9, 0), (9, 0), (9, 0), (9, 0), (9, 0), (9, 0), (9, 0), (9, 0)] [(0, z2), (0, z1), (2, 1)] σ = js_t E w σ2 :=
  j_callT (m := 0) (js_caV q_89_41 (js_Mo qy_89 qm_5_127)) (js_agV (av := [(0, z1), (0, z2)]) (st := []) rfl rfl js_o1 rfl) rfl rfl (by rw [ql_36]; exact Nat.le_of_ble_eq_true rfl) (Nat.le_of_ble_eq_true rfl) hd rfl hz
theorem b_89_44 {E : js_E} {d : Nat} {σ : js_S} {x1 x2 x4 b : Int} (hb : b = 0 ∨ b = 25) : js_J E d 89 44 [(2, 23 + b), (0, x1), (1, x2), (9, 0), (1, x4), (9, 0), (9, 0), (9, 0), (9, 0), (9, 0), (9, 0), (9, 0), (9, 0), (9, 0), (9, 0), (9, 0), (9, 0), (9, 0), (9, 0), (9, 0)] [] σ = js_J E d 89 51 [(2, 23 + b), (0, x1), (1, x2), (9, 0), (1, x4), (9, 0), (9, 0), (9, 0), (9, 0), (9, 0), (9, 0), (9, 0), (9, 0), (9, 0), (9, 0), (9, 0), (9, 0), (9, 0), (9, 0), (9, 0)] [(1, js_w (σ (23 + b) 1)), (1, x2), (0, x1)] σ :=
  (j_iload_n q_89_44 rfl).trans <| (j_lload_n q_89_45 rfl).trans <| (j_aload_n q_89_46 rfl).trans <| (j_get (ji := 1) (v := (0, σ (23 + b) 1)) q_89_47 (js_Fo qy_89 qf_5_94) (js_o23b hb) rfl rfl rfl rfl).trans <| (j_i2l q_89_50).trans <| rfl
theorem k_89_51 {E : js_E} {d : Nat} {σ σ2 : js_S} {x1 x2 x4 z0 z1 z2 b : Int} {v : Int} (hd : 1 ≤ d) (hz : js_J E (d - 1) 90 0 [(0, z0), (1, z1), (9, 0), (1, z2), (9, 0)] [] σ = js_r E (1, v) σ2) : js_J E d 89 51 [(2, 23 + b), (0, x1), (1, x2), (9, 0), (1, x4), (9, 0), (9, 0), (9, 0), (9, 0), (9, 0), (9, 0), (9, 0), (9, 0), (9, 0), (9, 0), (9, 0), (9, 0), (9, 0), (9, 0), (9, 0)] [(1, z2), (1, z1), (0, z0)] σ = js_J E d 89 54 [(2, 23 + b), (0, x1), (1, x2), (9, 0), (1, x4), (9, 0), (9, 0), (9, 0), (9, 0), (9, 0), (9, 0), (9, 0), (9, 0), (9, 0), (9, 0), (9, 0), (9, 0), (9, 0), (9, 0), (9, 0)] [(1, v)] σ2 :=
  j_call (m := 0) (js_caS q_89_51 (js_Mo qy_89 qm_5_153)) (js_agS (av := [(0, z0), (1, z1), (1, z2)]) (st := []) rfl rfl) rfl rfl (by rw [ql_90]; exact Nat.le_of_ble_eq_true rfl) (Nat.le_of_ble_eq_true rfl) hd hz
theorem kt_89_51 {E : js_E} {d : Nat} {σ σ2 : js_S} {x1 x2 x4 z0 z1 z2 b : Int} {w : Int} (hd : 1 ≤ d) (hz : js_J E (d - 1) 90 0 [(0, z0), (1, z1), (9, 0), (1, z2), (9, 0)] [] σ = js_t E w σ2) : js_J E d 89 51 [(2, 23 + b), (0, x1), (1, x2), (9, 0), (1, x4), (9, 0), (9, 0), (9, 0), (9, 0), (9, 0), (9, 0), (9, 0), (9, 0), (9, 0), (9, 0), (9, 0), (9, 0), (9, 0), (9, 0), (9, 0)] [(1, z2), (1, z1), (0, z0)] σ = js_t E w σ2 :=
  j_callT (m := 0) (js_caS q_89_51 (js_Mo qy_89 qm_5_153)) (js_agS (av := [(0, z0), (1, z1), (1, z2)]) (st := []) rfl rfl) rfl rfl (by rw [ql_90]; exact Nat.le_of_ble_eq_true rfl) (Nat.le_of_ble_eq_true rfl) hd rfl hz
theorem b_89_54 {E : js_E} {d : Nat} {σ : js_S} {x1 x2 x4 z0 b : Int} (hb : b = 0 ∨ b = 25) : js_J E d 89 54 [(2, 23 + b), (0, x1), (1, x2), (9, 0), (1, x4), (9, 0), (9, 0), (9, 0), (9, 0), (9, 0), (9, 0), (9, 0), (9, 0), (9, 0), (9, 0), (9, 0), (9, 0), (9, 0), (9, 0), (9, 0)] [(1, z0)] σ = js_J E d 89 63 [(2, 23 + b), (0, x1), (1, x2), (9, 0), (1, x4), (9, 0), (1, z0), (9, 0), (9, 0), (9, 0), (9, 0), (9, 0), (9, 0), (9, 0), (9, 0), (9, 0), (9, 0), (9, 0), (9, 0), (9, 0)] [(1, js_w (σ (23 + b) 2)), (1, x2), (0, x1)] σ :=
  (j_lstore (l2 := [(2, 23 + b), (0, x1), (1, x2), (9, 0), (1, x4), (9, 0), (1, z0), (9, 0), (9, 0), (9, 0), (9, 0), (9, 0), (9, 0), (9, 0), (9, 0), (9, 0), (9, 0), (9, 0), (9, 0), (9, 0)]) q_89_54 rfl (Nat.le_of_ble_eq_true rfl)).trans <| (j_iload_n q_89_56 rfl).trans <| (j_lload_n q_89_57 rfl).trans <| (j_aload_n q_89_58 rfl).trans <| (j_get (ji := 2) (v := (0, σ (23 + b) 2)) q_89_59 (js_Fo qy_89 qf_5_97) (js_o23b hb) rfl rfl rfl rfl).trans <| (j_i2l q_89_62).trans <| rfl
theorem k_89_63 {E : js_E} {d : Nat} {σ σ2 : js_S} {x1 x2 x4 x6 z0 z1 z2 b : Int} {v : Int} (hd : 1 ≤ d) (hz : js_J E (d - 1) 90 0 [(0, z0), (1, z1), (9, 0), (1, z2), (9, 0)] [] σ = js_r E (1, v) σ2) : js_J E d 89 63 [(2, 23 + b), (0, x1), (1, x2), (9, 0), (1, x4), (9, 0), (1, x6), (9, 0), (9, 0), (9, 0), (9, 0), (9, 0), (9, 0), (9, 0), (9, 0), (9, 0), (9, 0), (9, 0), (9, 0), (9, 0)] [(1, z2), (1, z1), (0, z0)] σ = js_J E d 89 66 [(2, 23 + b), (0, x1), (1, x2), (9, 0), (1, x4), (9, 0), (1, x6), (9, 0), (9, 0), (9, 0), (9, 0), (9, 0), (9, 0), (9, 0), (9, 0), (9, 0), (9, 0), (9, 0), (9, 0), (9, 0)] [(1, v)] σ2 :=
  j_call (m := 0) (js_caS q_89_63 (js_Mo qy_89 qm_5_153)) (js_agS (av := [(0, z0), (1, z1), (1, z2)]) (st := []) rfl rfl) rfl rfl (by rw [ql_90]; exact Nat.le_of_ble_eq_true rfl) (Nat.le_of_ble_eq_true rfl) hd hz
theorem kt_89_63 {E : js_E} {d : Nat} {σ σ2 : js_S} {x1 x2 x4 x6 z0 z1 z2 b : Int} {w : Int} (hd : 1 ≤ d) (hz : js_J E (d - 1) 90 0 [(0, z0), (1, z1), (9, 0), (1, z2), (9, 0)] [] σ = js_t E w σ2) : js_J E d 89 63 [(2, 23 + b), (0, x1), (1, x2), (9, 0), (1, x4), (9, 0), (1, x6), (9, 0), (9, 0), (9, 0), (9, 0), (9, 0), (9, 0), (9, 0), (9, 0), (9, 0), (9, 0), (9, 0), (9, 0), (9, 0)] [(1, z2), (1, z1), (0, z0)] σ = js_t E w σ2 :=
  j_callT (m := 0) (js_caS q_89_63 (js_Mo qy_89 qm_5_153)) (js_agS (av := [(0, z0), (1, z1), (1, z2)]) (st := []) rfl rfl) rfl rfl (by rw [ql_90]; exact Nat.le_of_ble_eq_true rfl) (Nat.le_of_ble_eq_true rfl) hd rfl hz
theorem b_89_66 {E : js_E} {d : Nat} {σ : js_S} {x1 x2 x4 x6 z0 b : Int} (hb : b = 0 ∨ b = 25) : js_J E d 89 66 [(2, 23 + b), (0, x1), (1, x2), (9, 0), (1, x4), (9, 0), (1, x6), (9, 0), (9, 0), (9, 0), (9, 0), (9, 0), (9, 0), (9, 0), (9, 0), (9, 0), (9, 0), (9, 0), (9, 0), (9, 0)] [(1, z0)] σ = js_J E d 89 76 [(2, 23 + b), (0, x1), (1, x2), (9, 0), (1, x4), (9, 0), (1, x6), (9, 0), (1, z0), (9, 0), (9, 0), (9, 0), (9, 0), (9, 0), (9, 0), (9, 0), (9, 0), (9, 0), (9, 0), (9, 0)] [(1, js_w (σ (23 + b) 1)), (1, x4), (0, x1)] σ :=
  (j_lstore (l2 := [(2, 23 + b), (0, x1), (1, x2), (9, 0), (1, x4), (9, 0), (1, x6), (9, 0), (1, z0), (9, 0), (9, 0), (9, 0), (9, 0), (9, 0), (9, 0), (9, 0), (9, 0), (9, 0), (9, 0), (9, 0)]) q_89_66 rfl (Nat.le_of_ble_eq_true rfl)).trans <| (j_iload_n q_89_68 rfl).trans <| (j_lload q_89_69 rfl).trans <| (j_aload_n q_89_71 rfl).trans <| (j_get (ji := 1) (v := (0, σ (23 + b) 1)) q_89_72 (js_Fo qy_89 qf_5_94) (js_o23b hb) rfl rfl rfl rfl).trans <| (j_i2l q_89_75).trans <| rfl
theorem k_89_76 {E : js_E} {d : Nat} {σ σ2 : js_S} {x1 x2 x4 x6 x8 z0 z1 z2 b : Int} {v : Int} (hd : 1 ≤ d) (hz : js_J E (d - 1) 90 0 [(0, z0), (1, z1), (9, 0), (1, z2), (9, 0)] [] σ = js_r E (1, v) σ2) : js_J E d 89 76 [(2, 23 + b), (0, x1), (1, x2), (9, 0), (1, x4), (9, 0), (1, x6), (9, 0), (1, x8), (9, 0), (9, 0), (9, 0), (9, 0), (9, 0), (9, 0), (9, 0), (9, 0), (9, 0), (9, 0), (9, 0)] [(1, z2), (1, z1), (0, z0)] σ = js_J E d 89 79 [(2, 23 + b), (0, x1), (1, x2), (9, 0), (1, x4), (9, 0), (1, x6), (9, 0), (1, x8), (9, 0), (9, 0), (9, 0), (9, 0), (9, 0), (9, 0), (9, 0), (9, 0), (9, 0), (9, 0), (9, 0)] [(1, v)] σ2 :=
  j_call (m := 0) (js_caS q_89_76 (js_Mo qy_89 qm_5_153)) (js_agS (av := [(0, z0), (1, z1), (1, z2)]) (st := []) rfl rfl) rfl rfl (by rw [ql_90]; exact Nat.le_of_ble_eq_true rfl) (Nat.le_of_ble_eq_true rfl) hd hz
theorem kt_89_76 {E : js_E} {d : Nat} {σ σ2 : js_S} {x1 x2 x4 x6 x8 z0 z1 z2 b : Int} {w : Int} (hd : 1 ≤ d) (hz : js_J E (d - 1) 90 0 [(0, z0), (1, z1), (9, 0), (1, z2), (9, 0)] [] σ = js_t E w σ2) : js_J E d 89 76 [(2, 23 + b), (0, x1), (1, x2), (9, 0), (1, x4), (9, 0), (1, x6), (9, 0), (1, x8), (9, 0), (9, 0), (9, 0), (9, 0), (9, 0), (9, 0), (9, 0), (9, 0), (9, 0), (9, 0), (9, 0)] [(1, z2), (1, z1), (0, z0)] σ = js_t E w σ2 :=
  j_callT (m := 0) (js_caS q_89_76 (js_Mo qy_89 qm_5_153)) (js_agS (av := [(0, z0), (1, z1), (1, z2)]) (st := []) rfl rfl) rfl rfl (by rw [ql_90]; exact Nat.le_of_ble_eq_true rfl) (Nat.le_of_ble_eq_true rfl) hd rfl hz
theorem b_89_79 {E : js_E} {d : Nat} {σ : js_S} {x1 x2 x4 x6 x8 z0 b : Int} (hb : b = 0 ∨ b = 25) : js_J E d 89 79 [(2, 23 + b), (0, x1), (1, x2), (9, 0), (1, x4), (9, 0), (1, x6), (9, 0), (1, x8), (9, 0), (9, 0), (9, 0), (9, 0), (9, 0), (9, 0), (9, 0), (9, 0), (9, 0), (9, 0), (9, 0)] [(1, z0)] σ = js_J E d 89 89 [(2, 23 + b), (0, x1), (1, x2), (9, 0), (1, x4), (9, 0), (1, x6), (9, 0), (1, x8), (9, 0), (1, z0), (9, 0), (9, 0), (9, 0), (9, 0), (9, 0), (9, 0), (9, 0), (9, 0), (9, 0)] [(1, js_w (σ (23 + b) 2)), (1, x4), (0, x1)] σ :=
  (j_lstore (l2 := [(2, 23 + b), (0, x1), (1, x2), (9, 0), (1, x4), (9, 0), (1, x6), (9, 0), (1, x8), (9, 0), (1, z0), (9, 0), (9, 0), (9, 0), (9, 0), (9, 0), (9, 0), (9, 0), (9, 0), (9, 0)]) q_89_79 rfl (Nat.le_of_ble_eq_true rfl)).trans <| (j_iload_n q_89_81 rfl).trans <| (j_lload q_89_82 rfl).trans <| (j_aload_n q_89_84 rfl).trans <| (j_get (ji := 2) (v := (0, σ (23 + b) 2)) q_89_85 (js_Fo qy_89 qf_5_97) (js_o23b hb) rfl rfl rfl rfl).trans <| (j_i2l q_89_88).trans <| rfl
theorem k_89_89 {E : js_E} {d : Nat} {σ σ2 : js_S} {x1 x2 x4 x6 x8 x10 z0 z1 z2 b : Int} {v : Int} (hd : 1 ≤ d) (hz : js_J E (d - 1) 90 0 [(0, z0), (1, z1), (9, 0), (1, z2), (9, 0)] [] σ = js_r E (1, v) σ2) : js_J E d 89 89 [(2, 23 + b), (0, x1), (1, x2), (9, 0), (1, x4), (9, 0), (1, x6), (9, 0), (1, x8), (9, 0), (1, x10), (9, 0), (9, 0), (9, 0), (9, 0), (9, 0), (9, 0), (9, 0), (9, 0), (9, 0)] [(1, z2), (1, z1), (0, z0)] σ = js_J E d 89 92 [(2, 23 + b), (0, x1), (1, x2), (9, 0), (1, x4), (9, 0), (1, x6), (9, 0), (1, x8), (9, 0), (1, x10), (9, 0), (9, 0), (9, 0), (9, 0), (9, 0), (9, 0), (9, 0), (9, 0), (9, 0)] [(1, v)] σ2 :=
  j_call (m := 0) (js_caS q_89_89 (js_Mo qy_89 qm_5_153)) (js_agS (av := [(0, z0), (1, z1), (1, z2)]) (st := []) rfl rfl) rfl rfl (by rw [ql_90]; exact Nat.le_of_ble_eq_true rfl) (Nat.le_of_ble_eq_true rfl) hd hz
theorem kt_89_89 {E : js_E} {d : Nat} {σ σ2 : js_S} {x1 x2 x4 x6 x8 x10 z0 z1 z2 b : Int} {w : Int} (hd : 1 ≤ d) (hz : js_J E (d - 1) 90 0 [(0, z0), (1, z1), (9, 0), (1, z2), (9, 0)] [] σ = js_t E w σ2) : js_J E d 89 89 [(2, 23 + b), (0, x1), (1, x2), (9, 0), (1, x4), (9, 0), (1, x6), (9, 0), (1, x8), (9, 0), (1, x10), (9, 0), (9, 0), (9, 0), (9, 0), (9, 0), (9, 0), (9, 0), (9, 0), (9, 0)] [(1, z2), (1, z1), (0, z0)] σ = js_t E w σ2 :=
  j_callT (m := 0) (js_caS q_89_89 (js_Mo qy_89 qm_5_153)) (js_agS (av := [(0, z0), (1, z1), (1, z2)]) (st := []) rfl rfl) rfl rfl (by rw [ql_90]; exact Nat.le_of_ble_eq_true rfl) (Nat.le_of_ble_eq_true rfl) hd rfl hz
theorem b_89_92 {E : js_E} {d : Nat} {σ : js_S} {x1 x2 x4 x6 x8 x10 z0 b : Int} (hd : 4 ≤ d) (hb : b = 0 ∨ b = 25) : js_J E d 89 92 [(2, 23 + b), (0, x1), (1, x2), (9, 0), (1, x4), (9, 0), (1, x6), (9, 0), (1, x8), (9, 0), (1, x10), (9, 0), (9, 0), (9, 0), (9, 0), (9, 0), (9, 0), (9, 0), (9, 0), (9, 0)] [(1, z0)] σ = (if js_w x1 = 37 then (if js_l x2 < 0 then js_J E d 89 178 [(2, 23 + b), (0, x1), (1, x2), (9, 0), (1, x4), (9, 0), (1, x6), (9, 0), (1, x8), (9, 0), (1, x10), (9, 0), (1, z0), (9, 0), (1, if js_l (if js_l z0 < js_l x10 then z0 else x10) < js_l (if js_l x8 < js_l x6 then x8 else x6) then (if js_l z0 < js_l x10 then z0 else x10) else (if js_l x8 < js_l x6 then x8 else x6)), (9, 0), (1, if js_l (if js_l z0 < js_l x10 then x10 else z0) < js_l (if js_l x8 < js_l x6 then x6 else x8) then (if js_l x8 < js_l x6 then x6 else x8) else (if js_l z0 < js_l x10 then x10 else z0)), (9, 0), (1, (if js_l (if 0 < js_l (js_w (σ (23 + b) 2)) then (js_w (σ (23 + b) 2)) else -(js_w (σ (23 + b) 2))) < js_l (if 0 < js_l (js_w (σ (23 + b) 1)) then (js_w (σ (23 + b) 1)) else -(js_w (σ (23 + b) 1))) then (if 0 < js_l (js_w (σ (23 + b) 1)) then (js_w (σ (23 + b) 1)) else -(js_w (σ (23 + b) 1))) else (if 0 < js_l (js_w (σ (23 + b) 2)) then (js_w (σ (23 + b) 2)) else -(js_w (σ (23 + b) 2)))) - 1), (9, 0)] [(1, if js_l x2 < js_l (-((if js_l (if 0 < js_l (js_w (σ (23 + b) 2)) then (js_w (σ (23 + b) 2)) else -(js_w (σ (23 + b) 2))) < js_l (if 0 < js_l (js_w (σ (23 + b) 1)) then (js_w (σ (23 + b) 1)) else -(js_w (σ (23 + b) 1))) then (if 0 < js_l (js_w (σ (23 + b) 1)) then (js_w (σ (23 + b) 1)) else -(js_w (σ (23 + b) 1))) else (if 0 < js_l (js_w (σ (23 + b) 2)) then (js_w (σ (23 + b) 2)) else -(js_w (σ (23 + b) 2)))) - 1)) then (-((if js_l (if 0 < js_l (js_w (σ (23 + b) 2)) then (js_w (σ (23 + b) 2)) else -(js_w (σ (23 + b) 2))) < js_l (if 0 < js_l (js_w (σ (23 + b) 1)) then (js_w (σ (23 + b) 1)) else -(js_w (σ (23 + b) 1))) then (if 0 < js_l (js_w (σ (23 + b) 1)) then (js_w (σ (23 + b) 1)) else -(js_w (σ (23 + b) 1))) else (if 0 < js_l (js_w (σ (23 + b) 2)) then (js_w (σ (23 + b) 2)) else -(js_w (σ (23 + b) 2)))) - 1)) else x2)] σ else js_J E d 89 178 [(2, 23 + b), (0, x1), (1, x2), (9, 0), (1, x4), (9, 0), (1, x6), (9, 0), (1, x8), (9, 0), (1, x10), (9, 0), (1, z0), (9, 0), (1, if js_l (if js_l z0 < js_l x10 then z0 else x10) < js_l (if js_l x8 < js_l x6 then x8 else x6) then (if js_l z0 < js_l x10 then z0 else x10) else (if js_l x8 < js_l x6 then x8 else x6)), (9, 0), (1, if js_l (if js_l z0 < js_l x10 then x10 else z0) < js_l (if js_l x8 < js_l x6 then x6 else x8) then (if js_l x8 < js_l x6 then x6 else x8) else (if js_l z0 < js_l x10 then x10 else z0)), (9, 0), (1, (if js_l (if 0 < js_l (js_w (σ (23 + b) 2)) then (js_w (σ (23 + b) 2)) else -(js_w (σ (23 + b) 2))) < js_l (if 0 < js_l (js_w (σ (23 + b) 1)) then (js_w (σ (23 + b) 1)) else -(js_w (σ (23 + b) 1))) then (if 0 < js_l (js_w (σ (23 + b) 1)) then (js_w (σ (23 + b) 1)) else -(js_w (σ (23 + b) 1))) else (if 0 < js_l (js_w (σ (23 + b) 2)) then (js_w (σ (23 + b) 2)) else -(js_w (σ (23 + b) 2)))) - 1), (9, 0)] [(1, 0)] σ) else js_J E d 89 200 [(2, 23 + b), (0, x1), (1, x2), (9, 0), (1, x4), (9, 0), (1, x6), (9, 0), (1, x8), (9, 0), (1, x10), (9, 0), (1, z0), (9, 0), (1, if js_l (if js_l z0 < js_l x10 then z0 else x10) < js_l (if js_l x8 < js_l x6 then x8 else x6) then (if js_l z0 < js_l x10 then z0 else x10) else (if js_l x8 < js_l x6 then x8 else x6)), (9, 0), (1, if js_l (if js_l z0 < js_l x10 then x10 else z0) < js_l (if js_l x8 < js_l x6 then x6 else x8) then (if js_l x8 < js_l x6 then x6 else x8) else (if js_l z0 < js_l x10 then x10 else z0)), (9, 0), (9, 0), (9, 0)] [] σ) :=
  (j_lstore (l2 := [(2, 23 + b), (0, x1), (1, x2), (9, 0), (1, x4), (9, 0), (1, x6), (9, 0), (1, x8), (9, 0), (1, x10), (9, 0), (1, z0), (9, 0), (9, 0), (9, 0), (9, 0), (9, 0), (9, 0), (9, 0)]) q_89_92 rfl (Nat.le_of_ble_eq_true rfl)).trans <| (j_lload q_89_94 rfl).trans <| (j_lload q_89_96 rfl).trans <| (j_lmin (js_clS q_89_98 (js_Mo qy_89 qm_5_157)) (Nat.le_of_ble_eq_true rfl) hd).trans <| (j_lload q_89_101 rfl).trans <| (j_lload q_89_103 rfl).trans <| (j_lmin (js_clS q_89_105 (js_Mo qy_89 qm_5_157)) (Nat.le_of_ble_eq_true rfl) hd).trans <| (j_lmin (js_clS q_89_108 (js_Mo qy_89 qm_5_157)) (Nat.le_of_ble_eq_true rfl) hd).trans <| (j_lstore (l2 := [(2, 23 + b), (0, x1), (1, x2), (9, 0), (1, x4), (9, 0), (1, x6), (9, 0), (1, x8), (9, 0), (1, x10), (9, 0), (1, z0), (9, 0), (1, if js_l (if js_l z0 < js_l x10 then z0 else x10) < js_l (if js_l x8 < js_l x6 then x8 else x6) then (if js_l z0 < js_l x10 then z0 else x10) else (if js_l x8 < js_l x6 then x8 else x6)), (9, 0), (9, 0), (9, 0), (9, 0), (9, 0)]) q_89_111 rfl (Nat.le_of_ble_eq_true rfl)).trans <| (j_lload q_89_113 rfl).trans <| (j_lload q_89_115 rfl).trans <| (j_lmax (js_clS q_89_117 (js_Mo qy_89 qm_5_163)) (Nat.le_of_ble_eq_true rfl) hd).trans <| (j_lload q_89_120 rfl).trans <| (j_lload q_89_122 rfl).trans <| (j_lmax (js_clS q_89_124 (js_Mo qy_89 qm_5_163)) (Nat.le_of_ble_eq_true rfl) hd).trans <| (j_lmax (js_clS q_89_127 (js_Mo qy_89 qm_5_163)) (Nat.le_of_ble_eq_true rfl) hd).trans <| (j_lstore (l2 := [(2, 23 + b), (0, x1), (1, x2), (9, 0), (1, x4), (9, 0), (1, x6), (9, 0), (1, x8), (9, 0), (1, x10), (9, 0), (1, z0), (9, 0), (1, if js_l (if js_l z0 < js_l x10 then z0 else x10) < js_l (if js_l x8 < js_l x6 then x8 else x6) then (if js_l z0 < js_l x10 then z0 else x10) else (if js_l x8 < js_l x6 then x8 else x6)), (9, 0), (1, if js_l (if js_l z0 < js_l x10 then x10 else z0) < js_l (if js_l x8 < js_l x6 then x6 else x8) then (if js_l x8 < js_l x6 then x6 else x8) else (if js_l z0 < js_l x10 then x10 else z0)), (9, 0), (9, 0), (9, 0)]) q_89_130 rfl (Nat.le_of_ble_eq_true rfl)).trans <| (j_iload_n q_89_132 rfl).trans <| (j_bi q_89_133 rfl).trans <| (j_cmpneB (t := 200) q_89_135 rfl ww_37).trans (js_ite ((j_aload_n q_89_138 rfl).trans <| (j_get (ji := 1) (v := (0, σ (23 + b) 1)) q_89_139 (js_Fo qy_89 qf_5_94) (js_o23b hb) rfl rfl rfl rfl).trans <| (j_i2l q_89_142).trans <| (j_labs (js_clS q_89_143 (js_Mo qy_89 qm_5_166)) (Nat.le_of_ble_eq_true rfl) hd).trans <| (j_aload_n q_89_146 rfl).trans <| (j_get (ji := 2) (v := (0, σ (23 + b) 2)) q_89_147 (js_Fo qy_89 qf_5_97) (js_o23b hb) rfl rfl rfl rfl).trans <| (j_i2l q_89_150).trans <| (j_labs (js_clS q_89_151 (js_Mo qy_89 qm_5_166)) (Nat.le_of_ble_eq_true rfl) hd).trans <| (j_lmax (js_clS q_89_154 (js_Mo qy_89 qm_5_163)) (Nat.le_of_ble_eq_true rfl) hd).trans <| (j_lconst1 q_89_157).trans <| (j_lsub q_89_158).trans <| (j_lstore (l2 := [(2, 23 + b), (0, x1), (1, x2), (9, 0), (1, x4), (9, 0), (1, x6), (9, 0), (1, x8), (9, 0), (1, x10), (9, 0), (1, z0), (9, 0), (1, if js_l (if js_l z0 < js_l x10 then z0 else x10) < js_l (if js_l x8 < js_l x6 then x8 else x6) then (if js_l z0 < js_l x10 then z0 else x10) else (if js_l x8 < js_l x6 then x8 else x6)), (9, 0), (1, if js_l (if js_l z0 < js_l x10 then x10 else z0) < js_l (if js_l x8 < js_l x6 then x6 else x8) then (if js_l x8 < js_l x6 then x6 else x8) else (if js_l z0 < js_l x10 then x10 else z0)), (9, 0), (1, (if js_l (if 0 < js_l (js_w (σ (23 + b) 2)) then (js_w (σ (23 + b) 2)) else -(js_w (σ (23 + b) 2))) < js_l (if 0 < js_l (js_w (σ (23 + b) 1)) then (js_w (σ (23 + b) 1)) else -(js_w (σ (23 + b) 1))) then (if 0 < js_l (js_w (σ (23 + b) 1)) then (js_w (σ (23 + b) 1)) else -(js_w (σ (23 + b) 1))) else (if 0 < js_l (js_w (σ (23 + b) 2)) then (js_w (σ (23 + b) 2)) else -(js_w (σ (23 + b) 2)))) - 1), (9, 0)]) q_89_159 rfl (Nat.le_of_ble_eq_true rfl)).trans <| (j_lload_n q_89_161 rfl).trans <| (j_lconst0 q_89_162).trans <| (j_lgeB (t := 177) q_89_163 q_89_164 rfl wl_0).trans (js_ite ((j_lload q_89_167 rfl).trans <| (j_lneg q_89_169).trans <| (j_lload_n q_89_170 rfl).trans <| (j_lmax (js_clS q_89_171 (js_Mo qy_89 qm_5_163)) (Nat.le_of_ble_eq_true rfl) hd).trans <| (j_goto (t := 178) q_89_174 rfl).trans <| rfl) ((j_lconst0 q_89_177).trans <| rfl))) (rfl))
theorem b_89_178 {E : js_E} {d : Nat} {σ : js_S} {x1 x2 x4 x6 x8 x10 x12 x14 x16 x18 z0 b : Int} (hd : 4 ≤ d) : js_J E d 89 178 [(2, 23 + b), (0, x1), (1, x2), (9, 0), (1, x4), (9, 0), (1, x6), (9, 0), (1, x8), (9, 0), (1, x10), (9, 0), (1, x12), (9, 0), (1, x14), (9, 0), (1, x16), (9, 0), (1, x18), (9, 0)] [(1, z0)] σ = (if 0 < js_l x4 then js_J E d 89 198 [(2, 23 + b), (0, x1), (1, x2), (9, 0), (1, x4), (9, 0), (1, x6), (9, 0), (1, x8), (9, 0), (1, x10), (9, 0), (1, x12), (9, 0), (1, z0), (9, 0), (1, x16), (9, 0), (1, x18), (9, 0)] [(1, if js_l x4 < js_l x18 then x4 else x18)] σ else js_J E d 89 198 [(2, 23 + b), (0, x1), (1, x2), (9, 0), (1, x4), (9, 0), (1, x6), (9, 0), (1, x8), (9, 0), (1, x10), (9, 0), (1, x12), (9, 0), (1, z0), (9, 0), (1, x16), (9, 0), (1, x18), (9, 0)] [(1, 0)] σ) :=
  (j_lstore (l2 := [(2, 23 + b), (0, x1), (1, x2), (9, 0), (1, x4), (9, 0), (1, x6), (9, 0), (1, x8), (9, 0), (1, x10), (9, 0), (1, x12), (9, 0), (1, z0), (9, 0), (1, x16), (9, 0), (1, x18), (9, 0)]) q_89_178 rfl (Nat.le_of_ble_eq_true rfl)).trans <| (j_lload q_89_180 rfl).trans <| (j_lconst0 q_89_182).trans <| (j_lleB (t := 197) q_89_183 q_89_184 rfl wl_0).trans (js_ite ((j_lload q_89_187 rfl).trans <| (j_lload q_89_189 rfl).trans <| (j_lmin (js_clS q_89_191 (js_Mo qy_89 qm_5_157)) (Nat.le_of_ble_eq_true rfl) hd).trans <| (j_goto (t := 198) q_89_194 rfl).trans <| rfl) ((j_lconst0 q_89_197).trans <| rfl))
theorem b_89_198 {E : js_E} {d : Nat} {σ : js_S} {x1 x2 x4 x6 x8 x10 x12 x14 x16 x18 z0 b : Int} : js_J E d 89 198 [(2, 23 + b), (0, x1), (1, x2), (9, 0), (1, x4), (9, 0), (1, x6), (9, 0), (1, x8), (9, 0), (1, x10), (9, 0), (1, x12), (9, 0), (1, x14), (9, 0), (1, x16), (9, 0), (1, x18), (9, 0)] [(1, z0)] σ = js_J E d 89 200 [(2, 23 + b), (0, x1), (1, x2), (9, 0), (1, x4), (9, 0), (1, x6), (9, 0), (1, x8), (9, 0), (1, x10), (9, 0), (1, x12), (9, 0), (1, x14), (9, 0), (1, z0), (9, 0), (1, x18), (9, 0)] [] σ :=
  (j_lstore (l2 := [(2, 23 + b), (0, x1), (1, x2), (9, 0), (1, x4), (9, 0), (1, x6), (9, 0), (1, x8), (9, 0), (1, x10), (9, 0), (1, x12), (9, 0), (1, x14), (9, 0), (1, z0), (9, 0), (1, x18), (9, 0)]) q_89_198 rfl (Nat.le_of_ble_eq_true rfl)).trans <| rfl
theorem b_89_200 {E : js_E} {d : Nat} {σ : js_S} {x1 x2 x4 x6 x8 x10 x12 x14 x16 b : Int} {ux18 : js_v} : js_J E d 89 200 [(2, 23 + b), (0, x1), (1, x2), (9, 0), (1, x4), (9, 0), (1, x6), (9, 0), (1, x8), (9, 0), (1, x10), (9, 0), (1, x12), (9, 0), (1, x14), (9, 0), (1, x16), (9, 0), ux18, (9, 0)] [] σ = (if js_l x14 < (-2000000000) then js_J E d 89 218 [(2, 23 + b), (0, x1), (1, x2), (9, 0), (1, x4), (9, 0), (1, x6), (9, 0), (1, x8), (9, 0), (1, x10), (9, 0), (1, x12), (9, 0), (1, x14), (9, 0), (1, x16), (9, 0), ux18, (9, 0)] [] σ else (if 2000000000 < js_l x16 then js_J E d 89 218 [(2, 23 + b), (0, x1), (1, x2), (9, 0), (1, x4), (9, 0), (1, x6), (9, 0), (1, x8), (9, 0), (1, x10), (9, 0), (1, x12), (9, 0), (1, x14), (9, 0), (1, x16), (9, 0), ux18, (9, 0)] [] σ else js_J E d 89 236 [(2, 23 + b), (0, x1), (1, x2), (9, 0), (1, x4), (9, 0), (1, x6), (9, 0), (1, x8), (9, 0), (1, x10), (9, 0), (1, x12), (9, 0), (1, x14), (9, 0), (1, x16), (9, 0), ux18, (9, 0)] [] σ)) :=
  (j_lload q_89_200 rfl).trans <| (j_ldc2 (v := (1, (-2000000000))) q_89_202 (js_Co qy_89 qc_5_170)).trans <| (j_lltB (t := 218) q_89_205 q_89_206 rfl wl_m2000000000).trans (js_ite (rfl) ((j_lload q_89_209 rfl).trans <| (j_ldc2 (v := (1, 2000000000)) q_89_211 (js_Co qy_89 qc_5_172)).trans <| (j_lleB (t := 236) q_89_214 q_89_215 rfl wl_2000000000).trans (js_ite (rfl) (rfl))))
theorem b_89_218 {E : js_E} {d : Nat} {σ : js_S} {x1 x2 x4 x6 x8 x10 x12 x14 x16 b : Int} {ux18 : js_v} (hb : b = 0 ∨ b = 25) : js_J E d 89 218 [(2, 23 + b), (0, x1), (1, x2), (9, 0), (1, x4), (9, 0), (1, x6), (9, 0), (1, x8), (9, 0), (1, x10), (9, 0), (1, x12), (9, 0), (1, x14), (9, 0), (1, x16), (9, 0), ux18, (9, 0)] [] σ = (if 0 ≤ js_w (σ (23 + b) 15) ∧ js_w (σ (23 + b) 15) < 512 then js_J E d 89 233 [(2, 23 + b), (0, x1), (1, x2), (9, 0), (1, x4), (9, 0), (1, x6), (9, 0), (1, x8), (9, 0), (1, x10), (9, 0), (1, x12), (9, 0), (1, x14), (9, 0), (1, x16), (9, 0), ux18, (9, 0)] [(0, σ (26 + b) (js_w (σ (23 + b) 15))), (0, 8), (2, 1)] σ else none) :=
  (j_aload_n q_89_218 rfl).trans <| (j_get (ji := 4) (v := (2, 1)) q_89_219 (js_Fo qy_89 qf_5_33) (js_o23b hb) rfl rfl rfl rfl).trans <| (j_bi q_89_222 rfl).trans <| (j_aload_n q_89_224 rfl).trans <| (j_get (ji := 10) (v := (2, 26 + b)) q_89_225 (js_Fo qy_89 qf_5_18) (js_o23b hb) rfl rfl rfl rfl).trans <| (j_aload_n q_89_228 rfl).trans <| (j_get (ji := 15) (v := (0, σ (23 + b) 15)) q_89_229 (js_Fo qy_89 qf_5_52) (js_o23b hb) rfl rfl rfl rfl).trans <| (j_iaload q_89_232 (js_o26b hb)).trans <| js_itp fun g0 => rfl
theorem k_89_233 {E : js_E} {d : Nat} {σ σ2 : js_S} {x1 x2 x4 x6 x8 x10 x12 x14 x16 z1 z2 b : Int} {ux18 : js_v} (hd : 1 ≤ d) (hz : js_J E (d - 1) 36 0 [(2, 1), (0, z1), (0, z2)] [] σ = js_r0 E σ2) : js_J E d 89 233 [(2, 23 + b), (0, x1), (1, x2), (9, 0), (1, x4), (9, 0), (1, x6), (9, 0), (1, x8), (9, 0), (1, x10), (9, 0), (1, x12), (9, 0), (1, x14), (9, 0), (1, x16), (9, 0), ux18, (9, 0)] [(0, z2), (0, z1), (2, 1)] σ = js_J E d 89 236 [(2, 23 + b), (0, x1), (1, x2), (9, 0), (1, x4), (9, 0), (1, x6), (9, 0), (1, x8), (9, 0), (1, x10), (9, 0), (1, x12), (9, 0), (1, x14), (9, 0), (1, x16), (9, 0), ux18, (9, 0)] [] σ2 :=
  j_call0 (m := 0) (js_caV q_89_233 (js_Mo qy_89 qm_5_127)) (js_agV (av := [(0, z1), (0, z2)]) (st := []) rfl rfl js_o1 rfl) rfl rfl (by rw [ql_36]; exact Nat.le_of_ble_eq_true rfl) (Nat.le_of_ble_eq_true rfl) hd hz
theorem kt_89_233 {E : js_E} {d : Nat} {σ σ2 : js_S} {x1 x2 x4 x6 x8 x10 x12 x14 x16 z1 z2 b : Int} {ux18 : js_v} {w : Int} (hd : 1 ≤ d) (hz : js_J E (d - 1) 36 0 [(2, 1), (0, z1), (0, z2)] [] σ = js_t E w σ2) : js_J E d 89 233 [(2, 23 + b), (0, x1), (1, x2), (9, 0), (1, x4), (9, 0), (1, x6), (9, 0), (1, x8), (9, 0), (1, x10), (9, 0), (1, x12), (9, 0), (1, x14), (9, 0), (1, x16), (9, 0), ux18, (9, 0)] [(0, z2), (0, z1), (2, 1)] σ = js_t E w σ2 :=
  j_callT (m := 0) (js_caV q_89_233 (js_Mo qy_89 qm_5_127)) (js_agV (av := [(0, z1), (0, z2)]) (st := []) rfl rfl js_o1 rfl) rfl rfl (by rw [ql_36]; exact Nat.le_of_ble_eq_true rfl) (Nat.le_of_ble_eq_true rfl) hd rfl hz
theorem b_89_236 {E : js_E} {d : Nat} {σ : js_S} {x1 x2 x4 x6 x8 x10 x12 x14 x16 b : Int} {ux18 : js_v} (hb : b = 0 ∨ b = 25) : js_J E d 89 236 [(2, 23 + b), (0, x1), (1, x2), (9, 0), (1, x4), (9, 0), (1, x6), (9, 0), (1, x8), (9, 0), (1, x10), (9, 0), (1, x12), (9, 0), (1, x14), (9, 0), (1, x16), (9, 0), ux18, (9, 0)] [] σ = js_r0 E (js_up (js_up σ (23 + b) 1 x14) (23 + b) 2 x16) :=
  (j_aload_n q_89_236 rfl).trans <| (j_lload q_89_237 rfl).trans <| (j_l2i q_89_239).trans <| (j_putI (ji := 1) q_89_240 (js_Fo qy_89 qf_5_94) rfl (js_o23b hb) rfl rfl rfl).trans <| (j_aload_n q_89_243 rfl).trans <| (j_lload q_89_244 rfl).trans <| (j_l2i q_89_246).trans <| (j_putI (ji := 2) q_89_247 (js_Fo qy_89 qf_5_97) rfl (js_o23b hb) rfl rfl rfl).trans <| j_return q_89_250 qr_89
-- 90: VitalTwin$Expressions.result (IJJ)J
theorem b_90_0 {E : js_E} {d : Nat} {σ : js_S} {x0 x1 x3 : Int} : js_J E d 90 0 [(0, x0), (1, x1), (9, 0), (1, x3), (9, 0)] [] σ = js_J E d 90 1 [(0, x0), (1, x1), (9, 0), (1, x3), (9, 0)] [(0, x0)] σ :=
  (j_iload_n q_90_0 rfl).trans <| rfl
theorem s_90_1_42 {E : js_E} {d : Nat} {σ : js_S} {x0 x1 x3 z0 : Int} (h : js_w z0 = 42) : js_J E d 90 1 [(0, x0), (1, x1), (9, 0), (1, x3), (9, 0)] [(0, z0)] σ = js_J E d 90 40 [(0, x0), (1, x1), (9, 0), (1, x3), (9, 0)] [] σ :=
  j_tsw (t := 40) (off := 39) q_90_1 (by rw [h]; decide) (by rw [h]; decide) (by rw [h]; rfl) rfl
theorem s_90_1_43 {E : js_E} {d : Nat} {σ : js_S} {x0 x1 x3 z0 : Int} (h : js_w z0 = 43) : js_J E d 90 1 [(0, x0), (1, x1), (9, 0), (1, x3), (9, 0)] [(0, z0)] σ = js_J E d 90 32 [(0, x0), (1, x1), (9, 0), (1, x3), (9, 0)] [] σ :=
  j_tsw (t := 32) (off := 31) q_90_1 (by rw [h]; decide) (by rw [h]; decide) (by rw [h]; rfl) rfl
theorem s_90_1_44 {E : js_E} {d : Nat} {σ : js_S} {x0 x1 x3 z0 : Int} (h : js_w z0 = 44) : js_J E d 90 1 [(0, x0), (1, x1), (9, 0), (1, x3), (9, 0)] [(0, z0)] σ = js_J E d 90 44 [(0, x0), (1, x1), (9, 0), (1, x3), (9, 0)] [] σ :=
  j_tsw (t := 44) (off := 43) q_90_1 (by rw [h]; decide) (by rw [h]; decide) (by rw [h]; rfl) rfl
theorem s_90_1_45 {E : js_E} {d : Nat} {σ : js_S} {x0 x1 x3 z0 : Int} (h : js_w z0 = 45) : js_J E d 90 1 [(0, x0), (1, x1), (9, 0), (1, x3), (9, 0)] [(0, z0)] σ = js_J E d 90 36 [(0, x0), (1, x1), (9, 0), (1, x3), (9, 0)] [] σ :=
  j_tsw (t := 36) (off := 35) q_90_1 (by rw [h]; decide) (by rw [h]; decide) (by rw [h]; rfl) rfl
theorem s_90_1_d {E : js_E} {d : Nat} {σ : js_S} {x0 x1 x3 z0 : Int} (h : js_w z0 < 42 ∨ 45 < js_w z0) : js_J E d 90 1 [(0, x0), (1, x1), (9, 0), (1, x3), (9, 0)] [(0, z0)] σ = js_J E d 90 44 [(0, x0), (1, x1), (9, 0), (1, x3), (9, 0)] [] σ :=
  j_tswd (t := 44) q_90_1 h rfl
theorem b_90_32 {E : js_E} {d : Nat} {σ : js_S} {x0 x1 x3 : Int} : js_J E d 90 32 [(0, x0), (1, x1), (9, 0), (1, x3), (9, 0)] [] σ = js_r E (1, x1 + x3) σ :=
  (j_lload_n q_90_32 rfl).trans <| (j_lload_n q_90_33 rfl).trans <| (j_ladd q_90_34).trans <| j_lreturn q_90_35 qr_90
theorem b_90_36 {E : js_E} {d : Nat} {σ : js_S} {x0 x1 x3 : Int} : js_J E d 90 36 [(0, x0), (1, x1), (9, 0), (1, x3), (9, 0)] [] σ = js_r E (1, x1 - x3) σ :=
  (j_lload_n q_90_36 rfl).trans <| (j_lload_n q_90_37 rfl).trans <| (j_lsub q_90_38).trans <| j_lreturn q_90_39 qr_90
theorem b_90_40 {E : js_E} {d : Nat} {σ : js_S} {x0 x1 x3 : Int} : js_J E d 90 40 [(0, x0), (1, x1), (9, 0), (1, x3), (9, 0)] [] σ = js_r E (1, x1 * x3) σ :=
  (j_lload_n q_90_40 rfl).trans <| (j_lload_n q_90_41 rfl).trans <| (j_lmul q_90_42).trans <| j_lreturn q_90_43 qr_90
theorem b_90_44 {E : js_E} {d : Nat} {σ : js_S} {x0 x1 x3 : Int} : js_J E d 90 44 [(0, x0), (1, x1), (9, 0), (1, x3), (9, 0)] [] σ = (if js_l x3 = 0 then js_r E (1, 0) σ else (if js_l x3 = 0 then none else js_r E (1, (js_l x1).tdiv (js_l x3)) σ)) :=
  (j_lload_n q_90_44 rfl).trans <| (j_lconst0 q_90_45).trans <| (j_lneB (t := 54) q_90_46 q_90_47 rfl wl_0).trans (js_ite ((j_lconst0 q_90_50).trans <| (j_goto (t := 57) q_90_51 rfl).trans <| j_lreturn q_90_57 qr_90) ((j_lload_n q_90_54 rfl).trans <| (j_lload_n q_90_55 rfl).trans <| (j_ldiv q_90_56).trans <| js_ite rfl <| j_lreturn q_90_57 qr_90))
-- 91: VitalTwin$Code.land (I)V
theorem b_91_0 {E : js_E} {d : Nat} {σ : js_S} {x1 b : Int} : js_J E d 91 0 [(2, 8 + b), (0, x1)] [] σ = js_J E d 91 2 [(2, 8 + b), (0, x1)] [(0, x1), (2, 8 + b)] σ :=
  (j_aload_n q_91_0 rfl).trans <| (j_iload_n q_91_1 rfl).trans <| rfl
theorem k_91_2 {E : js_E} {d : Nat} {σ σ2 : js_S} {x1 z1 b : Int} (hb : b = 0 ∨ b = 25) {v : Int} (hd : 1 ≤ d) (hz : js_J E (d - 1) 92 0 [(2, 8 + b), (0, z1)] [] σ = js_r E (0, v) σ2) : js_J E d 91 2 [(2, 8 + b), (0, x1)] [(0, z1), (2, 8 + b)] σ = js_J E d 91 5 [(2, 8 + b), (0, x1)] [(0, v)] σ2 :=
  j_call (m := 0) (js_caV q_91_2 (js_Mo qy_91 qm_1_117)) (js_agV (av := [(0, z1)]) (st := []) rfl rfl (js_o8b hb) rfl) rfl rfl (by rw [ql_92]; exact Nat.le_of_ble_eq_true rfl) (Nat.le_of_ble_eq_true rfl) hd hz
theorem kt_91_2 {E : js_E} {d : Nat} {σ σ2 : js_S} {x1 z1 b : Int} (hb : b = 0 ∨ b = 25) {w : Int} (hd : 1 ≤ d) (hz : js_J E (d - 1) 92 0 [(2, 8 + b), (0, z1)] [] σ = js_t E w σ2) : js_J E d 91 2 [(2, 8 + b), (0, x1)] [(0, z1), (2, 8 + b)] σ = js_t E w σ2 :=
  j_callT (m := 0) (js_caV q_91_2 (js_Mo qy_91 qm_1_117)) (js_agV (av := [(0, z1)]) (st := []) rfl rfl (js_o8b hb) rfl) rfl rfl (by rw [ql_92]; exact Nat.le_of_ble_eq_true rfl) (Nat.le_of_ble_eq_true rfl) hd rfl hz
theorem b_91_5 {E : js_E} {d : Nat} {σ : js_S} {x1 z0 b : Int} (hb : b = 0 ∨ b = 25) : js_J E d 91 5 [(2, 8 + b), (0, x1)] [(0, z0)] σ = (if js_w z0 = 0 then js_r0 E σ else (if 0 ≤ js_w x1 ∧ js_w x1 < 8192 then js_r0 E (js_up σ (10 + b) (js_w x1) (σ (8 + b) 6)) else none)) :=
  (j_ifeq (t := 18) q_91_5 rfl).trans (js_ite (j_return q_91_18 qr_91) ((j_aload_n q_91_8 rfl).trans <| (j_get (ji := 1) (v := (2, 10 + b)) q_91_9 (js_Fo qy_91 qf_1_15) (js_o8b hb) rfl rfl rfl rfl).trans <| (j_iload_n q_91_12 rfl).trans <| (j_aload_n q_91_13 rfl).trans <| (j_get (ji := 6) (v := (0, σ (8 + b) 6)) q_91_14 (js_Fo qy_91 qf_1_42) (js_o8b hb) rfl rfl rfl rfl).trans <| (j_iastore q_91_17 (js_o10b hb)).trans <| js_itp fun g0 => j_return q_91_18 qr_91))
-- 92: VitalTwin$Code.has (I)Z
theorem b_92_0 {E : js_E} {d : Nat} {σ : js_S} {x1 b : Int} (hb : b = 0 ∨ b = 25) : js_J E d 92 0 [(2, 8 + b), (0, x1)] [] σ = (if js_w x1 < 0 then js_r E (0, 0) σ else (if js_w x1 < js_w (σ (8 + b) 6) then (if js_w x1 < 8192 then js_r E (0, 1) σ else js_r E (0, 0) σ) else js_r E (0, 0) σ)) :=
  (j_iload_n q_92_0 rfl).trans <| (j_iflt (t := 25) q_92_1 rfl).trans (js_ite ((j_iconst q_92_25).trans <| j_breturn0 q_92_26 qr_92) ((j_iload_n q_92_4 rfl).trans <| (j_aload_n q_92_5 rfl).trans <| (j_get (ji := 6) (v := (0, σ (8 + b) 6)) q_92_6 (js_Fo qy_92 qf_1_42) (js_o8b hb) rfl rfl rfl rfl).trans <| (j_cmpge (t := 25) q_92_9 rfl).trans (js_ite ((j_iload_n q_92_12 rfl).trans <| (j_aload_n q_92_13 rfl).trans <| (j_get (ji := 0) (v := (2, 9 + b)) q_92_14 (js_Fo qy_92 qf_1_9) (js_o8b hb) rfl rfl rfl rfl).trans <| (j_alen q_92_17 (js_o9b hb) (by decide) (by decide)).trans <| (j_cmpgeB (t := 25) q_92_18 rfl ww_8192).trans (js_ite ((j_iconst q_92_21).trans <| (j_goto (t := 26) q_92_22 rfl).trans <| j_breturn1 q_92_26 qr_92) ((j_iconst q_92_25).trans <| j_breturn0 q_92_26 qr_92))) ((j_iconst q_92_25).trans <| j_breturn0 q_92_26 qr_92))))
-- 93: VitalTwin$Expressions.opOf (IZ)I
theorem b_93_0 {E : js_E} {d : Nat} {σ : js_S} {x0 x1 : Int} : js_J E d 93 0 [(0, x0), (0, x1)] [] σ = js_J E d 93 1 [(0, x0), (0, x1)] [(0, x0)] σ :=
  (j_iload_n q_93_0 rfl).trans <| rfl
theorem s_93_1_37 {E : js_E} {d : Nat} {σ : js_S} {x0 x1 z0 : Int} (h : js_w z0 = 37) : js_J E d 93 1 [(0, x0), (0, x1)] [(0, z0)] σ = js_J E d 93 121 [(0, x0), (0, x1)] [] σ :=
  j_lsw (t := 121) q_93_1 (by rw [h]; rfl)
theorem s_93_1_42 {E : js_E} {d : Nat} {σ : js_S} {x0 x1 z0 : Int} (h : js_w z0 = 42) : js_J E d 93 1 [(0, x0), (0, x1)] [(0, z0)] σ = js_J E d 93 115 [(0, x0), (0, x1)] [] σ :=
  j_lsw (t := 115) q_93_1 (by rw [h]; rfl)
theorem s_93_1_43 {E : js_E} {d : Nat} {σ : js_S} {x0 x1 z0 : Int} (h : js_w z0 = 43) : js_J E d 93 1 [(0, x0), (0, x1)] [(0, z0)] σ = js_J E d 93 100 [(0, x0), (0, x1)] [] σ :=
  j_lsw (t := 100) q_93_1 (by rw [h]; rfl)
theorem s_93_1_45 {E : js_E} {d : Nat} {σ : js_S} {x0 x1 z0 : Int} (h : js_w z0 = 45) : js_J E d 93 1 [(0, x0), (0, x1)] [(0, z0)] σ = js_J E d 93 103 [(0, x0), (0, x1)] [] σ :=
  j_lsw (t := 103) q_93_1 (by rw [h]; rfl)
theorem s_93_1_47 {E : js_E} {d : Nat} {σ : js_S} {x0 x1 z0 : Int} (h : js_w z0 = 47) : js_J E d 93 1 [(0, x0), (0, x1)] [(0, z0)] σ = js_J E d 93 118 [(0, x0), (0, x1)] [] σ :=
  j_lsw (t := 118) q_93_1 (by rw [h]; rfl)
theorem s_93_1_60 {E : js_E} {d : Nat} {σ : js_S} {x0 x1 z0 : Int} (h : js_w z0 = 60) : js_J E d 93 1 [(0, x0), (0, x1)] [(0, z0)] σ = js_J E d 93 124 [(0, x0), (0, x1)] [] σ :=
  j_lsw (t := 124) q_93_1 (by rw [h]; rfl)
theorem s_93_1_62 {E : js_E} {d : Nat} {σ : js_S} {x0 x1 z0 : Int} (h : js_w z0 = 62) : js_J E d 93 1 [(0, x0), (0, x1)] [(0, z0)] σ = js_J E d 93 130 [(0, x0), (0, x1)] [] σ :=
  j_lsw (t := 130) q_93_1 (by rw [h]; rfl)
theorem s_93_1_129 {E : js_E} {d : Nat} {σ : js_S} {x0 x1 z0 : Int} (h : js_w z0 = 129) : js_J E d 93 1 [(0, x0), (0, x1)] [(0, z0)] σ = js_J E d 93 127 [(0, x0), (0, x1)] [] σ :=
  j_lsw (t := 127) q_93_1 (by rw [h]; rfl)
theorem s_93_1_130 {E : js_E} {d : Nat} {σ : js_S} {x0 x1 z0 : Int} (h : js_w z0 = 130) : js_J E d 93 1 [(0, x0), (0, x1)] [(0, z0)] σ = js_J E d 93 133 [(0, x0), (0, x1)] [] σ :=
  j_lsw (t := 133) q_93_1 (by rw [h]; rfl)
theorem s_93_1_131 {E : js_E} {d : Nat} {σ : js_S} {x0 x1 z0 : Int} (h : js_w z0 = 131) : js_J E d 93 1 [(0, x0), (0, x1)] [(0, z0)] σ = js_J E d 93 136 [(0, x0), (0, x1)] [] σ :=
  j_lsw (t := 136) q_93_1 (by rw [h]; rfl)
theorem s_93_1_132 {E : js_E} {d : Nat} {σ : js_S} {x0 x1 z0 : Int} (h : js_w z0 = 132) : js_J E d 93 1 [(0, x0), (0, x1)] [(0, z0)] σ = js_J E d 93 139 [(0, x0), (0, x1)] [] σ :=
  j_lsw (t := 139) q_93_1 (by rw [h]; rfl)
theorem s_93_1_d {E : js_E} {d : Nat} {σ : js_S} {x0 x1 z0 : Int} (h : js_w z0 ≠ 37 ∧ js_w z0 ≠ 42 ∧ js_w z0 ≠ 43 ∧ js_w z0 ≠ 45 ∧ js_w z0 ≠ 47 ∧ js_w z0 ≠ 60 ∧ js_w z0 ≠ 62 ∧ js_w z0 ≠ 129 ∧ js_w z0 ≠ 130 ∧ js_w z0 ≠ 131 ∧ js_w z0 ≠ 132) : js_J E d 93 1 [(0, x0), (0, x1)] [(0, z0)] σ = js_J E d 93 142 [(0, x0), (0, x1)] [] σ :=
  j_lsw (t := 142) q_93_1 (by obtain ⟨h0, h1, h2, h3, h4, h5, h6, h7, h8, h9, h10⟩ := h; simp [Op.lookupswitch.offset, Ne.symm h0, Ne.symm h1, Ne.symm h2, Ne.symm h3, Ne.symm h4, Ne.symm h5, Ne.symm h6, Ne.symm h7, Ne.symm h8, Ne.symm h9, Ne.symm h10]; rfl)
theorem b_93_100 {E : js_E} {d : Nat} {σ : js_S} {x0 x1 : Int} : js_J E d 93 100 [(0, x0), (0, x1)] [] σ = js_r E (0, 6) σ :=
  (j_bi q_93_100 rfl).trans <| j_ireturn q_93_102 qr_93
theorem b_93_103 {E : js_E} {d : Nat} {σ : js_S} {x0 x1 : Int} : js_J E d 93 103 [(0, x0), (0, x1)] [] σ = (if js_w x1 = 0 then js_r E (0, 7) σ else js_r E (0, 19) σ) :=
  (j_iload_n q_93_103 rfl).trans <| (j_ifeq (t := 112) q_93_104 rfl).trans (js_ite ((j_bi q_93_112 rfl).trans <| j_ireturn q_93_114 qr_93) ((j_bi q_93_107 rfl).trans <| (j_goto (t := 114) q_93_109 rfl).trans <| j_ireturn q_93_114 qr_93))
theorem b_93_115 {E : js_E} {d : Nat} {σ : js_S} {x0 x1 : Int} : js_J E d 93 115 [(0, x0), (0, x1)] [] σ = js_r E (0, 8) σ :=
  (j_bi q_93_115 rfl).trans <| j_ireturn q_93_117 qr_93
theorem b_93_118 {E : js_E} {d : Nat} {σ : js_S} {x0 x1 : Int} : js_J E d 93 118 [(0, x0), (0, x1)] [] σ = js_r E (0, 9) σ :=
  (j_bi q_93_118 rfl).trans <| j_ireturn q_93_120 qr_93
theorem b_93_121 {E : js_E} {d : Nat} {σ : js_S} {x0 x1 : Int} : js_J E d 93 121 [(0, x0), (0, x1)] [] σ = js_r E (0, 10) σ :=
  (j_bi q_93_121 rfl).trans <| j_ireturn q_93_123 qr_93
theorem b_93_124 {E : js_E} {d : Nat} {σ : js_S} {x0 x1 : Int} : js_J E d 93 124 [(0, x0), (0, x1)] [] σ = js_r E (0, 13) σ :=
  (j_bi q_93_124 rfl).trans <| j_ireturn q_93_126 qr_93
theorem b_93_127 {E : js_E} {d : Nat} {σ : js_S} {x0 x1 : Int} : js_J E d 93 127 [(0, x0), (0, x1)] [] σ = js_r E (0, 14) σ :=
  (j_bi q_93_127 rfl).trans <| j_ireturn q_93_129 qr_93
theorem b_93_130 {E : js_E} {d : Nat} {σ : js_S} {x0 x1 : Int} : js_J E d 93 130 [(0, x0), (0, x1)] [] σ = js_r E (0, 15) σ :=
  (j_bi q_93_130 rfl).trans <| j_ireturn q_93_132 qr_93
theorem b_93_133 {E : js_E} {d : Nat} {σ : js_S} {x0 x1 : Int} : js_J E d 93 133 [(0, x0), (0, x1)] [] σ = js_r E (0, 16) σ :=
  (j_bi q_93_133 rfl).trans <| j_ireturn q_93_135 qr_93
theorem b_93_136 {E : js_E} {d : Nat} {σ : js_S} {x0 x1 : Int} : js_J E d 93 136 [(0, x0), (0, x1)] [] σ = js_r E (0, 17) σ :=
  (j_bi q_93_136 rfl).trans <| j_ireturn q_93_138 qr_93
theorem b_93_139 {E : js_E} {d : Nat} {σ : js_S} {x0 x1 : Int} : js_J E d 93 139 [(0, x0), (0, x1)] [] σ = js_r E (0, 18) σ :=
  (j_bi q_93_139 rfl).trans <| j_ireturn q_93_141 qr_93
theorem b_93_142 {E : js_E} {d : Nat} {σ : js_S} {x0 x1 : Int} : js_J E d 93 142 [(0, x0), (0, x1)] [] σ = js_r E (0, 21) σ :=
  (j_bi q_93_142 rfl).trans <| j_ireturn q_93_144 qr_93
-- 94: VitalTwin$Expressions.begin (I)V
theorem b_94_0 {E : js_E} {d : Nat} {σ : js_S} {x1 b : Int} (hb : b = 0 ∨ b = 25) : js_J E d 94 0 [(2, 23 + b), (0, x1), (9, 0)] [] σ = (if 2 < js_w x1 then js_J E d 94 43 [(2, 23 + b), (0, x1), (0, (-1))] [(0, σ (23 + b) 2), (0, σ (23 + b) 1), (2, 8 + b)] σ else (if js_w x1 = 1 then js_J E d 94 23 [(2, 23 + b), (0, x1), (0, (-1))] [(0, 26), (2, 8 + b)] σ else js_J E d 94 23 [(2, 23 + b), (0, x1), (0, (-1))] [(0, 25), (2, 8 + b)] σ)) :=
  (j_iconst q_94_0).trans <| (j_istore_n (l2 := [(2, 23 + b), (0, x1), (0, (-1))]) q_94_1 rfl (Nat.le_of_ble_eq_true rfl)).trans <| (j_iload_n q_94_2 rfl).trans <| (j_iconst q_94_3).trans <| (j_cmpgtB (t := 31) q_94_4 rfl ww_2).trans (js_ite ((j_aload_n q_94_31 rfl).trans <| (j_get (ji := 6) (v := (2, 8 + b)) q_94_32 (js_Fo qy_94 qf_5_47) (js_o23b hb) rfl rfl rfl rfl).trans <| (j_aload_n q_94_35 rfl).trans <| (j_get (ji := 1) (v := (0, σ (23 + b) 1)) q_94_36 (js_Fo qy_94 qf_5_94) (js_o23b hb) rfl rfl rfl rfl).trans <| (j_aload_n q_94_39 rfl).trans <| (j_get (ji := 2) (v := (0, σ (23 + b) 2)) q_94_40 (js_Fo qy_94 qf_5_97) (js_o23b hb) rfl rfl rfl rfl).trans <| rfl) ((j_aload_n q_94_7 rfl).trans <| (j_get (ji := 6) (v := (2, 8 + b)) q_94_8 (js_Fo qy_94 qf_5_47) (js_o23b hb) rfl rfl rfl rfl).trans <| (j_iload_n q_94_11 rfl).trans <| (j_iconst q_94_12).trans <| (j_cmpneB (t := 21) q_94_13 rfl ww_1).trans (js_ite ((j_bi q_94_16 rfl).trans <| (j_goto (t := 23) q_94_18 rfl).trans <| rfl) ((j_bi q_94_21 rfl).trans <| rfl))))
theorem b_94_23 {E : js_E} {d : Nat} {σ : js_S} {x1 x2 z1 b : Int} : js_J E d 94 23 [(2, 23 + b), (0, x1), (0, x2)] [(0, z1), (2, 8 + b)] σ = js_J E d 94 24 [(2, 23 + b), (0, x1), (0, x2)] [(0, 0), (0, z1), (2, 8 + b)] σ :=
  (j_iconst q_94_23).trans <| rfl
theorem k_94_24 {E : js_E} {d : Nat} {σ σ2 : js_S} {x1 x2 z1 z2 b : Int} (hb : b = 0 ∨ b = 25) {v : Int} (hd : 1 ≤ d) (hz : js_J E (d - 1) 95 0 [(2, 8 + b), (0, z1), (0, z2)] [] σ = js_r E (0, v) σ2) : js_J E d 94 24 [(2, 23 + b), (0, x1), (0, x2)] [(0, z2), (0, z1), (2, 8 + b)] σ = js_J E d 94 27 [(2, 23 + b), (0, x1), (0, x2)] [(0, v)] σ2 :=
  j_call (m := 0) (js_caV q_94_24 (js_Mo qy_94 qm_5_133)) (js_agV (av := [(0, z1), (0, z2)]) (st := []) rfl rfl (js_o8b hb) rfl) rfl rfl (by rw [ql_95]; exact Nat.le_of_ble_eq_true rfl) (Nat.le_of_ble_eq_true rfl) hd hz
theorem kt_94_24 {E : js_E} {d : Nat} {σ σ2 : js_S} {x1 x2 z1 z2 b : Int} (hb : b = 0 ∨ b = 25) {w : Int} (hd : 1 ≤ d) (hz : js_J E (d - 1) 95 0 [(2, 8 + b), (0, z1), (0, z2)] [] σ = js_t E w σ2) : js_J E d 94 24 [(2, 23 + b), (0, x1), (0, x2)] [(0, z2), (0, z1), (2, 8 + b)] σ = js_t E w σ2 :=
  j_callT (m := 0) (js_caV q_94_24 (js_Mo qy_94 qm_5_133)) (js_agV (av := [(0, z1), (0, z2)]) (st := []) rfl rfl (js_o8b hb) rfl) rfl rfl (by rw [ql_95]; exact Nat.le_of_ble_eq_true rfl) (Nat.le_of_ble_eq_true rfl) hd rfl hz
theorem b_94_27 {E : js_E} {d : Nat} {σ : js_S} {x1 x2 z0 b : Int} : js_J E d 94 27 [(2, 23 + b), (0, x1), (0, x2)] [(0, z0)] σ = js_J E d 94 47 [(2, 23 + b), (0, x1), (0, z0)] [] σ :=
  (j_istore_n (l2 := [(2, 23 + b), (0, x1), (0, z0)]) q_94_27 rfl (Nat.le_of_ble_eq_true rfl)).trans <| (j_goto (t := 47) q_94_28 rfl).trans <| rfl
theorem k_94_43 {E : js_E} {d : Nat} {σ σ2 : js_S} {x1 x2 z1 z2 b : Int} (hb : b = 0 ∨ b = 25) {v : Int} (hd : 1 ≤ d) (hz : js_J E (d - 1) 69 0 [(2, 8 + b), (0, z1), (0, z2), (9, 0)] [] σ = js_r E (0, v) σ2) : js_J E d 94 43 [(2, 23 + b), (0, x1), (0, x2)] [(0, z2), (0, z1), (2, 8 + b)] σ = js_J E d 94 46 [(2, 23 + b), (0, x1), (0, x2)] [(0, v)] σ2 :=
  j_call (m := 1) (js_caV q_94_43 (js_Mo qy_94 qm_5_137)) (js_agV (av := [(0, z1), (0, z2)]) (st := []) rfl rfl (js_o8b hb) rfl) rfl rfl (by rw [ql_69]; exact Nat.le_of_ble_eq_true rfl) (Nat.le_of_ble_eq_true rfl) hd hz
theorem kt_94_43 {E : js_E} {d : Nat} {σ σ2 : js_S} {x1 x2 z1 z2 b : Int} (hb : b = 0 ∨ b = 25) {w : Int} (hd : 1 ≤ d) (hz : js_J E (d - 1) 69 0 [(2, 8 + b), (0, z1), (0, z2), (9, 0)] [] σ = js_t E w σ2) : js_J E d 94 43 [(2, 23 + b), (0, x1), (0, x2)] [(0, z2), (0, z1), (2, 8 + b)] σ = js_t E w σ2 :=
  j_callT (m := 1) (js_caV q_94_43 (js_Mo qy_94 qm_5_137)) (js_agV (av := [(0, z1), (0, z2)]) (st := []) rfl rfl (js_o8b hb) rfl) rfl rfl (by rw [ql_69]; exact Nat.le_of_ble_eq_true rfl) (Nat.le_of_ble_eq_true rfl) hd rfl hz
theorem b_94_46 {E : js_E} {d : Nat} {σ : js_S} {x1 x2 z0 b : Int} : js_J E d 94 46 [(2, 23 + b), (0, x1), (0, x2)] [(0, z0)] σ = js_J E d 94 47 [(2, 23 + b), (0, x1), (0, x2)] [] σ :=
  (j_pop0 q_94_46).trans <| rfl
theorem b_94_47 {E : js_E} {d : Nat} {σ : js_S} {x1 x2 b : Int} : js_J E d 94 47 [(2, 23 + b), (0, x1), (0, x2)] [] σ = js_J E d 94 50 [(2, 23 + b), (0, x1), (0, x2)] [(0, x2), (0, x1), (2, 23 + b)] σ :=
  (j_aload_n q_94_47 rfl).trans <| (j_iload_n q_94_48 rfl).trans <| (j_iload_n q_94_49 rfl).trans <| rfl
theorem k_94_50 {E : js_E} {d : Nat} {σ σ2 : js_S} {x1 x2 z1 z2 b : Int} (hb : b = 0 ∨ b = 25) (hd : 1 ≤ d) (hz : js_J E (d - 1) 63 0 [(2, 23 + b), (0, z1), (0, z2)] [] σ = js_r0 E σ2) : js_J E d 94 50 [(2, 23 + b), (0, x1), (0, x2)] [(0, z2), (0, z1), (2, 23 + b)] σ = js_J E d 94 53 [(2, 23 + b), (0, x1), (0, x2)] [] σ2 :=
  j_call0 (m := 0) (js_caV q_94_50 (js_Mo qy_94 qm_5_120)) (js_agV (av := [(0, z1), (0, z2)]) (st := []) rfl rfl (js_o23b hb) rfl) rfl rfl (by rw [ql_63]; exact Nat.le_of_ble_eq_true rfl) (Nat.le_of_ble_eq_true rfl) hd hz
theorem kt_94_50 {E : js_E} {d : Nat} {σ σ2 : js_S} {x1 x2 z1 z2 b : Int} (hb : b = 0 ∨ b = 25) {w : Int} (hd : 1 ≤ d) (hz : js_J E (d - 1) 63 0 [(2, 23 + b), (0, z1), (0, z2)] [] σ = js_t E w σ2) : js_J E d 94 50 [(2, 23 + b), (0, x1), (0, x2)] [(0, z2), (0, z1), (2, 23 + b)] σ = js_t E w σ2 :=
  j_callT (m := 0) (js_caV q_94_50 (js_Mo qy_94 qm_5_120)) (js_agV (av := [(0, z1), (0, z2)]) (st := []) rfl rfl (js_o23b hb) rfl) rfl rfl (by rw [ql_63]; exact Nat.le_of_ble_eq_true rfl) (Nat.le_of_ble_eq_true rfl) hd rfl hz
theorem b_94_53 {E : js_E} {d : Nat} {σ : js_S} {x1 x2 b : Int} (hb : b = 0 ∨ b = 25) : js_J E d 94 53 [(2, 23 + b), (0, x1), (0, x2)] [] σ = js_J E d 94 57 [(2, 23 + b), (0, x1), (0, x2)] [(2, 1)] σ :=
  (j_aload_n q_94_53 rfl).trans <| (j_get (ji := 4) (v := (2, 1)) q_94_54 (js_Fo qy_94 qf_5_33) (js_o23b hb) rfl rfl rfl rfl).trans <| rfl
theorem k_94_57 {E : js_E} {d : Nat} {σ σ2 : js_S} {x1 x2 b : Int} (hd : 1 ≤ d) (hz : js_J E (d - 1) 33 0 [(2, 1), (9, 0)] [] σ = js_r0 E σ2) : js_J E d 94 57 [(2, 23 + b), (0, x1), (0, x2)] [(2, 1)] σ = js_J E d 94 60 [(2, 23 + b), (0, x1), (0, x2)] [] σ2 :=
  j_call0 (m := 1) (js_caV q_94_57 (js_Mo qy_94 qm_5_140)) (js_agV (av := []) (st := []) rfl rfl js_o1 rfl) rfl rfl (by rw [ql_33]; exact Nat.le_of_ble_eq_true rfl) (Nat.le_of_ble_eq_true rfl) hd hz
theorem kt_94_57 {E : js_E} {d : Nat} {σ σ2 : js_S} {x1 x2 b : Int} {w : Int} (hd : 1 ≤ d) (hz : js_J E (d - 1) 33 0 [(2, 1), (9, 0)] [] σ = js_t E w σ2) : js_J E d 94 57 [(2, 23 + b), (0, x1), (0, x2)] [(2, 1)] σ = js_t E w σ2 :=
  j_callT (m := 1) (js_caV q_94_57 (js_Mo qy_94 qm_5_140)) (js_agV (av := []) (st := []) rfl rfl js_o1 rfl) rfl rfl (by rw [ql_33]; exact Nat.le_of_ble_eq_true rfl) (Nat.le_of_ble_eq_true rfl) hd rfl hz
theorem b_94_60 {E : js_E} {d : Nat} {σ : js_S} {x1 x2 b : Int} : js_J E d 94 60 [(2, 23 + b), (0, x1), (0, x2)] [] σ = js_r0 E σ :=
  j_return q_94_60 qr_94
-- 95: VitalTwin$Code.add (II)I
theorem b_95_0 {E : js_E} {d : Nat} {σ : js_S} {x1 x2 b : Int} : js_J E d 95 0 [(2, 8 + b), (0, x1), (0, x2)] [] σ = js_J E d 95 7 [(2, 8 + b), (0, x1), (0, x2)] [(0, 0), (0, 0), (0, 1), (0, 0), (0, x2), (0, x1), (2, 8 + b)] σ :=
  (j_aload_n q_95_0 rfl).trans <| (j_iload_n q_95_1 rfl).trans <| (j_iload_n q_95_2 rfl).trans <| (j_iconst q_95_3).trans <| (j_iconst q_95_4).trans <| (j_iconst q_95_5).trans <| (j_iconst q_95_6).trans <| rfl
theorem k_95_7 {E : js_E} {d : Nat} {σ σ2 : js_S} {x1 x2 z1 z2 z3 z4 z5 z6 b : Int} (hb : b = 0 ∨ b = 25) (hd : 1 ≤ d) (hz : js_J E (d - 1) 60 0 [(2, 8 + b), (0, z1), (0, z2), (0, z3), (0, z4), (0, z5), (0, z6), (9, 0)] [] σ = js_r0 E σ2) : js_J E d 95 7 [(2, 8 + b), (0, x1), (0, x2)] [(0, z6), (0, z5), (0, z4), (0, z3), (0, z2), (0, z1), (2, 8 + b)] σ = js_J E d 95 10 [(2, 8 + b), (0, x1), (0, x2)] [] σ2 :=
  j_call0 (m := 1) (js_caV q_95_7 (js_Mo qy_95 qm_1_74)) (js_agV (av := [(0, z1), (0, z2), (0, z3), (0, z4), (0, z5), (0, z6)]) (st := []) rfl rfl (js_o8b hb) rfl) rfl rfl (by rw [ql_60]; exact Nat.le_of_ble_eq_true rfl) (Nat.le_of_ble_eq_true rfl) hd hz
theorem kt_95_7 {E : js_E} {d : Nat} {σ σ2 : js_S} {x1 x2 z1 z2 z3 z4 z5 z6 b : Int} (hb : b = 0 ∨ b = 25) {w : Int} (hd : 1 ≤ d) (hz : js_J E (d - 1) 60 0 [(2, 8 + b), (0, z1), (0, z2), (0, z3), (0, z4), (0, z5), (0, z6), (9, 0)] [] σ = js_t E w σ2) : js_J E d 95 7 [(2, 8 + b), (0, x1), (0, x2)] [(0, z6), (0, z5), (0, z4), (0, z3), (0, z2), (0, z1), (2, 8 + b)] σ = js_t E w σ2 :=
  j_callT (m := 1) (js_caV q_95_7 (js_Mo qy_95 qm_1_74)) (js_agV (av := [(0, z1), (0, z2), (0, z3), (0, z4), (0, z5), (0, z6)]) (st := []) rfl rfl (js_o8b hb) rfl) rfl rfl (by rw [ql_60]; exact Nat.le_of_ble_eq_true rfl) (Nat.le_of_ble_eq_true rfl) hd rfl hz
theorem b_95_10 {E : js_E} {d : Nat} {σ : js_S} {x1 x2 b : Int} (hb : b = 0 ∨ b = 25) : js_J E d 95 10 [(2, 8 + b), (0, x1), (0, x2)] [] σ = js_r E (0, (σ (8 + b) 6) - 1) σ :=
  (j_aload_n q_95_10 rfl).trans <| (j_get (ji := 6) (v := (0, σ (8 + b) 6)) q_95_11 (js_Fo qy_95 qf_1_42) (js_o8b hb) rfl rfl rfl rfl).trans <| (j_iconst q_95_14).trans <| (j_isub q_95_15).trans <| j_ireturn q_95_16 qr_95
-- 96: VitalTwin$Expressions.choice ()V
theorem b_96_0 {E : js_E} {d : Nat} {σ : js_S} {b : Int} (hb : b = 0 ∨ b = 25) : js_J E d 96 0 [(2, 23 + b), (9, 0), (9, 0), (9, 0), (9, 0), (9, 0), (9, 0), (9, 0), (9, 0), (9, 0)] [] σ = js_J E d 96 19 [(2, 23 + b), (0, σ 1 2), (0, σ (23 + b) 0), (9, 0), (9, 0), (9, 0), (9, 0), (9, 0), (9, 0), (9, 0)] [(0, 63), (2, 1)] σ :=
  (j_aload_n q_96_0 rfl).trans <| (j_get (ji := 4) (v := (2, 1)) q_96_1 (js_Fo qy_96 qf_5_33) (js_o23b hb) rfl rfl rfl rfl).trans <| (j_get (ji := 2) (v := (0, σ 1 2)) q_96_4 (js_Fo qy_96 qf_5_56) js_o1 rfl rfl rfl rfl).trans <| (j_istore_n (l2 := [(2, 23 + b), (0, σ 1 2), (9, 0), (9, 0), (9, 0), (9, 0), (9, 0), (9, 0), (9, 0), (9, 0)]) q_96_7 rfl (Nat.le_of_ble_eq_true rfl)).trans <| (j_aload_n q_96_8 rfl).trans <| (j_get (ji := 0) (v := (0, σ (23 + b) 0)) q_96_9 (js_Fo qy_96 qf_5_130) (js_o23b hb) rfl rfl rfl rfl).trans <| (j_istore_n (l2 := [(2, 23 + b), (0, σ 1 2), (0, σ (23 + b) 0), (9, 0), (9, 0), (9, 0), (9, 0), (9, 0), (9, 0), (9, 0)]) q_96_12 rfl (Nat.le_of_ble_eq_true rfl)).trans <| (j_aload_n q_96_13 rfl).trans <| (j_get (ji := 4) (v := (2, 1)) q_96_14 (js_Fo qy_96 qf_5_33) (js_o23b hb) rfl rfl rfl rfl).trans <| (j_bi q_96_17 rfl).trans <| rfl
theorem k_96_19 {E : js_E} {d : Nat} {σ σ2 : js_S} {x1 x2 z1 b : Int} (hd : 1 ≤ d) (hz : js_J E (d - 1) 47 0 [(2, 1), (0, z1)] [] σ = js_r0 E σ2) : js_J E d 96 19 [(2, 23 + b), (0, x1), (0, x2), (9, 0), (9, 0), (9, 0), (9, 0), (9, 0), (9, 0), (9, 0)] [(0, z1), (2, 1)] σ = js_J E d 96 22 [(2, 23 + b), (0, x1), (0, x2), (9, 0), (9, 0), (9, 0), (9, 0), (9, 0), (9, 0), (9, 0)] [] σ2 :=
  j_call0 (m := 0) (js_caV q_96_19 (js_Mo qy_96 qm_5_124)) (js_agV (av := [(0, z1)]) (st := []) rfl rfl js_o1 rfl) rfl rfl (by rw [ql_47]; exact Nat.le_of_ble_eq_true rfl) (Nat.le_of_ble_eq_true rfl) hd hz
theorem kt_96_19 {E : js_E} {d : Nat} {σ σ2 : js_S} {x1 x2 z1 b : Int} {w : Int} (hd : 1 ≤ d) (hz : js_J E (d - 1) 47 0 [(2, 1), (0, z1)] [] σ = js_t E w σ2) : js_J E d 96 19 [(2, 23 + b), (0, x1), (0, x2), (9, 0), (9, 0), (9, 0), (9, 0), (9, 0), (9, 0), (9, 0)] [(0, z1), (2, 1)] σ = js_t E w σ2 :=
  j_callT (m := 0) (js_caV q_96_19 (js_Mo qy_96 qm_5_124)) (js_agV (av := [(0, z1)]) (st := []) rfl rfl js_o1 rfl) rfl rfl (by rw [ql_47]; exact Nat.le_of_ble_eq_true rfl) (Nat.le_of_ble_eq_true rfl) hd rfl hz
theorem b_96_22 {E : js_E} {d : Nat} {σ : js_S} {x1 x2 b : Int} (hb : b = 0 ∨ b = 25) : js_J E d 96 22 [(2, 23 + b), (0, x1), (0, x2), (9, 0), (9, 0), (9, 0), (9, 0), (9, 0), (9, 0), (9, 0)] [] σ = js_J E d 96 29 [(2, 23 + b), (0, x1), (0, x2), (9, 0), (9, 0), (9, 0), (9, 0), (9, 0), (9, 0), (9, 0)] [(0, 0), (0, 25), (2, 8 + b)] σ :=
  (j_aload_n q_96_22 rfl).trans <| (j_get (ji := 6) (v := (2, 8 + b)) q_96_23 (js_Fo qy_96 qf_5_47) (js_o23b hb) rfl rfl rfl rfl).trans <| (j_bi q_96_26 rfl).trans <| (j_iconst q_96_28).trans <| rfl
theorem k_96_29 {E : js_E} {d : Nat} {σ σ2 : js_S} {x1 x2 z1 z2 b : Int} (hb : b = 0 ∨ b = 25) {v : Int} (hd : 1 ≤ d) (hz : js_J E (d - 1) 95 0 [(2, 8 + b), (0, z1), (0, z2)] [] σ = js_r E (0, v) σ2) : js_J E d 96 29 [(2, 23 + b), (0, x1), (0, x2), (9, 0), (9, 0), (9, 0), (9, 0), (9, 0), (9, 0), (9, 0)] [(0, z2), (0, z1), (2, 8 + b)] σ = js_J E d 96 32 [(2, 23 + b), (0, x1), (0, x2), (9, 0), (9, 0), (9, 0), (9, 0), (9, 0), (9, 0), (9, 0)] [(0, v)] σ2 :=
  j_call (m := 0) (js_caV q_96_29 (js_Mo qy_96 qm_5_133)) (js_agV (av := [(0, z1), (0, z2)]) (st := []) rfl rfl (js_o8b hb) rfl) rfl rfl (by rw [ql_95]; exact Nat.le_of_ble_eq_true rfl) (Nat.le_of_ble_eq_true rfl) hd hz
theorem kt_96_29 {E : js_E} {d : Nat} {σ σ2 : js_S} {x1 x2 z1 z2 b : Int} (hb : b = 0 ∨ b = 25) {w : Int} (hd : 1 ≤ d) (hz : js_J E (d - 1) 95 0 [(2, 8 + b), (0, z1), (0, z2)] [] σ = js_t E w σ2) : js_J E d 96 29 [(2, 23 + b), (0, x1), (0, x2), (9, 0), (9, 0), (9, 0), (9, 0), (9, 0), (9, 0), (9, 0)] [(0, z2), (0, z1), (2, 8 + b)] σ = js_t E w σ2 :=
  j_callT (m := 0) (js_caV q_96_29 (js_Mo qy_96 qm_5_133)) (js_agV (av := [(0, z1), (0, z2)]) (st := []) rfl rfl (js_o8b hb) rfl) rfl rfl (by rw [ql_95]; exact Nat.le_of_ble_eq_true rfl) (Nat.le_of_ble_eq_true rfl) hd rfl hz
theorem b_96_32 {E : js_E} {d : Nat} {σ : js_S} {x1 x2 z0 b : Int} (hb : b = 0 ∨ b = 25) : js_J E d 96 32 [(2, 23 + b), (0, x1), (0, x2), (9, 0), (9, 0), (9, 0), (9, 0), (9, 0), (9, 0), (9, 0)] [(0, z0)] σ = js_J E d 96 43 [(2, 23 + b), (0, x1), (0, x2), (0, z0), (0, σ (8 + b) 7), (9, 0), (9, 0), (9, 0), (9, 0), (9, 0)] [(2, 23 + b)] σ :=
  (j_istore_n (l2 := [(2, 23 + b), (0, x1), (0, x2), (0, z0), (9, 0), (9, 0), (9, 0), (9, 0), (9, 0), (9, 0)]) q_96_32 rfl (Nat.le_of_ble_eq_true rfl)).trans <| (j_aload_n q_96_33 rfl).trans <| (j_get (ji := 6) (v := (2, 8 + b)) q_96_34 (js_Fo qy_96 qf_5_47) (js_o23b hb) rfl rfl rfl rfl).trans <| (j_get (ji := 7) (v := (0, σ (8 + b) 7)) q_96_37 (js_Fo qy_96 qf_5_174) (js_o8b hb) rfl rfl rfl rfl).trans <| (j_istore (l2 := [(2, 23 + b), (0, x1), (0, x2), (0, z0), (0, σ (8 + b) 7), (9, 0), (9, 0), (9, 0), (9, 0), (9, 0)]) q_96_40 rfl (Nat.le_of_ble_eq_true rfl)).trans <| (j_aload_n q_96_42 rfl).trans <| rfl
theorem k_96_43 {E : js_E} {d : Nat} {σ σ2 : js_S} {x1 x2 x3 x4 b : Int} (hb : b = 0 ∨ b = 25) (hd : 1 ≤ d) (hz : js_J E (d - 1) 61 0 [(2, 23 + b), (9, 0), (9, 0), (9, 0), (9, 0), (9, 0), (9, 0)] [] σ = js_r0 E σ2) : js_J E d 96 43 [(2, 23 + b), (0, x1), (0, x2), (0, x3), (0, x4), (9, 0), (9, 0), (9, 0), (9, 0), (9, 0)] [(2, 23 + b)] σ = js_J E d 96 46 [(2, 23 + b), (0, x1), (0, x2), (0, x3), (0, x4), (9, 0), (9, 0), (9, 0), (9, 0), (9, 0)] [] σ2 :=
  j_call0 (m := 6) (js_caV q_96_43 (js_Mo qy_96 qm_5_177)) (js_agV (av := []) (st := []) rfl rfl (js_o23b hb) rfl) rfl rfl (by rw [ql_61]; exact Nat.le_of_ble_eq_true rfl) (Nat.le_of_ble_eq_true rfl) hd hz
theorem kt_96_43 {E : js_E} {d : Nat} {σ σ2 : js_S} {x1 x2 x3 x4 b : Int} (hb : b = 0 ∨ b = 25) {w : Int} (hd : 1 ≤ d) (hz : js_J E (d - 1) 61 0 [(2, 23 + b), (9, 0), (9, 0), (9, 0), (9, 0), (9, 0), (9, 0)] [] σ = js_t E w σ2) : js_J E d 96 43 [(2, 23 + b), (0, x1), (0, x2), (0, x3), (0, x4), (9, 0), (9, 0), (9, 0), (9, 0), (9, 0)] [(2, 23 + b)] σ = js_t E w σ2 :=
  j_callT (m := 6) (js_caV q_96_43 (js_Mo qy_96 qm_5_177)) (js_agV (av := []) (st := []) rfl rfl (js_o23b hb) rfl) rfl rfl (by rw [ql_61]; exact Nat.le_of_ble_eq_true rfl) (Nat.le_of_ble_eq_true rfl) hd rfl hz
theorem b_96_46 {E : js_E} {d : Nat} {σ : js_S} {x1 x2 x3 x4 b : Int} (hb : b = 0 ∨ b = 25) : js_J E d 96 46 [(2, 23 + b), (0, x1), (0, x2), (0, x3), (0, x4), (9, 0), (9, 0), (9, 0), (9, 0), (9, 0)] [] σ = js_J E d 96 70 [(2, 23 + b), (0, x1), (0, x2), (0, x3), (0, x4), (0, σ (23 + b) 0), (0, σ (23 + b) 1), (0, σ (23 + b) 2), (9, 0), (9, 0)] [(0, 58), (2, 1)] σ :=
  (j_aload_n q_96_46 rfl).trans <| (j_get (ji := 0) (v := (0, σ (23 + b) 0)) q_96_47 (js_Fo qy_96 qf_5_130) (js_o23b hb) rfl rfl rfl rfl).trans <| (j_istore (l2 := [(2, 23 + b), (0, x1), (0, x2), (0, x3), (0, x4), (0, σ (23 + b) 0), (9, 0), (9, 0), (9, 0), (9, 0)]) q_96_50 rfl (Nat.le_of_ble_eq_true rfl)).trans <| (j_aload_n q_96_52 rfl).trans <| (j_get (ji := 1) (v := (0, σ (23 + b) 1)) q_96_53 (js_Fo qy_96 qf_5_94) (js_o23b hb) rfl rfl rfl rfl).trans <| (j_istore (l2 := [(2, 23 + b), (0, x1), (0, x2), (0, x3), (0, x4), (0, σ (23 + b) 0), (0, σ (23 + b) 1), (9, 0), (9, 0), (9, 0)]) q_96_56 rfl (Nat.le_of_ble_eq_true rfl)).trans <| (j_aload_n q_96_58 rfl).trans <| (j_get (ji := 2) (v := (0, σ (23 + b) 2)) q_96_59 (js_Fo qy_96 qf_5_97) (js_o23b hb) rfl rfl rfl rfl).trans <| (j_istore (l2 := [(2, 23 + b), (0, x1), (0, x2), (0, x3), (0, x4), (0, σ (23 + b) 0), (0, σ (23 + b) 1), (0, σ (23 + b) 2), (9, 0), (9, 0)]) q_96_62 rfl (Nat.le_of_ble_eq_true rfl)).trans <| (j_aload_n q_96_64 rfl).trans <| (j_get (ji := 4) (v := (2, 1)) q_96_65 (js_Fo qy_96 qf_5_33) (js_o23b hb) rfl rfl rfl rfl).trans <| (j_bi q_96_68 rfl).trans <| rfl
theorem k_96_70 {E : js_E} {d : Nat} {σ σ2 : js_S} {x1 x2 x3 x4 x5 x6 x7 z1 b : Int} (hd : 1 ≤ d) (hz : js_J E (d - 1) 40 0 [(2, 1), (0, z1)] [] σ = js_r0 E σ2) : js_J E d 96 70 [(2, 23 + b), (0, x1), (0, x2), (0, x3), (0, x4), (0, x5), (0, x6), (0, x7), (9, 0), (9, 0)] [(0, z1), (2, 1)] σ = js_J E d 96 73 [(2, 23 + b), (0, x1), (0, x2), (0, x3), (0, x4), (0, x5), (0, x6), (0, x7), (9, 0), (9, 0)] [] σ2 :=
  j_call0 (m := 0) (js_caV q_96_70 (js_Mo qy_96 qm_5_180)) (js_agV (av := [(0, z1)]) (st := []) rfl rfl js_o1 rfl) rfl rfl (by rw [ql_40]; exact Nat.le_of_ble_eq_true rfl) (Nat.le_of_ble_eq_true rfl) hd hz
theorem kt_96_70 {E : js_E} {d : Nat} {σ σ2 : js_S} {x1 x2 x3 x4 x5 x6 x7 z1 b : Int} {w : Int} (hd : 1 ≤ d) (hz : js_J E (d - 1) 40 0 [(2, 1), (0, z1)] [] σ = js_t E w σ2) : js_J E d 96 70 [(2, 23 + b), (0, x1), (0, x2), (0, x3), (0, x4), (0, x5), (0, x6), (0, x7), (9, 0), (9, 0)] [(0, z1), (2, 1)] σ = js_t E w σ2 :=
  j_callT (m := 0) (js_caV q_96_70 (js_Mo qy_96 qm_5_180)) (js_agV (av := [(0, z1)]) (st := []) rfl rfl js_o1 rfl) rfl rfl (by rw [ql_40]; exact Nat.le_of_ble_eq_true rfl) (Nat.le_of_ble_eq_true rfl) hd rfl hz
theorem b_96_73 {E : js_E} {d : Nat} {σ : js_S} {x1 x2 x3 x4 x5 x6 x7 b : Int} (hb : b = 0 ∨ b = 25) : js_J E d 96 73 [(2, 23 + b), (0, x1), (0, x2), (0, x3), (0, x4), (0, x5), (0, x6), (0, x7), (9, 0), (9, 0)] [] σ = js_J E d 96 80 [(2, 23 + b), (0, x1), (0, x2), (0, x3), (0, x4), (0, x5), (0, x6), (0, x7), (9, 0), (9, 0)] [(0, 0), (0, 24), (2, 8 + b)] σ :=
  (j_aload_n q_96_73 rfl).trans <| (j_get (ji := 6) (v := (2, 8 + b)) q_96_74 (js_Fo qy_96 qf_5_47) (js_o23b hb) rfl rfl rfl rfl).trans <| (j_bi q_96_77 rfl).trans <| (j_iconst q_96_79).trans <| rfl
theorem k_96_80 {E : js_E} {d : Nat} {σ σ2 : js_S} {x1 x2 x3 x4 x5 x6 x7 z1 z2 b : Int} (hb : b = 0 ∨ b = 25) {v : Int} (hd : 1 ≤ d) (hz : js_J E (d - 1) 95 0 [(2, 8 + b), (0, z1), (0, z2)] [] σ = js_r E (0, v) σ2) : js_J E d 96 80 [(2, 23 + b), (0, x1), (0, x2), (0, x3), (0, x4), (0, x5), (0, x6), (0, x7), (9, 0), (9, 0)] [(0, z2), (0, z1), (2, 8 + b)] σ = js_J E d 96 83 [(2, 23 + b), (0, x1), (0, x2), (0, x3), (0, x4), (0, x5), (0, x6), (0, x7), (9, 0), (9, 0)] [(0, v)] σ2 :=
  j_call (m := 0) (js_caV q_96_80 (js_Mo qy_96 qm_5_133)) (js_agV (av := [(0, z1), (0, z2)]) (st := []) rfl rfl (js_o8b hb) rfl) rfl rfl (by rw [ql_95]; exact Nat.le_of_ble_eq_true rfl) (Nat.le_of_ble_eq_true rfl) hd hz
theorem kt_96_80 {E : js_E} {d : Nat} {σ σ2 : js_S} {x1 x2 x3 x4 x5 x6 x7 z1 z2 b : Int} (hb : b = 0 ∨ b = 25) {w : Int} (hd : 1 ≤ d) (hz : js_J E (d - 1) 95 0 [(2, 8 + b), (0, z1), (0, z2)] [] σ = js_t E w σ2) : js_J E d 96 80 [(2, 23 + b), (0, x1), (0, x2), (0, x3), (0, x4), (0, x5), (0, x6), (0, x7), (9, 0), (9, 0)] [(0, z2), (0, z1), (2, 8 + b)] σ = js_t E w σ2 :=
  j_callT (m := 0) (js_caV q_96_80 (js_Mo qy_96 qm_5_133)) (js_agV (av := [(0, z1), (0, z2)]) (st := []) rfl rfl (js_o8b hb) rfl) rfl rfl (by rw [ql_95]; exact Nat.le_of_ble_eq_true rfl) (Nat.le_of_ble_eq_true rfl) hd rfl hz
theorem b_96_83 {E : js_E} {d : Nat} {σ : js_S} {x1 x2 x3 x4 x5 x6 x7 z0 b : Int} (hb : b = 0 ∨ b = 25) : js_J E d 96 83 [(2, 23 + b), (0, x1), (0, x2), (0, x3), (0, x4), (0, x5), (0, x6), (0, x7), (9, 0), (9, 0)] [(0, z0)] σ = js_J E d 96 108 [(2, 23 + b), (0, x1), (0, x2), (0, x3), (0, x4), (0, x5), (0, x6), (0, x7), (0, z0), (0, σ (8 + b) 7)] [(0, x3), (2, 8 + b)] (js_up σ (8 + b) 7 x4) :=
  (j_istore (l2 := [(2, 23 + b), (0, x1), (0, x2), (0, x3), (0, x4), (0, x5), (0, x6), (0, x7), (0, z0), (9, 0)]) q_96_83 rfl (Nat.le_of_ble_eq_true rfl)).trans <| (j_aload_n q_96_85 rfl).trans <| (j_get (ji := 6) (v := (2, 8 + b)) q_96_86 (js_Fo qy_96 qf_5_47) (js_o23b hb) rfl rfl rfl rfl).trans <| (j_get (ji := 7) (v := (0, σ (8 + b) 7)) q_96_89 (js_Fo qy_96 qf_5_174) (js_o8b hb) rfl rfl rfl rfl).trans <| (j_istore (l2 := [(2, 23 + b), (0, x1), (0, x2), (0, x3), (0, x4), (0, x5), (0, x6), (0, x7), (0, z0), (0, σ (8 + b) 7)]) q_96_92 rfl (Nat.le_of_ble_eq_true rfl)).trans <| (j_aload_n q_96_94 rfl).trans <| (j_get (ji := 6) (v := (2, 8 + b)) q_96_95 (js_Fo qy_96 qf_5_47) (js_o23b hb) rfl rfl rfl rfl).trans <| (j_iload q_96_98 rfl).trans <| (j_putI (ji := 7) q_96_100 (js_Fo qy_96 qf_5_174) rfl (js_o8b hb) rfl rfl rfl).trans <| (j_aload_n q_96_103 rfl).trans <| (j_get (ji := 6) (v := (2, 8 + b)) q_96_104 (js_Fo qy_96 qf_5_47) (js_o23b hb) rfl rfl rfl rfl).trans <| (j_iload_n q_96_107 rfl).trans <| rfl
theorem k_96_108 {E : js_E} {d : Nat} {σ σ2 : js_S} {x1 x2 x3 x4 x5 x6 x7 x8 x9 z1 b : Int} (hb : b = 0 ∨ b = 25) (hd : 1 ≤ d) (hz : js_J E (d - 1) 91 0 [(2, 8 + b), (0, z1)] [] σ = js_r0 E σ2) : js_J E d 96 108 [(2, 23 + b), (0, x1), (0, x2), (0, x3), (0, x4), (0, x5), (0, x6), (0, x7), (0, x8), (0, x9)] [(0, z1), (2, 8 + b)] σ = js_J E d 96 111 [(2, 23 + b), (0, x1), (0, x2), (0, x3), (0, x4), (0, x5), (0, x6), (0, x7), (0, x8), (0, x9)] [] σ2 :=
  j_call0 (m := 0) (js_caV q_96_108 (js_Mo qy_96 qm_5_81)) (js_agV (av := [(0, z1)]) (st := []) rfl rfl (js_o8b hb) rfl) rfl rfl (by rw [ql_91]; exact Nat.le_of_ble_eq_true rfl) (Nat.le_of_ble_eq_true rfl) hd hz
theorem kt_96_108 {E : js_E} {d : Nat} {σ σ2 : js_S} {x1 x2 x3 x4 x5 x6 x7 x8 x9 z1 b : Int} (hb : b = 0 ∨ b = 25) {w : Int} (hd : 1 ≤ d) (hz : js_J E (d - 1) 91 0 [(2, 8 + b), (0, z1)] [] σ = js_t E w σ2) : js_J E d 96 108 [(2, 23 + b), (0, x1), (0, x2), (0, x3), (0, x4), (0, x5), (0, x6), (0, x7), (0, x8), (0, x9)] [(0, z1), (2, 8 + b)] σ = js_t E w σ2 :=
  j_callT (m := 0) (js_caV q_96_108 (js_Mo qy_96 qm_5_81)) (js_agV (av := [(0, z1)]) (st := []) rfl rfl (js_o8b hb) rfl) rfl rfl (by rw [ql_91]; exact Nat.le_of_ble_eq_true rfl) (Nat.le_of_ble_eq_true rfl) hd rfl hz
theorem b_96_111 {E : js_E} {d : Nat} {σ : js_S} {x1 x2 x3 x4 x5 x6 x7 x8 x9 b : Int} : js_J E d 96 111 [(2, 23 + b), (0, x1), (0, x2), (0, x3), (0, x4), (0, x5), (0, x6), (0, x7), (0, x8), (0, x9)] [] σ = js_J E d 96 112 [(2, 23 + b), (0, x1), (0, x2), (0, x3), (0, x4), (0, x5), (0, x6), (0, x7), (0, x8), (0, x9)] [(2, 23 + b)] σ :=
  (j_aload_n q_96_111 rfl).trans <| rfl
theorem k_96_112 {E : js_E} {d : Nat} {σ σ2 : js_S} {x1 x2 x3 x4 x5 x6 x7 x8 x9 b : Int} (hb : b = 0 ∨ b = 25) (hd : 1 ≤ d) (hz : js_J E (d - 1) 61 0 [(2, 23 + b), (9, 0), (9, 0), (9, 0), (9, 0), (9, 0), (9, 0)] [] σ = js_r0 E σ2) : js_J E d 96 112 [(2, 23 + b), (0, x1), (0, x2), (0, x3), (0, x4), (0, x5), (0, x6), (0, x7), (0, x8), (0, x9)] [(2, 23 + b)] σ = js_J E d 96 115 [(2, 23 + b), (0, x1), (0, x2), (0, x3), (0, x4), (0, x5), (0, x6), (0, x7), (0, x8), (0, x9)] [] σ2 :=
  j_call0 (m := 6) (js_caV q_96_112 (js_Mo qy_96 qm_5_177)) (js_agV (av := []) (st := []) rfl rfl (js_o23b hb) rfl) rfl rfl (by rw [ql_61]; exact Nat.le_of_ble_eq_true rfl) (Nat.le_of_ble_eq_true rfl) hd hz
theorem kt_96_112 {E : js_E} {d : Nat} {σ σ2 : js_S} {x1 x2 x3 x4 x5 x6 x7 x8 x9 b : Int} (hb : b = 0 ∨ b = 25) {w : Int} (hd : 1 ≤ d) (hz : js_J E (d - 1) 61 0 [(2, 23 + b), (9, 0), (9, 0), (9, 0), (9, 0), (9, 0), (9, 0)] [] σ = js_t E w σ2) : js_J E d 96 112 [(2, 23 + b), (0, x1), (0, x2), (0, x3), (0, x4), (0, x5), (0, x6), (0, x7), (0, x8), (0, x9)] [(2, 23 + b)] σ = js_t E w σ2 :=
  j_callT (m := 6) (js_caV q_96_112 (js_Mo qy_96 qm_5_177)) (js_agV (av := []) (st := []) rfl rfl (js_o23b hb) rfl) rfl rfl (by rw [ql_61]; exact Nat.le_of_ble_eq_true rfl) (Nat.le_of_ble_eq_true rfl) hd rfl hz
theorem b_96_115 {E : js_E} {d : Nat} {σ : js_S} {x1 x2 x3 x4 x5 x6 x7 x8 x9 b : Int} (hb : b = 0 ∨ b = 25) : js_J E d 96 115 [(2, 23 + b), (0, x1), (0, x2), (0, x3), (0, x4), (0, x5), (0, x6), (0, x7), (0, x8), (0, x9)] [] σ = (if js_w x2 = 1 then (if js_w x5 = js_w (σ (23 + b) 0) then js_J E d 96 138 [(2, 23 + b), (0, x1), (0, x2), (0, x3), (0, x4), (0, x5), (0, x6), (0, x7), (0, x8), (0, x9)] [] σ else js_J E d 96 129 [(2, 23 + b), (0, x1), (0, x2), (0, x3), (0, x4), (0, x5), (0, x6), (0, x7), (0, x8), (0, x9)] [] σ) else js_J E d 96 129 [(2, 23 + b), (0, x1), (0, x2), (0, x3), (0, x4), (0, x5), (0, x6), (0, x7), (0, x8), (0, x9)] [] σ) :=
  (j_iload_n q_96_115 rfl).trans <| (j_iconst q_96_116).trans <| (j_cmpneB (t := 129) q_96_117 rfl ww_1).trans (js_ite ((j_iload q_96_120 rfl).trans <| (j_aload_n q_96_122 rfl).trans <| (j_get (ji := 0) (v := (0, σ (23 + b) 0)) q_96_123 (js_Fo qy_96 qf_5_130) (js_o23b hb) rfl rfl rfl rfl).trans <| (j_cmpeq (t := 138) q_96_126 rfl).trans (js_ite (rfl) (rfl))) (rfl))
theorem b_96_129 {E : js_E} {d : Nat} {σ : js_S} {x1 x2 x3 x4 x5 x6 x7 x8 x9 b : Int} (hb : b = 0 ∨ b = 25) : js_J E d 96 129 [(2, 23 + b), (0, x1), (0, x2), (0, x3), (0, x4), (0, x5), (0, x6), (0, x7), (0, x8), (0, x9)] [] σ = js_J E d 96 135 [(2, 23 + b), (0, x1), (0, x2), (0, x3), (0, x4), (0, x5), (0, x6), (0, x7), (0, x8), (0, x9)] [(0, x1), (0, 5), (2, 1)] σ :=
  (j_aload_n q_96_129 rfl).trans <| (j_get (ji := 4) (v := (2, 1)) q_96_130 (js_Fo qy_96 qf_5_33) (js_o23b hb) rfl rfl rfl rfl).trans <| (j_iconst q_96_133).trans <| (j_iload_n q_96_134 rfl).trans <| rfl
theorem k_96_135 {E : js_E} {d : Nat} {σ σ2 : js_S} {x1 x2 x3 x4 x5 x6 x7 x8 x9 z1 z2 b : Int} (hd : 1 ≤ d) (hz : js_J E (d - 1) 36 0 [(2, 1), (0, z1), (0, z2)] [] σ = js_r0 E σ2) : js_J E d 96 135 [(2, 23 + b), (0, x1), (0, x2), (0, x3), (0, x4), (0, x5), (0, x6), (0, x7), (0, x8), (0, x9)] [(0, z2), (0, z1), (2, 1)] σ = js_J E d 96 138 [(2, 23 + b), (0, x1), (0, x2), (0, x3), (0, x4), (0, x5), (0, x6), (0, x7), (0, x8), (0, x9)] [] σ2 :=
  j_call0 (m := 0) (js_caV q_96_135 (js_Mo qy_96 qm_5_127)) (js_agV (av := [(0, z1), (0, z2)]) (st := []) rfl rfl js_o1 rfl) rfl rfl (by rw [ql_36]; exact Nat.le_of_ble_eq_true rfl) (Nat.le_of_ble_eq_true rfl) hd hz
theorem kt_96_135 {E : js_E} {d : Nat} {σ σ2 : js_S} {x1 x2 x3 x4 x5 x6 x7 x8 x9 z1 z2 b : Int} {w : Int} (hd : 1 ≤ d) (hz : js_J E (d - 1) 36 0 [(2, 1), (0, z1), (0, z2)] [] σ = js_t E w σ2) : js_J E d 96 135 [(2, 23 + b), (0, x1), (0, x2), (0, x3), (0, x4), (0, x5), (0, x6), (0, x7), (0, x8), (0, x9)] [(0, z2), (0, z1), (2, 1)] σ = js_t E w σ2 :=
  j_callT (m := 0) (js_caV q_96_135 (js_Mo qy_96 qm_5_127)) (js_agV (av := [(0, z1), (0, z2)]) (st := []) rfl rfl js_o1 rfl) rfl rfl (by rw [ql_36]; exact Nat.le_of_ble_eq_true rfl) (Nat.le_of_ble_eq_true rfl) hd rfl hz
theorem b_96_138 {E : js_E} {d : Nat} {σ : js_S} {x1 x2 x3 x4 x5 x6 x7 x8 x9 b : Int} (hd : 4 ≤ d) (hb : b = 0 ∨ b = 25) : js_J E d 96 138 [(2, 23 + b), (0, x1), (0, x2), (0, x3), (0, x4), (0, x5), (0, x6), (0, x7), (0, x8), (0, x9)] [] σ = js_J E d 96 174 [(2, 23 + b), (0, x1), (0, x2), (0, x3), (0, x4), (0, x5), (0, x6), (0, x7), (0, x8), (0, x9)] [(0, if js_w x7 < js_w (σ (23 + b) 2) then (σ (23 + b) 2) else x7), (0, if js_w (σ (23 + b) 1) < js_w x6 then (σ (23 + b) 1) else x6), (0, σ (23 + b) 0), (2, 23 + b)] (js_up σ 1 5 ((σ 1 5) - 1)) :=
  (j_aload_n q_96_138 rfl).trans <| (j_get (ji := 4) (v := (2, 1)) q_96_139 (js_Fo qy_96 qf_5_33) (js_o23b hb) rfl rfl rfl rfl).trans <| (j_dupr q_96_142).trans <| (j_get (ji := 5) (v := (0, σ 1 5)) q_96_143 (js_Fo qy_96 qf_5_87) js_o1 rfl rfl rfl rfl).trans <| (j_iconst q_96_146).trans <| (j_isub q_96_147).trans <| (j_putI (ji := 5) q_96_148 (js_Fo qy_96 qf_5_87) rfl js_o1 rfl rfl rfl).trans <| (j_aload_n q_96_151 rfl).trans <| (j_aload_n q_96_152 rfl).trans <| (j_get (ji := 0) (v := (0, σ (23 + b) 0)) q_96_153 (js_Fo qy_96 qf_5_130) (js_o23b hb) rfl rfl rfl (congrArg (Prod.mk 0) ((js_up_ne _ (by omega))))).trans <| (j_iload q_96_156 rfl).trans <| (j_aload_n q_96_158 rfl).trans <| (j_get (ji := 1) (v := (0, σ (23 + b) 1)) q_96_159 (js_Fo qy_96 qf_5_94) (js_o23b hb) rfl rfl rfl (congrArg (Prod.mk 0) ((js_up_ne _ (by omega))))).trans <| (j_min (js_clS q_96_162 (js_Mo qy_96 qm_5_183)) (Nat.le_of_ble_eq_true rfl) hd).trans <| (j_iload q_96_165 rfl).trans <| (j_aload_n q_96_167 rfl).trans <| (j_get (ji := 2) (v := (0, σ (23 + b) 2)) q_96_168 (js_Fo qy_96 qf_5_97) (js_o23b hb) rfl rfl rfl (congrArg (Prod.mk 0) ((js_up_ne _ (by omega))))).trans <| (j_max (js_clS q_96_171 (js_Mo qy_96 qm_5_185)) (Nat.le_of_ble_eq_true rfl) hd).trans <| rfl
theorem k_96_174 {E : js_E} {d : Nat} {σ σ2 : js_S} {x1 x2 x3 x4 x5 x6 x7 x8 x9 z1 z2 z3 b : Int} (hb : b = 0 ∨ b = 25) (hd : 1 ≤ d) (hz : js_J E (d - 1) 75 0 [(2, 23 + b), (0, z1), (0, z2), (0, z3)] [] σ = js_r0 E σ2) : js_J E d 96 174 [(2, 23 + b), (0, x1), (0, x2), (0, x3), (0, x4), (0, x5), (0, x6), (0, x7), (0, x8), (0, x9)] [(0, z3), (0, z2), (0, z1), (2, 23 + b)] σ = js_J E d 96 177 [(2, 23 + b), (0, x1), (0, x2), (0, x3), (0, x4), (0, x5), (0, x6), (0, x7), (0, x8), (0, x9)] [] σ2 :=
  j_call0 (m := 0) (js_caV q_96_174 (js_Mo qy_96 qm_5_147)) (js_agV (av := [(0, z1), (0, z2), (0, z3)]) (st := []) rfl rfl (js_o23b hb) rfl) rfl rfl (by rw [ql_75]; exact Nat.le_of_ble_eq_true rfl) (Nat.le_of_ble_eq_true rfl) hd hz
theorem kt_96_174 {E : js_E} {d : Nat} {σ σ2 : js_S} {x1 x2 x3 x4 x5 x6 x7 x8 x9 z1 z2 z3 b : Int} (hb : b = 0 ∨ b = 25) {w : Int} (hd : 1 ≤ d) (hz : js_J E (d - 1) 75 0 [(2, 23 + b), (0, z1), (0, z2), (0, z3)] [] σ = js_t E w σ2) : js_J E d 96 174 [(2, 23 + b), (0, x1), (0, x2), (0, x3), (0, x4), (0, x5), (0, x6), (0, x7), (0, x8), (0, x9)] [(0, z3), (0, z2), (0, z1), (2, 23 + b)] σ = js_t E w σ2 :=
  j_callT (m := 0) (js_caV q_96_174 (js_Mo qy_96 qm_5_147)) (js_agV (av := [(0, z1), (0, z2), (0, z3)]) (st := []) rfl rfl (js_o23b hb) rfl) rfl rfl (by rw [ql_75]; exact Nat.le_of_ble_eq_true rfl) (Nat.le_of_ble_eq_true rfl) hd rfl hz
theorem b_96_177 {E : js_E} {d : Nat} {σ : js_S} {x1 x2 x3 x4 x5 x6 x7 x8 x9 b : Int} (hb : b = 0 ∨ b = 25) : js_J E d 96 177 [(2, 23 + b), (0, x1), (0, x2), (0, x3), (0, x4), (0, x5), (0, x6), (0, x7), (0, x8), (0, x9)] [] σ = js_J E d 96 183 [(2, 23 + b), (0, x1), (0, x2), (0, x3), (0, x4), (0, x5), (0, x6), (0, x7), (0, x8), (0, x9)] [(0, x8), (2, 8 + b)] σ :=
  (j_aload_n q_96_177 rfl).trans <| (j_get (ji := 6) (v := (2, 8 + b)) q_96_178 (js_Fo qy_96 qf_5_47) (js_o23b hb) rfl rfl rfl rfl).trans <| (j_iload q_96_181 rfl).trans <| rfl
theorem k_96_183 {E : js_E} {d : Nat} {σ σ2 : js_S} {x1 x2 x3 x4 x5 x6 x7 x8 x9 z1 b : Int} (hb : b = 0 ∨ b = 25) (hd : 1 ≤ d) (hz : js_J E (d - 1) 91 0 [(2, 8 + b), (0, z1)] [] σ = js_r0 E σ2) : js_J E d 96 183 [(2, 23 + b), (0, x1), (0, x2), (0, x3), (0, x4), (0, x5), (0, x6), (0, x7), (0, x8), (0, x9)] [(0, z1), (2, 8 + b)] σ = js_J E d 96 186 [(2, 23 + b), (0, x1), (0, x2), (0, x3), (0, x4), (0, x5), (0, x6), (0, x7), (0, x8), (0, x9)] [] σ2 :=
  j_call0 (m := 0) (js_caV q_96_183 (js_Mo qy_96 qm_5_81)) (js_agV (av := [(0, z1)]) (st := []) rfl rfl (js_o8b hb) rfl) rfl rfl (by rw [ql_91]; exact Nat.le_of_ble_eq_true rfl) (Nat.le_of_ble_eq_true rfl) hd hz
theorem kt_96_183 {E : js_E} {d : Nat} {σ σ2 : js_S} {x1 x2 x3 x4 x5 x6 x7 x8 x9 z1 b : Int} (hb : b = 0 ∨ b = 25) {w : Int} (hd : 1 ≤ d) (hz : js_J E (d - 1) 91 0 [(2, 8 + b), (0, z1)] [] σ = js_t E w σ2) : js_J E d 96 183 [(2, 23 + b), (0, x1), (0, x2), (0, x3), (0, x4), (0, x5), (0, x6), (0, x7), (0, x8), (0, x9)] [(0, z1), (2, 8 + b)] σ = js_t E w σ2 :=
  j_callT (m := 0) (js_caV q_96_183 (js_Mo qy_96 qm_5_81)) (js_agV (av := [(0, z1)]) (st := []) rfl rfl (js_o8b hb) rfl) rfl rfl (by rw [ql_91]; exact Nat.le_of_ble_eq_true rfl) (Nat.le_of_ble_eq_true rfl) hd rfl hz
theorem b_96_186 {E : js_E} {d : Nat} {σ : js_S} {x1 x2 x3 x4 x5 x6 x7 x8 x9 b : Int} (hd : 4 ≤ d) (hb : b = 0 ∨ b = 25) : js_J E d 96 186 [(2, 23 + b), (0, x1), (0, x2), (0, x3), (0, x4), (0, x5), (0, x6), (0, x7), (0, x8), (0, x9)] [] σ = js_r0 E (js_up σ (8 + b) 7 (if js_w x9 < js_w (σ (8 + b) 7) then (σ (8 + b) 7) else x9)) :=
  (j_aload_n q_96_186 rfl).trans <| (j_get (ji := 6) (v := (2, 8 + b)) q_96_187 (js_Fo qy_96 qf_5_47) (js_o23b hb) rfl rfl rfl rfl).trans <| (j_iload q_96_190 rfl).trans <| (j_aload_n q_96_192 rfl).trans <| (j_get (ji := 6) (v := (2, 8 + b)) q_96_193 (js_Fo qy_96 qf_5_47) (js_o23b hb) rfl rfl rfl rfl).trans <| (j_get (ji := 7) (v := (0, σ (8 + b) 7)) q_96_196 (js_Fo qy_96 qf_5_174) (js_o8b hb) rfl rfl rfl rfl).trans <| (j_max (js_clS q_96_199 (js_Mo qy_96 qm_5_185)) (Nat.le_of_ble_eq_true rfl) hd).trans <| (j_putI (ji := 7) q_96_202 (js_Fo qy_96 qf_5_174) rfl (js_o8b hb) rfl rfl rfl).trans <| j_return q_96_205 qr_96
-- 97: VitalTwin$Code.store (LVitalTwin$Symbol;I)V
theorem b_97_0 {E : js_E} {d : Nat} {σ : js_S} {x1 x2 b : Int} (hs_x1 : js_desc E.1 σ x1 = some (0, 11, js_sym)) : js_J E d 97 0 [(2, 8 + b), (2, x1), (0, x2)] [] σ = js_J E d 97 12 [(2, 8 + b), (2, x1), (0, x2)] [(2, x1), (0, 0), (0, 1), (0, 0), (0, (σ x1 5) + x2), (0, 2), (2, 8 + b)] σ :=
  (j_aload_n q_97_0 rfl).trans <| (j_iconst q_97_1).trans <| (j_aload_n q_97_2 rfl).trans <| (j_get (ji := 5) (v := (0, σ x1 5)) q_97_3 (js_Fo qy_97 qf_1_81) hs_x1 rfl rfl rfl rfl).trans <| (j_iload_n q_97_6 rfl).trans <| (j_iadd q_97_7).trans <| (j_iconst q_97_8).trans <| (j_iconst q_97_9).trans <| (j_iconst q_97_10).trans <| (j_aload_n q_97_11 rfl).trans <| rfl
theorem k_97_12 {E : js_E} {d : Nat} {σ σ2 : js_S} {x1 x2 z1 z2 z3 z4 z5 z6 b : Int} {v : Int} (hd : 1 ≤ d) (hz : js_J E (d - 1) 72 0 [(2, z6)] [] σ = js_r E (0, v) σ2) : js_J E d 97 12 [(2, 8 + b), (2, x1), (0, x2)] [(2, z6), (0, z5), (0, z4), (0, z3), (0, z2), (0, z1), (2, 8 + b)] σ = js_J E d 97 15 [(2, 8 + b), (2, x1), (0, x2)] [(0, v), (0, z5), (0, z4), (0, z3), (0, z2), (0, z1), (2, 8 + b)] σ2 :=
  j_call (m := 0) (js_caS q_97_12 (js_Mo qy_97 qm_1_84)) (js_agS (av := [(2, z6)]) (st := [(0, z5), (0, z4), (0, z3), (0, z2), (0, z1), (2, 8 + b)]) rfl rfl) rfl rfl (by rw [ql_72]; exact Nat.le_of_ble_eq_true rfl) (Nat.le_of_ble_eq_true rfl) hd hz
theorem kt_97_12 {E : js_E} {d : Nat} {σ σ2 : js_S} {x1 x2 z1 z2 z3 z4 z5 z6 b : Int} {w : Int} (hd : 1 ≤ d) (hz : js_J E (d - 1) 72 0 [(2, z6)] [] σ = js_t E w σ2) : js_J E d 97 12 [(2, 8 + b), (2, x1), (0, x2)] [(2, z6), (0, z5), (0, z4), (0, z3), (0, z2), (0, z1), (2, 8 + b)] σ = js_t E w σ2 :=
  j_callT (m := 0) (js_caS q_97_12 (js_Mo qy_97 qm_1_84)) (js_agS (av := [(2, z6)]) (st := [(0, z5), (0, z4), (0, z3), (0, z2), (0, z1), (2, 8 + b)]) rfl rfl) rfl rfl (by rw [ql_72]; exact Nat.le_of_ble_eq_true rfl) (Nat.le_of_ble_eq_true rfl) hd rfl hz
theorem k_97_15 {E : js_E} {d : Nat} {σ σ2 : js_S} {x1 x2 z1 z2 z3 z4 z5 z6 b : Int} (hb : b = 0 ∨ b = 25) (hd : 1 ≤ d) (hz : js_J E (d - 1) 60 0 [(2, 8 + b), (0, z1), (0, z2), (0, z3), (0, z4), (0, z5), (0, z6), (9, 0)] [] σ = js_r0 E σ2) : js_J E d 97 15 [(2, 8 + b), (2, x1), (0, x2)] [(0, z6), (0, z5), (0, z4), (0, z3), (0, z2), (0, z1), (2, 8 + b)] σ = js_J E d 97 18 [(2, 8 + b), (2, x1), (0, x2)] [] σ2 :=
  j_call0 (m := 1) (js_caV q_97_15 (js_Mo qy_97 qm_1_74)) (js_agV (av := [(0, z1), (0, z2), (0, z3), (0, z4), (0, z5), (0, z6)]) (st := []) rfl rfl (js_o8b hb) rfl) rfl rfl (by rw [ql_60]; exact Nat.le_of_ble_eq_true rfl) (Nat.le_of_ble_eq_true rfl) hd hz
theorem kt_97_15 {E : js_E} {d : Nat} {σ σ2 : js_S} {x1 x2 z1 z2 z3 z4 z5 z6 b : Int} (hb : b = 0 ∨ b = 25) {w : Int} (hd : 1 ≤ d) (hz : js_J E (d - 1) 60 0 [(2, 8 + b), (0, z1), (0, z2), (0, z3), (0, z4), (0, z5), (0, z6), (9, 0)] [] σ = js_t E w σ2) : js_J E d 97 15 [(2, 8 + b), (2, x1), (0, x2)] [(0, z6), (0, z5), (0, z4), (0, z3), (0, z2), (0, z1), (2, 8 + b)] σ = js_t E w σ2 :=
  j_callT (m := 1) (js_caV q_97_15 (js_Mo qy_97 qm_1_74)) (js_agV (av := [(0, z1), (0, z2), (0, z3), (0, z4), (0, z5), (0, z6)]) (st := []) rfl rfl (js_o8b hb) rfl) rfl rfl (by rw [ql_60]; exact Nat.le_of_ble_eq_true rfl) (Nat.le_of_ble_eq_true rfl) hd rfl hz
theorem b_97_18 {E : js_E} {d : Nat} {σ : js_S} {x1 x2 b : Int} : js_J E d 97 18 [(2, 8 + b), (2, x1), (0, x2)] [] σ = js_r0 E σ :=
  j_return q_97_18 qr_97
-- 98: VitalTwin$Statements.condition ()V
theorem b_98_0 {E : js_E} {d : Nat} {σ : js_S} {b : Int} (hb : b = 0 ∨ b = 25) : js_J E d 98 0 [(2, 22 + b)] [] σ = js_J E d 98 4 [(2, 22 + b)] [(2, 23 + b)] σ :=
  (j_aload_n q_98_0 rfl).trans <| (j_get (ji := 5) (v := (2, 23 + b)) q_98_1 (js_Fo qy_98 qf_10_35) (js_o22b hb) rfl rfl rfl rfl).trans <| rfl
theorem k_98_4 {E : js_E} {d : Nat} {σ σ2 : js_S} {b : Int} (hb : b = 0 ∨ b = 25) (hd : 1 ≤ d) (hz : js_J E (d - 1) 61 0 [(2, 23 + b), (9, 0), (9, 0), (9, 0), (9, 0), (9, 0), (9, 0)] [] σ = js_r0 E σ2) : js_J E d 98 4 [(2, 22 + b)] [(2, 23 + b)] σ = js_J E d 98 7 [(2, 22 + b)] [] σ2 :=
  j_call0 (m := 6) (js_caV q_98_4 (js_Mo qy_98 qm_10_62)) (js_agV (av := []) (st := []) rfl rfl (js_o23b hb) rfl) rfl rfl (by rw [ql_61]; exact Nat.le_of_ble_eq_true rfl) (Nat.le_of_ble_eq_true rfl) hd hz
theorem kt_98_4 {E : js_E} {d : Nat} {σ σ2 : js_S} {b : Int} (hb : b = 0 ∨ b = 25) {w : Int} (hd : 1 ≤ d) (hz : js_J E (d - 1) 61 0 [(2, 23 + b), (9, 0), (9, 0), (9, 0), (9, 0), (9, 0), (9, 0)] [] σ = js_t E w σ2) : js_J E d 98 4 [(2, 22 + b)] [(2, 23 + b)] σ = js_t E w σ2 :=
  j_callT (m := 6) (js_caV q_98_4 (js_Mo qy_98 qm_10_62)) (js_agV (av := []) (st := []) rfl rfl (js_o23b hb) rfl) rfl rfl (by rw [ql_61]; exact Nat.le_of_ble_eq_true rfl) (Nat.le_of_ble_eq_true rfl) hd rfl hz
theorem b_98_7 {E : js_E} {d : Nat} {σ : js_S} {b : Int} (hb : b = 0 ∨ b = 25) : js_J E d 98 7 [(2, 22 + b)] [] σ = js_J E d 98 14 [(2, 22 + b)] [(0, 1), (0, 0), (0, 1), (2, 23 + b)] σ :=
  (j_aload_n q_98_7 rfl).trans <| (j_get (ji := 5) (v := (2, 23 + b)) q_98_8 (js_Fo qy_98 qf_10_35) (js_o22b hb) rfl rfl rfl rfl).trans <| (j_iconst q_98_11).trans <| (j_iconst q_98_12).trans <| (j_iconst q_98_13).trans <| rfl
theorem k_98_14 {E : js_E} {d : Nat} {σ σ2 : js_S} {z1 z2 z3 b : Int} (hb : b = 0 ∨ b = 25) (hd : 1 ≤ d) (hz : js_J E (d - 1) 68 0 [(2, 23 + b), (0, z1), (0, z2), (0, z3)] [] σ = js_r0 E σ2) : js_J E d 98 14 [(2, 22 + b)] [(0, z3), (0, z2), (0, z1), (2, 23 + b)] σ = js_J E d 98 17 [(2, 22 + b)] [] σ2 :=
  j_call0 (m := 0) (js_caV q_98_14 (js_Mo qy_98 qm_10_76)) (js_agV (av := [(0, z1), (0, z2), (0, z3)]) (st := []) rfl rfl (js_o23b hb) rfl) rfl rfl (by rw [ql_68]; exact Nat.le_of_ble_eq_true rfl) (Nat.le_of_ble_eq_true rfl) hd hz
theorem kt_98_14 {E : js_E} {d : Nat} {σ σ2 : js_S} {z1 z2 z3 b : Int} (hb : b = 0 ∨ b = 25) {w : Int} (hd : 1 ≤ d) (hz : js_J E (d - 1) 68 0 [(2, 23 + b), (0, z1), (0, z2), (0, z3)] [] σ = js_t E w σ2) : js_J E d 98 14 [(2, 22 + b)] [(0, z3), (0, z2), (0, z1), (2, 23 + b)] σ = js_t E w σ2 :=
  j_callT (m := 0) (js_caV q_98_14 (js_Mo qy_98 qm_10_76)) (js_agV (av := [(0, z1), (0, z2), (0, z3)]) (st := []) rfl rfl (js_o23b hb) rfl) rfl rfl (by rw [ql_68]; exact Nat.le_of_ble_eq_true rfl) (Nat.le_of_ble_eq_true rfl) hd rfl hz
theorem b_98_17 {E : js_E} {d : Nat} {σ : js_S} {b : Int} : js_J E d 98 17 [(2, 22 + b)] [] σ = js_r0 E σ :=
  j_return q_98_17 qr_98
-- 99: VitalTwin$Statements.cases ()V
theorem b_99_0 {E : js_E} {d : Nat} {σ : js_S} {b : Int} (hb : b = 0 ∨ b = 25) : js_J E d 99 0 [(2, 22 + b), (9, 0), (9, 0), (9, 0), (9, 0), (9, 0), (9, 0), (9, 0)] [] σ = js_J E d 99 4 [(2, 22 + b), (9, 0), (9, 0), (9, 0), (9, 0), (9, 0), (9, 0), (9, 0)] [(2, 1)] σ :=
  (j_aload_n q_99_0 rfl).trans <| (j_get (ji := 1) (v := (2, 1)) q_99_1 (js_Fo qy_99 qf_10_9) (js_o22b hb) rfl rfl rfl rfl).trans <| rfl
theorem k_99_4 {E : js_E} {d : Nat} {σ σ2 : js_S} {b : Int} (hd : 1 ≤ d) (hz : js_J E (d - 1) 33 0 [(2, 1), (9, 0)] [] σ = js_r0 E σ2) : js_J E d 99 4 [(2, 22 + b), (9, 0), (9, 0), (9, 0), (9, 0), (9, 0), (9, 0), (9, 0)] [(2, 1)] σ = js_J E d 99 7 [(2, 22 + b), (9, 0), (9, 0), (9, 0), (9, 0), (9, 0), (9, 0), (9, 0)] [] σ2 :=
  j_call0 (m := 1) (js_caV q_99_4 (js_Mo qy_99 qm_10_89)) (js_agV (av := []) (st := []) rfl rfl js_o1 rfl) rfl rfl (by rw [ql_33]; exact Nat.le_of_ble_eq_true rfl) (Nat.le_of_ble_eq_true rfl) hd hz
theorem kt_99_4 {E : js_E} {d : Nat} {σ σ2 : js_S} {b : Int} {w : Int} (hd : 1 ≤ d) (hz : js_J E (d - 1) 33 0 [(2, 1), (9, 0)] [] σ = js_t E w σ2) : js_J E d 99 4 [(2, 22 + b), (9, 0), (9, 0), (9, 0), (9, 0), (9, 0), (9, 0), (9, 0)] [(2, 1)] σ = js_t E w σ2 :=
  j_callT (m := 1) (js_caV q_99_4 (js_Mo qy_99 qm_10_89)) (js_agV (av := []) (st := []) rfl rfl js_o1 rfl) rfl rfl (by rw [ql_33]; exact Nat.le_of_ble_eq_true rfl) (Nat.le_of_ble_eq_true rfl) hd rfl hz
theorem b_99_7 {E : js_E} {d : Nat} {σ : js_S} {b : Int} (hb : b = 0 ∨ b = 25) : js_J E d 99 7 [(2, 22 + b), (9, 0), (9, 0), (9, 0), (9, 0), (9, 0), (9, 0), (9, 0)] [] σ = js_J E d 99 13 [(2, 22 + b), (9, 0), (9, 0), (9, 0), (9, 0), (9, 0), (9, 0), (9, 0)] [(0, 40), (2, 1)] σ :=
  (j_aload_n q_99_7 rfl).trans <| (j_get (ji := 1) (v := (2, 1)) q_99_8 (js_Fo qy_99 qf_10_9) (js_o22b hb) rfl rfl rfl rfl).trans <| (j_bi q_99_11 rfl).trans <| rfl
theorem k_99_13 {E : js_E} {d : Nat} {σ σ2 : js_S} {z1 b : Int} (hd : 1 ≤ d) (hz : js_J E (d - 1) 47 0 [(2, 1), (0, z1)] [] σ = js_r0 E σ2) : js_J E d 99 13 [(2, 22 + b), (9, 0), (9, 0), (9, 0), (9, 0), (9, 0), (9, 0), (9, 0)] [(0, z1), (2, 1)] σ = js_J E d 99 16 [(2, 22 + b), (9, 0), (9, 0), (9, 0), (9, 0), (9, 0), (9, 0), (9, 0)] [] σ2 :=
  j_call0 (m := 0) (js_caV q_99_13 (js_Mo qy_99 qm_10_46)) (js_agV (av := [(0, z1)]) (st := []) rfl rfl js_o1 rfl) rfl rfl (by rw [ql_47]; exact Nat.le_of_ble_eq_true rfl) (Nat.le_of_ble_eq_true rfl) hd hz
theorem kt_99_13 {E : js_E} {d : Nat} {σ σ2 : js_S} {z1 b : Int} {w : Int} (hd : 1 ≤ d) (hz : js_J E (d - 1) 47 0 [(2, 1), (0, z1)] [] σ = js_t E w σ2) : js_J E d 99 13 [(2, 22 + b), (9, 0), (9, 0), (9, 0), (9, 0), (9, 0), (9, 0), (9, 0)] [(0, z1), (2, 1)] σ = js_t E w σ2 :=
  j_callT (m := 0) (js_caV q_99_13 (js_Mo qy_99 qm_10_46)) (js_agV (av := [(0, z1)]) (st := []) rfl rfl js_o1 rfl) rfl rfl (by rw [ql_47]; exact Nat.le_of_ble_eq_true rfl) (Nat.le_of_ble_eq_true rfl) hd rfl hz
theorem b_99_16 {E : js_E} {d : Nat} {σ : js_S} {b : Int} (hb : b = 0 ∨ b = 25) : js_J E d 99 16 [(2, 22 + b), (9, 0), (9, 0), (9, 0), (9, 0), (9, 0), (9, 0), (9, 0)] [] σ = js_J E d 99 20 [(2, 22 + b), (9, 0), (9, 0), (9, 0), (9, 0), (9, 0), (9, 0), (9, 0)] [(2, 23 + b)] σ :=
  (j_aload_n q_99_16 rfl).trans <| (j_get (ji := 5) (v := (2, 23 + b)) q_99_17 (js_Fo qy_99 qf_10_35) (js_o22b hb) rfl rfl rfl rfl).trans <| rfl
theorem k_99_20 {E : js_E} {d : Nat} {σ σ2 : js_S} {b : Int} (hb : b = 0 ∨ b = 25) (hd : 1 ≤ d) (hz : js_J E (d - 1) 61 0 [(2, 23 + b), (9, 0), (9, 0), (9, 0), (9, 0), (9, 0), (9, 0)] [] σ = js_r0 E σ2) : js_J E d 99 20 [(2, 22 + b), (9, 0), (9, 0), (9, 0), (9, 0), (9, 0), (9, 0), (9, 0)] [(2, 23 + b)] σ = js_J E d 99 23 [(2, 22 + b), (9, 0), (9, 0), (9, 0), (9, 0), (9, 0), (9, 0), (9, 0)] [] σ2 :=
  j_call0 (m := 6) (js_caV q_99_20 (js_Mo qy_99 qm_10_62)) (js_agV (av := []) (st := []) rfl rfl (js_o23b hb) rfl) rfl rfl (by rw [ql_61]; exact Nat.le_of_ble_eq_true rfl) (Nat.le_of_ble_eq_true rfl) hd hz
theorem kt_99_20 {E : js_E} {d : Nat} {σ σ2 : js_S} {b : Int} (hb : b = 0 ∨ b = 25) {w : Int} (hd : 1 ≤ d) (hz : js_J E (d - 1) 61 0 [(2, 23 + b), (9, 0), (9, 0), (9, 0), (9, 0), (9, 0), (9, 0)] [] σ = js_t E w σ2) : js_J E d 99 20 [(2, 22 + b), (9, 0), (9, 0), (9, 0), (9, 0), (9, 0), (9, 0), (9, 0)] [(2, 23 + b)] σ = js_t E w σ2 :=
  j_callT (m := 6) (js_caV q_99_20 (js_Mo qy_99 qm_10_62)) (js_agV (av := []) (st := []) rfl rfl (js_o23b hb) rfl) rfl rfl (by rw [ql_61]; exact Nat.le_of_ble_eq_true rfl) (Nat.le_of_ble_eq_true rfl) hd rfl hz
theorem b_99_23 {E : js_E} {d : Nat} {σ : js_S} {b : Int} (hb : b = 0 ∨ b = 25) : js_J E d 99 23 [(2, 22 + b), (9, 0), (9, 0), (9, 0), (9, 0), (9, 0), (9, 0), (9, 0)] [] σ = (if js_w (σ (23 + b) 0) = 1 then js_J E d 99 48 [(2, 22 + b), (0, σ (23 + b) 0), (9, 0), (9, 0), (9, 0), (9, 0), (9, 0), (9, 0)] [(0, σ (23 + b) 3), (0, 5), (2, 1)] σ else js_J E d 99 51 [(2, 22 + b), (0, σ (23 + b) 0), (9, 0), (9, 0), (9, 0), (9, 0), (9, 0), (9, 0)] [] σ) :=
  (j_aload_n q_99_23 rfl).trans <| (j_get (ji := 5) (v := (2, 23 + b)) q_99_24 (js_Fo qy_99 qf_10_35) (js_o22b hb) rfl rfl rfl rfl).trans <| (j_get (ji := 0) (v := (0, σ (23 + b) 0)) q_99_27 (js_Fo qy_99 qf_10_230) (js_o23b hb) rfl rfl rfl rfl).trans <| (j_istore_n (l2 := [(2, 22 + b), (0, σ (23 + b) 0), (9, 0), (9, 0), (9, 0), (9, 0), (9, 0), (9, 0)]) q_99_30 rfl (Nat.le_of_ble_eq_true rfl)).trans <| (j_iload_n q_99_31 rfl).trans <| (j_iconst q_99_32).trans <| (j_cmpneB (t := 51) q_99_33 rfl ww_1).trans (js_ite ((j_aload_n q_99_36 rfl).trans <| (j_get (ji := 1) (v := (2, 1)) q_99_37 (js_Fo qy_99 qf_10_9) (js_o22b hb) rfl rfl rfl rfl).trans <| (j_iconst q_99_40).trans <| (j_aload_n q_99_41 rfl).trans <| (j_get (ji := 5) (v := (2, 23 + b)) q_99_42 (js_Fo qy_99 qf_10_35) (js_o22b hb) rfl rfl rfl rfl).trans <| (j_get (ji := 3) (v := (0, σ (23 + b) 3)) q_99_45 (js_Fo qy_99 qf_10_231) (js_o23b hb) rfl rfl rfl rfl).trans <| rfl) (rfl))
theorem k_99_48 {E : js_E} {d : Nat} {σ σ2 : js_S} {x1 z1 z2 b : Int} (hd : 1 ≤ d) (hz : js_J E (d - 1) 36 0 [(2, 1), (0, z1), (0, z2)] [] σ = js_r0 E σ2) : js_J E d 99 48 [(2, 22 + b), (0, x1), (9, 0), (9, 0), (9, 0), (9, 0), (9, 0), (9, 0)] [(0, z2), (0, z1), (2, 1)] σ = js_J E d 99 51 [(2, 22 + b), (0, x1), (9, 0), (9, 0), (9, 0), (9, 0), (9, 0), (9, 0)] [] σ2 :=
  j_call0 (m := 0) (js_caV q_99_48 (js_Mo qy_99 qm_10_128)) (js_agV (av := [(0, z1), (0, z2)]) (st := []) rfl rfl js_o1 rfl) rfl rfl (by rw [ql_36]; exact Nat.le_of_ble_eq_true rfl) (Nat.le_of_ble_eq_true rfl) hd hz
theorem kt_99_48 {E : js_E} {d : Nat} {σ σ2 : js_S} {x1 z1 z2 b : Int} {w : Int} (hd : 1 ≤ d) (hz : js_J E (d - 1) 36 0 [(2, 1), (0, z1), (0, z2)] [] σ = js_t E w σ2) : js_J E d 99 48 [(2, 22 + b), (0, x1), (9, 0), (9, 0), (9, 0), (9, 0), (9, 0), (9, 0)] [(0, z2), (0, z1), (2, 1)] σ = js_t E w σ2 :=
  j_callT (m := 0) (js_caV q_99_48 (js_Mo qy_99 qm_10_128)) (js_agV (av := [(0, z1), (0, z2)]) (st := []) rfl rfl js_o1 rfl) rfl rfl (by rw [ql_36]; exact Nat.le_of_ble_eq_true rfl) (Nat.le_of_ble_eq_true rfl) hd rfl hz
theorem b_99_51 {E : js_E} {d : Nat} {σ : js_S} {x1 b : Int} (hb : b = 0 ∨ b = 25) : js_J E d 99 51 [(2, 22 + b), (0, x1), (9, 0), (9, 0), (9, 0), (9, 0), (9, 0), (9, 0)] [] σ = js_J E d 99 57 [(2, 22 + b), (0, x1), (9, 0), (9, 0), (9, 0), (9, 0), (9, 0), (9, 0)] [(0, 41), (2, 1)] σ :=
  (j_aload_n q_99_51 rfl).trans <| (j_get (ji := 1) (v := (2, 1)) q_99_52 (js_Fo qy_99 qf_10_9) (js_o22b hb) rfl rfl rfl rfl).trans <| (j_bi q_99_55 rfl).trans <| rfl
theorem k_99_57 {E : js_E} {d : Nat} {σ σ2 : js_S} {x1 z1 b : Int} (hd : 1 ≤ d) (hz : js_J E (d - 1) 48 0 [(2, 1), (0, z1)] [] σ = js_r0 E σ2) : js_J E d 99 57 [(2, 22 + b), (0, x1), (9, 0), (9, 0), (9, 0), (9, 0), (9, 0), (9, 0)] [(0, z1), (2, 1)] σ = js_J E d 99 60 [(2, 22 + b), (0, x1), (9, 0), (9, 0), (9, 0), (9, 0), (9, 0), (9, 0)] [] σ2 :=
  j_call0 (m := 0) (js_caV q_99_57 (js_Mo qy_99 qm_10_80)) (js_agV (av := [(0, z1)]) (st := []) rfl rfl js_o1 rfl) rfl rfl (by rw [ql_48]; exact Nat.le_of_ble_eq_true rfl) (Nat.le_of_ble_eq_true rfl) hd hz
theorem kt_99_57 {E : js_E} {d : Nat} {σ σ2 : js_S} {x1 z1 b : Int} {w : Int} (hd : 1 ≤ d) (hz : js_J E (d - 1) 48 0 [(2, 1), (0, z1)] [] σ = js_t E w σ2) : js_J E d 99 57 [(2, 22 + b), (0, x1), (9, 0), (9, 0), (9, 0), (9, 0), (9, 0), (9, 0)] [(0, z1), (2, 1)] σ = js_t E w σ2 :=
  j_callT (m := 0) (js_caV q_99_57 (js_Mo qy_99 qm_10_80)) (js_agV (av := [(0, z1)]) (st := []) rfl rfl js_o1 rfl) rfl rfl (by rw [ql_48]; exact Nat.le_of_ble_eq_true rfl) (Nat.le_of_ble_eq_true rfl) hd rfl hz
theorem b_99_60 {E : js_E} {d : Nat} {σ : js_S} {x1 b : Int} (hb : b = 0 ∨ b = 25) : js_J E d 99 60 [(2, 22 + b), (0, x1), (9, 0), (9, 0), (9, 0), (9, 0), (9, 0), (9, 0)] [] σ = js_J E d 99 78 [(2, 22 + b), (0, x1), (9, 0), (9, 0), (9, 0), (9, 0), (9, 0), (9, 0)] [(0, σ (23 + b) 2), (0, σ (23 + b) 1), (2, 8 + b)] σ :=
  (j_aload_n q_99_60 rfl).trans <| (j_get (ji := 3) (v := (2, 8 + b)) q_99_61 (js_Fo qy_99 qf_10_25) (js_o22b hb) rfl rfl rfl rfl).trans <| (j_aload_n q_99_64 rfl).trans <| (j_get (ji := 5) (v := (2, 23 + b)) q_99_65 (js_Fo qy_99 qf_10_35) (js_o22b hb) rfl rfl rfl rfl).trans <| (j_get (ji := 1) (v := (0, σ (23 + b) 1)) q_99_68 (js_Fo qy_99 qf_10_198) (js_o23b hb) rfl rfl rfl rfl).trans <| (j_aload_n q_99_71 rfl).trans <| (j_get (ji := 5) (v := (2, 23 + b)) q_99_72 (js_Fo qy_99 qf_10_35) (js_o22b hb) rfl rfl rfl rfl).trans <| (j_get (ji := 2) (v := (0, σ (23 + b) 2)) q_99_75 (js_Fo qy_99 qf_10_199) (js_o23b hb) rfl rfl rfl rfl).trans <| rfl
theorem k_99_78 {E : js_E} {d : Nat} {σ σ2 : js_S} {x1 z1 z2 b : Int} (hb : b = 0 ∨ b = 25) {v : Int} (hd : 1 ≤ d) (hz : js_J E (d - 1) 69 0 [(2, 8 + b), (0, z1), (0, z2), (9, 0)] [] σ = js_r E (0, v) σ2) : js_J E d 99 78 [(2, 22 + b), (0, x1), (9, 0), (9, 0), (9, 0), (9, 0), (9, 0), (9, 0)] [(0, z2), (0, z1), (2, 8 + b)] σ = js_J E d 99 81 [(2, 22 + b), (0, x1), (9, 0), (9, 0), (9, 0), (9, 0), (9, 0), (9, 0)] [(0, v)] σ2 :=
  j_call (m := 1) (js_caV q_99_78 (js_Mo qy_99 qm_10_200)) (js_agV (av := [(0, z1), (0, z2)]) (st := []) rfl rfl (js_o8b hb) rfl) rfl rfl (by rw [ql_69]; exact Nat.le_of_ble_eq_true rfl) (Nat.le_of_ble_eq_true rfl) hd hz
theorem kt_99_78 {E : js_E} {d : Nat} {σ σ2 : js_S} {x1 z1 z2 b : Int} (hb : b = 0 ∨ b = 25) {w : Int} (hd : 1 ≤ d) (hz : js_J E (d - 1) 69 0 [(2, 8 + b), (0, z1), (0, z2), (9, 0)] [] σ = js_t E w σ2) : js_J E d 99 78 [(2, 22 + b), (0, x1), (9, 0), (9, 0), (9, 0), (9, 0), (9, 0), (9, 0)] [(0, z2), (0, z1), (2, 8 + b)] σ = js_t E w σ2 :=
  j_callT (m := 1) (js_caV q_99_78 (js_Mo qy_99 qm_10_200)) (js_agV (av := [(0, z1), (0, z2)]) (st := []) rfl rfl (js_o8b hb) rfl) rfl rfl (by rw [ql_69]; exact Nat.le_of_ble_eq_true rfl) (Nat.le_of_ble_eq_true rfl) hd rfl hz
theorem b_99_81 {E : js_E} {d : Nat} {σ : js_S} {x1 z0 b : Int} (hb : b = 0 ∨ b = 25) : js_J E d 99 81 [(2, 22 + b), (0, x1), (9, 0), (9, 0), (9, 0), (9, 0), (9, 0), (9, 0)] [(0, z0)] σ = js_J E d 99 88 [(2, 22 + b), (0, x1), (0, z0), (9, 0), (9, 0), (9, 0), (9, 0), (9, 0)] [(0, 123), (2, 1)] σ :=
  (j_istore_n (l2 := [(2, 22 + b), (0, x1), (0, z0), (9, 0), (9, 0), (9, 0), (9, 0), (9, 0)]) q_99_81 rfl (Nat.le_of_ble_eq_true rfl)).trans <| (j_aload_n q_99_82 rfl).trans <| (j_get (ji := 1) (v := (2, 1)) q_99_83 (js_Fo qy_99 qf_10_9) (js_o22b hb) rfl rfl rfl rfl).trans <| (j_bi q_99_86 rfl).trans <| rfl
theorem k_99_88 {E : js_E} {d : Nat} {σ σ2 : js_S} {x1 x2 z1 b : Int} (hd : 1 ≤ d) (hz : js_J E (d - 1) 47 0 [(2, 1), (0, z1)] [] σ = js_r0 E σ2) : js_J E d 99 88 [(2, 22 + b), (0, x1), (0, x2), (9, 0), (9, 0), (9, 0), (9, 0), (9, 0)] [(0, z1), (2, 1)] σ = js_J E d 99 91 [(2, 22 + b), (0, x1), (0, x2), (9, 0), (9, 0), (9, 0), (9, 0), (9, 0)] [] σ2 :=
  j_call0 (m := 0) (js_caV q_99_88 (js_Mo qy_99 qm_10_46)) (js_agV (av := [(0, z1)]) (st := []) rfl rfl js_o1 rfl) rfl rfl (by rw [ql_47]; exact Nat.le_of_ble_eq_true rfl) (Nat.le_of_ble_eq_true rfl) hd hz
theorem kt_99_88 {E : js_E} {d : Nat} {σ σ2 : js_S} {x1 x2 z1 b : Int} {w : Int} (hd : 1 ≤ d) (hz : js_J E (d - 1) 47 0 [(2, 1), (0, z1)] [] σ = js_t E w σ2) : js_J E d 99 88 [(2, 22 + b), (0, x1), (0, x2), (9, 0), (9, 0), (9, 0), (9, 0), (9, 0)] [(0, z1), (2, 1)] σ = js_t E w σ2 :=
  j_callT (m := 0) (js_caV q_99_88 (js_Mo qy_99 qm_10_46)) (js_agV (av := [(0, z1)]) (st := []) rfl rfl js_o1 rfl) rfl rfl (by rw [ql_47]; exact Nat.le_of_ble_eq_true rfl) (Nat.le_of_ble_eq_true rfl) hd rfl hz
theorem b_99_91 {E : js_E} {d : Nat} {σ : js_S} {x1 x2 b : Int} : js_J E d 99 91 [(2, 22 + b), (0, x1), (0, x2), (9, 0), (9, 0), (9, 0), (9, 0), (9, 0)] [] σ = js_J E d 99 99 [(2, 22 + b), (0, x1), (0, x2), (0, (-1)), (0, 0), (0, 0), (9, 0), (9, 0)] [] σ :=
  (j_iconst q_99_91).trans <| (j_istore_n (l2 := [(2, 22 + b), (0, x1), (0, x2), (0, (-1)), (9, 0), (9, 0), (9, 0), (9, 0)]) q_99_92 rfl (Nat.le_of_ble_eq_true rfl)).trans <| (j_iconst q_99_93).trans <| (j_istore (l2 := [(2, 22 + b), (0, x1), (0, x2), (0, (-1)), (0, 0), (9, 0), (9, 0), (9, 0)]) q_99_94 rfl (Nat.le_of_ble_eq_true rfl)).trans <| (j_iconst q_99_96).trans <| (j_istore (l2 := [(2, 22 + b), (0, x1), (0, x2), (0, (-1)), (0, 0), (0, 0), (9, 0), (9, 0)]) q_99_97 rfl (Nat.le_of_ble_eq_true rfl)).trans <| rfl
theorem b_99_99 {E : js_E} {d : Nat} {σ : js_S} {x1 x2 x3 x4 x5 b : Int} {ux6 ux7 : js_v} (hb : b = 0 ∨ b = 25) : js_J E d 99 99 [(2, 22 + b), (0, x1), (0, x2), (0, x3), (0, x4), (0, x5), ux6, ux7] [] σ = (if js_w x5 < 1000000 then (if js_w (σ 1 1) = 125 then js_J E d 99 209 [(2, 22 + b), (0, x1), (0, x2), (0, x3), (0, x4), (0, x5), ux6, ux7] [] σ else (if js_w (σ 1 1) = 208 then js_J E d 99 209 [(2, 22 + b), (0, x1), (0, x2), (0, x3), (0, x4), (0, x5), ux6, ux7] [] σ else js_J E d 99 134 [(2, 22 + b), (0, x1), (0, x2), (0, x3), (0, x4), (0, x5), ux6, ux7] [(0, x2), (0, x1), (2, 22 + b)] σ)) else js_J E d 99 209 [(2, 22 + b), (0, x1), (0, x2), (0, x3), (0, x4), (0, x5), ux6, ux7] [] σ) :=
  (j_iload q_99_99 rfl).trans <| (j_ldc (v := (0, 1000000)) q_99_101 (js_Co qy_99 qc_10_52)).trans <| (j_cmpgeB (t := 209) q_99_103 rfl ww_1000000).trans (js_ite ((j_aload_n q_99_106 rfl).trans <| (j_get (ji := 1) (v := (2, 1)) q_99_107 (js_Fo qy_99 qf_10_9) (js_o22b hb) rfl rfl rfl rfl).trans <| (j_get (ji := 1) (v := (0, σ 1 1)) q_99_110 (js_Fo qy_99 qf_10_53) js_o1 rfl rfl rfl rfl).trans <| (j_bi q_99_113 rfl).trans <| (j_cmpeqB (t := 209) q_99_115 rfl ww_125).trans (js_ite (rfl) ((j_aload_n q_99_118 rfl).trans <| (j_get (ji := 1) (v := (2, 1)) q_99_119 (js_Fo qy_99 qf_10_9) (js_o22b hb) rfl rfl rfl rfl).trans <| (j_get (ji := 1) (v := (0, σ 1 1)) q_99_122 (js_Fo qy_99 qf_10_53) js_o1 rfl rfl rfl rfl).trans <| (j_si q_99_125 rfl).trans <| (j_cmpeqB (t := 209) q_99_128 rfl ww_208).trans (js_ite (rfl) ((j_aload_n q_99_131 rfl).trans <| (j_iload_n q_99_132 rfl).trans <| (j_iload_n q_99_133 rfl).trans <| rfl))))) (rfl))
theorem k_99_134 {E : js_E} {d : Nat} {σ σ2 : js_S} {x1 x2 x3 x4 x5 z1 z2 b : Int} {ux6 ux7 : js_v} (hb : b = 0 ∨ b = 25) {v : Int} (hd : 1 ≤ d) (hz : js_J E (d - 1) 100 0 [(2, 22 + b), (0, z1), (0, z2), (9, 0), (9, 0), (9, 0), (9, 0)] [] σ = js_r E (0, v) σ2) : js_J E d 99 134 [(2, 22 + b), (0, x1), (0, x2), (0, x3), (0, x4), (0, x5), ux6, ux7] [(0, z2), (0, z1), (2, 22 + b)] σ = js_J E d 99 137 [(2, 22 + b), (0, x1), (0, x2), (0, x3), (0, x4), (0, x5), ux6, ux7] [(0, v)] σ2 :=
  j_call (m := 4) (js_caV q_99_134 (js_Mo qy_99 qm_10_234)) (js_agV (av := [(0, z1), (0, z2)]) (st := []) rfl rfl (js_o22b hb) rfl) rfl rfl (by rw [ql_100]; exact Nat.le_of_ble_eq_true rfl) (Nat.le_of_ble_eq_true rfl) hd hz
theorem kt_99_134 {E : js_E} {d : Nat} {σ σ2 : js_S} {x1 x2 x3 x4 x5 z1 z2 b : Int} {ux6 ux7 : js_v} (hb : b = 0 ∨ b = 25) {w : Int} (hd : 1 ≤ d) (hz : js_J E (d - 1) 100 0 [(2, 22 + b), (0, z1), (0, z2), (9, 0), (9, 0), (9, 0), (9, 0)] [] σ = js_t E w σ2) : js_J E d 99 134 [(2, 22 + b), (0, x1), (0, x2), (0, x3), (0, x4), (0, x5), ux6, ux7] [(0, z2), (0, z1), (2, 22 + b)] σ = js_t E w σ2 :=
  j_callT (m := 4) (js_caV q_99_134 (js_Mo qy_99 qm_10_234)) (js_agV (av := [(0, z1), (0, z2)]) (st := []) rfl rfl (js_o22b hb) rfl) rfl rfl (by rw [ql_100]; exact Nat.le_of_ble_eq_true rfl) (Nat.le_of_ble_eq_true rfl) hd rfl hz
theorem b_99_137 {E : js_E} {d : Nat} {σ : js_S} {x1 x2 x3 x4 x5 z0 b : Int} {ux6 ux7 : js_v} (hb : b = 0 ∨ b = 25) : js_J E d 99 137 [(2, 22 + b), (0, x1), (0, x2), (0, x3), (0, x4), (0, x5), ux6, ux7] [(0, z0)] σ = js_J E d 99 157 [(2, 22 + b), (0, x1), (0, x2), (0, x3), (0, x4), (0, x5), (0, z0), (0, σ (8 + b) 7)] [(2, (-1)), (0, σ (7 + b) 1), (2, 22 + b)] σ :=
  (j_istore (l2 := [(2, 22 + b), (0, x1), (0, x2), (0, x3), (0, x4), (0, x5), (0, z0), ux7]) q_99_137 rfl (Nat.le_of_ble_eq_true rfl)).trans <| (j_aload_n q_99_139 rfl).trans <| (j_get (ji := 3) (v := (2, 8 + b)) q_99_140 (js_Fo qy_99 qf_10_25) (js_o22b hb) rfl rfl rfl rfl).trans <| (j_get (ji := 7) (v := (0, σ (8 + b) 7)) q_99_143 (js_Fo qy_99 qf_10_209) (js_o8b hb) rfl rfl rfl rfl).trans <| (j_istore (l2 := [(2, 22 + b), (0, x1), (0, x2), (0, x3), (0, x4), (0, x5), (0, z0), (0, σ (8 + b) 7)]) q_99_146 rfl (Nat.le_of_ble_eq_true rfl)).trans <| (j_aload_n q_99_148 rfl).trans <| (j_aload_n q_99_149 rfl).trans <| (j_get (ji := 2) (v := (2, 7 + b)) q_99_150 (js_Fo qy_99 qf_10_15) (js_o22b hb) rfl rfl rfl rfl).trans <| (j_get (ji := 1) (v := (0, σ (7 + b) 1)) q_99_153 (js_Fo qy_99 qf_10_212) (js_o7b hb) rfl rfl rfl rfl).trans <| (j_null q_99_156).trans <| rfl
theorem k_99_157 {E : js_E} {d : Nat} {σ σ2 : js_S} {x1 x2 x3 x4 x5 x6 x7 z1 z2 b : Int} (hb : b = 0 ∨ b = 25) (hd : 1 ≤ d) (hz : js_J E (d - 1) 55 0 [(2, 22 + b), (0, z1), (2, z2), (9, 0)] [] σ = js_r0 E σ2) : js_J E d 99 157 [(2, 22 + b), (0, x1), (0, x2), (0, x3), (0, x4), (0, x5), (0, x6), (0, x7)] [(2, z2), (0, z1), (2, 22 + b)] σ = js_J E d 99 160 [(2, 22 + b), (0, x1), (0, x2), (0, x3), (0, x4), (0, x5), (0, x6), (0, x7)] [] σ2 :=
  j_call0 (m := 1) (js_caV q_99_157 (js_Mo qy_99 qm_10_215)) (js_agV (av := [(0, z1), (2, z2)]) (st := []) rfl rfl (js_o22b hb) rfl) rfl rfl (by rw [ql_55]; exact Nat.le_of_ble_eq_true rfl) (Nat.le_of_ble_eq_true rfl) hd hz
theorem kt_99_157 {E : js_E} {d : Nat} {σ σ2 : js_S} {x1 x2 x3 x4 x5 x6 x7 z1 z2 b : Int} (hb : b = 0 ∨ b = 25) {w : Int} (hd : 1 ≤ d) (hz : js_J E (d - 1) 55 0 [(2, 22 + b), (0, z1), (2, z2), (9, 0)] [] σ = js_t E w σ2) : js_J E d 99 157 [(2, 22 + b), (0, x1), (0, x2), (0, x3), (0, x4), (0, x5), (0, x6), (0, x7)] [(2, z2), (0, z1), (2, 22 + b)] σ = js_t E w σ2 :=
  j_callT (m := 1) (js_caV q_99_157 (js_Mo qy_99 qm_10_215)) (js_agV (av := [(0, z1), (2, z2)]) (st := []) rfl rfl (js_o22b hb) rfl) rfl rfl (by rw [ql_55]; exact Nat.le_of_ble_eq_true rfl) (Nat.le_of_ble_eq_true rfl) hd rfl hz
theorem b_99_160 {E : js_E} {d : Nat} {σ : js_S} {x1 x2 x3 x4 x5 x6 x7 b : Int} (hb : b = 0 ∨ b = 25) : js_J E d 99 160 [(2, 22 + b), (0, x1), (0, x2), (0, x3), (0, x4), (0, x5), (0, x6), (0, x7)] [] σ = js_J E d 99 167 [(2, 22 + b), (0, x1), (0, x2), (0, x3), (0, x4), (0, x5), (0, x6), (0, x7)] [(0, x3), (0, 24), (2, 8 + b)] σ :=
  (j_aload_n q_99_160 rfl).trans <| (j_get (ji := 3) (v := (2, 8 + b)) q_99_161 (js_Fo qy_99 qf_10_25) (js_o22b hb) rfl rfl rfl rfl).trans <| (j_bi q_99_164 rfl).trans <| (j_iload_n q_99_166 rfl).trans <| rfl
theorem k_99_167 {E : js_E} {d : Nat} {σ σ2 : js_S} {x1 x2 x3 x4 x5 x6 x7 z1 z2 b : Int} (hb : b = 0 ∨ b = 25) {v : Int} (hd : 1 ≤ d) (hz : js_J E (d - 1) 95 0 [(2, 8 + b), (0, z1), (0, z2)] [] σ = js_r E (0, v) σ2) : js_J E d 99 167 [(2, 22 + b), (0, x1), (0, x2), (0, x3), (0, x4), (0, x5), (0, x6), (0, x7)] [(0, z2), (0, z1), (2, 8 + b)] σ = js_J E d 99 170 [(2, 22 + b), (0, x1), (0, x2), (0, x3), (0, x4), (0, x5), (0, x6), (0, x7)] [(0, v)] σ2 :=
  j_call (m := 0) (js_caV q_99_167 (js_Mo qy_99 qm_10_95)) (js_agV (av := [(0, z1), (0, z2)]) (st := []) rfl rfl (js_o8b hb) rfl) rfl rfl (by rw [ql_95]; exact Nat.le_of_ble_eq_true rfl) (Nat.le_of_ble_eq_true rfl) hd hz
theorem kt_99_167 {E : js_E} {d : Nat} {σ σ2 : js_S} {x1 x2 x3 x4 x5 x6 x7 z1 z2 b : Int} (hb : b = 0 ∨ b = 25) {w : Int} (hd : 1 ≤ d) (hz : js_J E (d - 1) 95 0 [(2, 8 + b), (0, z1), (0, z2)] [] σ = js_t E w σ2) : js_J E d 99 167 [(2, 22 + b), (0, x1), (0, x2), (0, x3), (0, x4), (0, x5), (0, x6), (0, x7)] [(0, z2), (0, z1), (2, 8 + b)] σ = js_t E w σ2 :=
  j_callT (m := 0) (js_caV q_99_167 (js_Mo qy_99 qm_10_95)) (js_agV (av := [(0, z1), (0, z2)]) (st := []) rfl rfl (js_o8b hb) rfl) rfl rfl (by rw [ql_95]; exact Nat.le_of_ble_eq_true rfl) (Nat.le_of_ble_eq_true rfl) hd rfl hz
theorem b_99_170 {E : js_E} {d : Nat} {σ : js_S} {x1 x2 x3 x4 x5 x6 x7 z0 b : Int} (hd : 4 ≤ d) (hb : b = 0 ∨ b = 25) : js_J E d 99 170 [(2, 22 + b), (0, x1), (0, x2), (0, x3), (0, x4), (0, x5), (0, x6), (0, x7)] [(0, z0)] σ = js_J E d 99 200 [(2, 22 + b), (0, x1), (0, x2), (0, z0), (0, if js_w x4 < js_w (σ (8 + b) 7) then (σ (8 + b) 7) else x4), (0, x5), (0, x6), (0, x7)] [(0, x6), (2, 8 + b)] (js_up σ (8 + b) 7 x7) :=
  (j_istore_n (l2 := [(2, 22 + b), (0, x1), (0, x2), (0, z0), (0, x4), (0, x5), (0, x6), (0, x7)]) q_99_170 rfl (Nat.le_of_ble_eq_true rfl)).trans <| (j_iload q_99_171 rfl).trans <| (j_aload_n q_99_173 rfl).trans <| (j_get (ji := 3) (v := (2, 8 + b)) q_99_174 (js_Fo qy_99 qf_10_25) (js_o22b hb) rfl rfl rfl rfl).trans <| (j_get (ji := 7) (v := (0, σ (8 + b) 7)) q_99_177 (js_Fo qy_99 qf_10_209) (js_o8b hb) rfl rfl rfl rfl).trans <| (j_max (js_clS q_99_180 (js_Mo qy_99 qm_10_219)) (Nat.le_of_ble_eq_true rfl) hd).trans <| (j_istore (l2 := [(2, 22 + b), (0, x1), (0, x2), (0, z0), (0, if js_w x4 < js_w (σ (8 + b) 7) then (σ (8 + b) 7) else x4), (0, x5), (0, x6), (0, x7)]) q_99_183 rfl (Nat.le_of_ble_eq_true rfl)).trans <| (j_aload_n q_99_185 rfl).trans <| (j_get (ji := 3) (v := (2, 8 + b)) q_99_186 (js_Fo qy_99 qf_10_25) (js_o22b hb) rfl rfl rfl rfl).trans <| (j_iload q_99_189 rfl).trans <| (j_putI (ji := 7) q_99_191 (js_Fo qy_99 qf_10_209) rfl (js_o8b hb) rfl rfl rfl).trans <| (j_aload_n q_99_194 rfl).trans <| (j_get (ji := 3) (v := (2, 8 + b)) q_99_195 (js_Fo qy_99 qf_10_25) (js_o22b hb) rfl rfl rfl rfl).trans <| (j_iload q_99_198 rfl).trans <| rfl
theorem k_99_200 {E : js_E} {d : Nat} {σ σ2 : js_S} {x1 x2 x3 x4 x5 x6 x7 z1 b : Int} (hb : b = 0 ∨ b = 25) (hd : 1 ≤ d) (hz : js_J E (d - 1) 103 0 [(2, 8 + b), (0, z1), (9, 0), (9, 0), (9, 0)] [] σ = js_r0 E σ2) : js_J E d 99 200 [(2, 22 + b), (0, x1), (0, x2), (0, x3), (0, x4), (0, x5), (0, x6), (0, x7)] [(0, z1), (2, 8 + b)] σ = js_J E d 99 203 [(2, 22 + b), (0, x1), (0, x2), (0, x3), (0, x4), (0, x5), (0, x6), (0, x7)] [] σ2 :=
  j_call0 (m := 3) (js_caV q_99_200 (js_Mo qy_99 qm_10_227)) (js_agV (av := [(0, z1)]) (st := []) rfl rfl (js_o8b hb) rfl) rfl rfl (by rw [ql_103]; exact Nat.le_of_ble_eq_true rfl) (Nat.le_of_ble_eq_true rfl) hd hz
theorem kt_99_200 {E : js_E} {d : Nat} {σ σ2 : js_S} {x1 x2 x3 x4 x5 x6 x7 z1 b : Int} (hb : b = 0 ∨ b = 25) {w : Int} (hd : 1 ≤ d) (hz : js_J E (d - 1) 103 0 [(2, 8 + b), (0, z1), (9, 0), (9, 0), (9, 0)] [] σ = js_t E w σ2) : js_J E d 99 200 [(2, 22 + b), (0, x1), (0, x2), (0, x3), (0, x4), (0, x5), (0, x6), (0, x7)] [(0, z1), (2, 8 + b)] σ = js_t E w σ2 :=
  j_callT (m := 3) (js_caV q_99_200 (js_Mo qy_99 qm_10_227)) (js_agV (av := [(0, z1)]) (st := []) rfl rfl (js_o8b hb) rfl) rfl rfl (by rw [ql_103]; exact Nat.le_of_ble_eq_true rfl) (Nat.le_of_ble_eq_true rfl) hd rfl hz
theorem b_99_203 {E : js_E} {d : Nat} {σ : js_S} {x1 x2 x3 x4 x5 x6 x7 b : Int} : js_J E d 99 203 [(2, 22 + b), (0, x1), (0, x2), (0, x3), (0, x4), (0, x5), (0, x6), (0, x7)] [] σ = js_J E d 99 99 [(2, 22 + b), (0, x1), (0, x2), (0, x3), (0, x4), (0, x5 + 1), (0, x6), (0, x7)] [] σ :=
  (j_iinc (l2 := [(2, 22 + b), (0, x1), (0, x2), (0, x3), (0, x4), (0, x5 + 1), (0, x6), (0, x7)]) q_99_203 rfl rfl).trans <| (j_goto (t := 99) q_99_206 rfl).trans <| rfl
theorem b_99_209 {E : js_E} {d : Nat} {σ : js_S} {x1 x2 x3 x4 x5 b : Int} {ux6 ux7 : js_v} (hb : b = 0 ∨ b = 25) : js_J E d 99 209 [(2, 22 + b), (0, x1), (0, x2), (0, x3), (0, x4), (0, x5), ux6, ux7] [] σ = (if js_w (σ 1 1) = 208 then js_J E d 99 226 [(2, 22 + b), (0, x1), (0, x2), (0, x3), (0, x4), (0, x5), ux6, ux7] [(2, 1)] σ else js_J E d 99 241 [(2, 22 + b), (0, x1), (0, x2), (0, x3), (0, x4), (0, x5), ux6, ux7] [] σ) :=
  (j_aload_n q_99_209 rfl).trans <| (j_get (ji := 1) (v := (2, 1)) q_99_210 (js_Fo qy_99 qf_10_9) (js_o22b hb) rfl rfl rfl rfl).trans <| (j_get (ji := 1) (v := (0, σ 1 1)) q_99_213 (js_Fo qy_99 qf_10_53) js_o1 rfl rfl rfl rfl).trans <| (j_si q_99_216 rfl).trans <| (j_cmpneB (t := 241) q_99_219 rfl ww_208).trans (js_ite ((j_aload_n q_99_222 rfl).trans <| (j_get (ji := 1) (v := (2, 1)) q_99_223 (js_Fo qy_99 qf_10_9) (js_o22b hb) rfl rfl rfl rfl).trans <| rfl) (rfl))
theorem k_99_226 {E : js_E} {d : Nat} {σ σ2 : js_S} {x1 x2 x3 x4 x5 b : Int} {ux6 ux7 : js_v} (hd : 1 ≤ d) (hz : js_J E (d - 1) 33 0 [(2, 1), (9, 0)] [] σ = js_r0 E σ2) : js_J E d 99 226 [(2, 22 + b), (0, x1), (0, x2), (0, x3), (0, x4), (0, x5), ux6, ux7] [(2, 1)] σ = js_J E d 99 229 [(2, 22 + b), (0, x1), (0, x2), (0, x3), (0, x4), (0, x5), ux6, ux7] [] σ2 :=
  j_call0 (m := 1) (js_caV q_99_226 (js_Mo qy_99 qm_10_89)) (js_agV (av := []) (st := []) rfl rfl js_o1 rfl) rfl rfl (by rw [ql_33]; exact Nat.le_of_ble_eq_true rfl) (Nat.le_of_ble_eq_true rfl) hd hz
theorem kt_99_226 {E : js_E} {d : Nat} {σ σ2 : js_S} {x1 x2 x3 x4 x5 b : Int} {ux6 ux7 : js_v} {w : Int} (hd : 1 ≤ d) (hz : js_J E (d - 1) 33 0 [(2, 1), (9, 0)] [] σ = js_t E w σ2) : js_J E d 99 226 [(2, 22 + b), (0, x1), (0, x2), (0, x3), (0, x4), (0, x5), ux6, ux7] [(2, 1)] σ = js_t E w σ2 :=
  j_callT (m := 1) (js_caV q_99_226 (js_Mo qy_99 qm_10_89)) (js_agV (av := []) (st := []) rfl rfl js_o1 rfl) rfl rfl (by rw [ql_33]; exact Nat.le_of_ble_eq_true rfl) (Nat.le_of_ble_eq_true rfl) hd rfl hz
theorem b_99_229 {E : js_E} {d : Nat} {σ : js_S} {x1 x2 x3 x4 x5 b : Int} {ux6 ux7 : js_v} (hb : b = 0 ∨ b = 25) : js_J E d 99 229 [(2, 22 + b), (0, x1), (0, x2), (0, x3), (0, x4), (0, x5), ux6, ux7] [] σ = js_J E d 99 238 [(2, 22 + b), (0, x1), (0, x2), (0, x3), (0, x4), (0, x5), ux6, ux7] [(2, (-1)), (0, σ (7 + b) 1), (2, 22 + b)] σ :=
  (j_aload_n q_99_229 rfl).trans <| (j_aload_n q_99_230 rfl).trans <| (j_get (ji := 2) (v := (2, 7 + b)) q_99_231 (js_Fo qy_99 qf_10_15) (js_o22b hb) rfl rfl rfl rfl).trans <| (j_get (ji := 1) (v := (0, σ (7 + b) 1)) q_99_234 (js_Fo qy_99 qf_10_212) (js_o7b hb) rfl rfl rfl rfl).trans <| (j_null q_99_237).trans <| rfl
theorem k_99_238 {E : js_E} {d : Nat} {σ σ2 : js_S} {x1 x2 x3 x4 x5 z1 z2 b : Int} {ux6 ux7 : js_v} (hb : b = 0 ∨ b = 25) (hd : 1 ≤ d) (hz : js_J E (d - 1) 55 0 [(2, 22 + b), (0, z1), (2, z2), (9, 0)] [] σ = js_r0 E σ2) : js_J E d 99 238 [(2, 22 + b), (0, x1), (0, x2), (0, x3), (0, x4), (0, x5), ux6, ux7] [(2, z2), (0, z1), (2, 22 + b)] σ = js_J E d 99 241 [(2, 22 + b), (0, x1), (0, x2), (0, x3), (0, x4), (0, x5), ux6, ux7] [] σ2 :=
  j_call0 (m := 1) (js_caV q_99_238 (js_Mo qy_99 qm_10_215)) (js_agV (av := [(0, z1), (2, z2)]) (st := []) rfl rfl (js_o22b hb) rfl) rfl rfl (by rw [ql_55]; exact Nat.le_of_ble_eq_true rfl) (Nat.le_of_ble_eq_true rfl) hd hz
theorem kt_99_238 {E : js_E} {d : Nat} {σ σ2 : js_S} {x1 x2 x3 x4 x5 z1 z2 b : Int} {ux6 ux7 : js_v} (hb : b = 0 ∨ b = 25) {w : Int} (hd : 1 ≤ d) (hz : js_J E (d - 1) 55 0 [(2, 22 + b), (0, z1), (2, z2), (9, 0)] [] σ = js_t E w σ2) : js_J E d 99 238 [(2, 22 + b), (0, x1), (0, x2), (0, x3), (0, x4), (0, x5), ux6, ux7] [(2, z2), (0, z1), (2, 22 + b)] σ = js_t E w σ2 :=
  j_callT (m := 1) (js_caV q_99_238 (js_Mo qy_99 qm_10_215)) (js_agV (av := [(0, z1), (2, z2)]) (st := []) rfl rfl (js_o22b hb) rfl) rfl rfl (by rw [ql_55]; exact Nat.le_of_ble_eq_true rfl) (Nat.le_of_ble_eq_true rfl) hd rfl hz
theorem b_99_241 {E : js_E} {d : Nat} {σ : js_S} {x1 x2 x3 x4 x5 b : Int} {ux6 ux7 : js_v} (hb : b = 0 ∨ b = 25) : js_J E d 99 241 [(2, 22 + b), (0, x1), (0, x2), (0, x3), (0, x4), (0, x5), ux6, ux7] [] σ = js_J E d 99 247 [(2, 22 + b), (0, x1), (0, x2), (0, x3), (0, x4), (0, x5), ux6, ux7] [(0, 125), (2, 1)] σ :=
  (j_aload_n q_99_241 rfl).trans <| (j_get (ji := 1) (v := (2, 1)) q_99_242 (js_Fo qy_99 qf_10_9) (js_o22b hb) rfl rfl rfl rfl).trans <| (j_bi q_99_245 rfl).trans <| rfl
theorem k_99_247 {E : js_E} {d : Nat} {σ σ2 : js_S} {x1 x2 x3 x4 x5 z1 b : Int} {ux6 ux7 : js_v} (hd : 1 ≤ d) (hz : js_J E (d - 1) 48 0 [(2, 1), (0, z1)] [] σ = js_r0 E σ2) : js_J E d 99 247 [(2, 22 + b), (0, x1), (0, x2), (0, x3), (0, x4), (0, x5), ux6, ux7] [(0, z1), (2, 1)] σ = js_J E d 99 250 [(2, 22 + b), (0, x1), (0, x2), (0, x3), (0, x4), (0, x5), ux6, ux7] [] σ2 :=
  j_call0 (m := 0) (js_caV q_99_247 (js_Mo qy_99 qm_10_80)) (js_agV (av := [(0, z1)]) (st := []) rfl rfl js_o1 rfl) rfl rfl (by rw [ql_48]; exact Nat.le_of_ble_eq_true rfl) (Nat.le_of_ble_eq_true rfl) hd hz
theorem kt_99_247 {E : js_E} {d : Nat} {σ σ2 : js_S} {x1 x2 x3 x4 x5 z1 b : Int} {ux6 ux7 : js_v} {w : Int} (hd : 1 ≤ d) (hz : js_J E (d - 1) 48 0 [(2, 1), (0, z1)] [] σ = js_t E w σ2) : js_J E d 99 247 [(2, 22 + b), (0, x1), (0, x2), (0, x3), (0, x4), (0, x5), ux6, ux7] [(0, z1), (2, 1)] σ = js_t E w σ2 :=
  j_callT (m := 0) (js_caV q_99_247 (js_Mo qy_99 qm_10_80)) (js_agV (av := [(0, z1)]) (st := []) rfl rfl js_o1 rfl) rfl rfl (by rw [ql_48]; exact Nat.le_of_ble_eq_true rfl) (Nat.le_of_ble_eq_true rfl) hd rfl hz
theorem b_99_250 {E : js_E} {d : Nat} {σ : js_S} {x1 x2 x3 x4 x5 b : Int} {ux6 ux7 : js_v} (hb : b = 0 ∨ b = 25) : js_J E d 99 250 [(2, 22 + b), (0, x1), (0, x2), (0, x3), (0, x4), (0, x5), ux6, ux7] [] σ = js_J E d 99 255 [(2, 22 + b), (0, x1), (0, x2), (0, x3), (0, x4), (0, x5), ux6, ux7] [(0, x3), (2, 8 + b)] σ :=
  (j_aload_n q_99_250 rfl).trans <| (j_get (ji := 3) (v := (2, 8 + b)) q_99_251 (js_Fo qy_99 qf_10_25) (js_o22b hb) rfl rfl rfl rfl).trans <| (j_iload_n q_99_254 rfl).trans <| rfl
theorem k_99_255 {E : js_E} {d : Nat} {σ σ2 : js_S} {x1 x2 x3 x4 x5 z1 b : Int} {ux6 ux7 : js_v} (hb : b = 0 ∨ b = 25) (hd : 1 ≤ d) (hz : js_J E (d - 1) 103 0 [(2, 8 + b), (0, z1), (9, 0), (9, 0), (9, 0)] [] σ = js_r0 E σ2) : js_J E d 99 255 [(2, 22 + b), (0, x1), (0, x2), (0, x3), (0, x4), (0, x5), ux6, ux7] [(0, z1), (2, 8 + b)] σ = js_J E d 99 258 [(2, 22 + b), (0, x1), (0, x2), (0, x3), (0, x4), (0, x5), ux6, ux7] [] σ2 :=
  j_call0 (m := 3) (js_caV q_99_255 (js_Mo qy_99 qm_10_227)) (js_agV (av := [(0, z1)]) (st := []) rfl rfl (js_o8b hb) rfl) rfl rfl (by rw [ql_103]; exact Nat.le_of_ble_eq_true rfl) (Nat.le_of_ble_eq_true rfl) hd hz
theorem kt_99_255 {E : js_E} {d : Nat} {σ σ2 : js_S} {x1 x2 x3 x4 x5 z1 b : Int} {ux6 ux7 : js_v} (hb : b = 0 ∨ b = 25) {w : Int} (hd : 1 ≤ d) (hz : js_J E (d - 1) 103 0 [(2, 8 + b), (0, z1), (9, 0), (9, 0), (9, 0)] [] σ = js_t E w σ2) : js_J E d 99 255 [(2, 22 + b), (0, x1), (0, x2), (0, x3), (0, x4), (0, x5), ux6, ux7] [(0, z1), (2, 8 + b)] σ = js_t E w σ2 :=
  j_callT (m := 3) (js_caV q_99_255 (js_Mo qy_99 qm_10_227)) (js_agV (av := [(0, z1)]) (st := []) rfl rfl (js_o8b hb) rfl) rfl rfl (by rw [ql_103]; exact Nat.le_of_ble_eq_true rfl) (Nat.le_of_ble_eq_true rfl) hd rfl hz
theorem b_99_258 {E : js_E} {d : Nat} {σ : js_S} {x1 x2 x3 x4 x5 b : Int} {ux6 ux7 : js_v} (hd : 4 ≤ d) (hb : b = 0 ∨ b = 25) : js_J E d 99 258 [(2, 22 + b), (0, x1), (0, x2), (0, x3), (0, x4), (0, x5), ux6, ux7] [] σ = js_r0 E (js_up (js_up σ (8 + b) 7 (if js_w x4 < js_w (σ (8 + b) 7) then (σ (8 + b) 7) else x4)) (8 + b) 10 x2) :=
  (j_aload_n q_99_258 rfl).trans <| (j_get (ji := 3) (v := (2, 8 + b)) q_99_259 (js_Fo qy_99 qf_10_25) (js_o22b hb) rfl rfl rfl rfl).trans <| (j_iload q_99_262 rfl).trans <| (j_aload_n q_99_264 rfl).trans <| (j_get (ji := 3) (v := (2, 8 + b)) q_99_265 (js_Fo qy_99 qf_10_25) (js_o22b hb) rfl rfl rfl rfl).trans <| (j_get (ji := 7) (v := (0, σ (8 + b) 7)) q_99_268 (js_Fo qy_99 qf_10_209) (js_o8b hb) rfl rfl rfl rfl).trans <| (j_max (js_clS q_99_271 (js_Mo qy_99 qm_10_219)) (Nat.le_of_ble_eq_true rfl) hd).trans <| (j_putI (ji := 7) q_99_274 (js_Fo qy_99 qf_10_209) rfl (js_o8b hb) rfl rfl rfl).trans <| (j_aload_n q_99_277 rfl).trans <| (j_get (ji := 3) (v := (2, 8 + b)) q_99_278 (js_Fo qy_99 qf_10_25) (js_o22b hb) rfl rfl rfl rfl).trans <| (j_iload_n q_99_281 rfl).trans <| (j_putI (ji := 10) q_99_282 (js_Fo qy_99 qf_10_192) rfl (js_o8b hb) rfl rfl rfl).trans <| j_return q_99_285 qr_99
-- 100: VitalTwin$Statements.arm (II)I
theorem b_100_0 {E : js_E} {d : Nat} {σ : js_S} {x1 x2 b : Int} (hb : b = 0 ∨ b = 25) : js_J E d 100 0 [(2, 22 + b), (0, x1), (0, x2), (9, 0), (9, 0), (9, 0), (9, 0)] [] σ = js_J E d 100 5 [(2, 22 + b), (0, x1), (0, x2), (9, 0), (9, 0), (9, 0), (9, 0)] [(0, x1), (2, 21 + b)] σ :=
  (j_aload_n q_100_0 rfl).trans <| (j_get (ji := 4) (v := (2, 21 + b)) q_100_1 (js_Fo qy_100 qf_10_26) (js_o22b hb) rfl rfl rfl rfl).trans <| (j_iload_n q_100_4 rfl).trans <| rfl
theorem k_100_5 {E : js_E} {d : Nat} {σ σ2 : js_S} {x1 x2 z1 b : Int} (hb : b = 0 ∨ b = 25) {v : Int} (hd : 1 ≤ d) (hz : js_J E (d - 1) 41 0 [(2, 21 + b), (0, z1), (9, 0), (9, 0), (9, 0)] [] σ = js_r E (0, v) σ2) : js_J E d 100 5 [(2, 22 + b), (0, x1), (0, x2), (9, 0), (9, 0), (9, 0), (9, 0)] [(0, z1), (2, 21 + b)] σ = js_J E d 100 8 [(2, 22 + b), (0, x1), (0, x2), (9, 0), (9, 0), (9, 0), (9, 0)] [(0, v)] σ2 :=
  j_call (m := 3) (js_caV q_100_5 (js_Mo qy_100 qm_10_237)) (js_agV (av := [(0, z1)]) (st := []) rfl rfl (js_o21b hb) rfl) rfl rfl (by rw [ql_41]; exact Nat.le_of_ble_eq_true rfl) (Nat.le_of_ble_eq_true rfl) hd hz
theorem kt_100_5 {E : js_E} {d : Nat} {σ σ2 : js_S} {x1 x2 z1 b : Int} (hb : b = 0 ∨ b = 25) {w : Int} (hd : 1 ≤ d) (hz : js_J E (d - 1) 41 0 [(2, 21 + b), (0, z1), (9, 0), (9, 0), (9, 0)] [] σ = js_t E w σ2) : js_J E d 100 5 [(2, 22 + b), (0, x1), (0, x2), (9, 0), (9, 0), (9, 0), (9, 0)] [(0, z1), (2, 21 + b)] σ = js_t E w σ2 :=
  j_callT (m := 3) (js_caV q_100_5 (js_Mo qy_100 qm_10_237)) (js_agV (av := [(0, z1)]) (st := []) rfl rfl (js_o21b hb) rfl) rfl rfl (by rw [ql_41]; exact Nat.le_of_ble_eq_true rfl) (Nat.le_of_ble_eq_true rfl) hd rfl hz
theorem b_100_8 {E : js_E} {d : Nat} {σ : js_S} {x1 x2 z0 b : Int} (hb : b = 0 ∨ b = 25) : js_J E d 100 8 [(2, 22 + b), (0, x1), (0, x2), (9, 0), (9, 0), (9, 0), (9, 0)] [(0, z0)] σ = (if js_w (σ 1 1) = 128 then js_J E d 100 27 [(2, 22 + b), (0, x1), (0, x2), (0, z0), (9, 0), (9, 0), (9, 0)] [(0, 1)] σ else js_J E d 100 27 [(2, 22 + b), (0, x1), (0, x2), (0, z0), (9, 0), (9, 0), (9, 0)] [(0, 0)] σ) :=
  (j_istore_n (l2 := [(2, 22 + b), (0, x1), (0, x2), (0, z0), (9, 0), (9, 0), (9, 0)]) q_100_8 rfl (Nat.le_of_ble_eq_true rfl)).trans <| (j_aload_n q_100_9 rfl).trans <| (j_get (ji := 1) (v := (2, 1)) q_100_10 (js_Fo qy_100 qf_10_9) (js_o22b hb) rfl rfl rfl rfl).trans <| (j_get (ji := 1) (v := (0, σ 1 1)) q_100_13 (js_Fo qy_100 qf_10_53) js_o1 rfl rfl rfl rfl).trans <| (j_si q_100_16 rfl).trans <| (j_cmpneB (t := 26) q_100_19 rfl ww_128).trans (js_ite ((j_iconst q_100_22).trans <| (j_goto (t := 27) q_100_23 rfl).trans <| rfl) ((j_iconst q_100_26).trans <| rfl))
theorem b_100_27 {E : js_E} {d : Nat} {σ : js_S} {x1 x2 x3 z0 b : Int} (hb : b = 0 ∨ b = 25) : js_J E d 100 27 [(2, 22 + b), (0, x1), (0, x2), (0, x3), (9, 0), (9, 0), (9, 0)] [(0, z0)] σ = (if js_w z0 = 0 then js_J E d 100 53 [(2, 22 + b), (0, x1), (0, x2), (0, x3), (0, z0), (9, 0), (9, 0)] [] σ else (if js_w x1 = 0 then js_J E d 100 53 [(2, 22 + b), (0, x1), (0, x2), (0, x3), (0, z0), (9, 0), (9, 0)] [] σ else js_J E d 100 50 [(2, 22 + b), (0, x1), (0, x2), (0, x3), (0, z0), (9, 0), (9, 0)] [(0, σ 1 2), (0, 4), (2, 1)] σ)) :=
  (j_istore (l2 := [(2, 22 + b), (0, x1), (0, x2), (0, x3), (0, z0), (9, 0), (9, 0)]) q_100_27 rfl (Nat.le_of_ble_eq_true rfl)).trans <| (j_iload q_100_29 rfl).trans <| (j_ifeq (t := 53) q_100_31 rfl).trans (js_ite (rfl) ((j_iload_n q_100_34 rfl).trans <| (j_ifeq (t := 53) q_100_35 rfl).trans (js_ite (rfl) ((j_aload_n q_100_38 rfl).trans <| (j_get (ji := 1) (v := (2, 1)) q_100_39 (js_Fo qy_100 qf_10_9) (js_o22b hb) rfl rfl rfl rfl).trans <| (j_iconst q_100_42).trans <| (j_aload_n q_100_43 rfl).trans <| (j_get (ji := 1) (v := (2, 1)) q_100_44 (js_Fo qy_100 qf_10_9) (js_o22b hb) rfl rfl rfl rfl).trans <| (j_get (ji := 2) (v := (0, σ 1 2)) q_100_47 (js_Fo qy_100 qf_10_110) js_o1 rfl rfl rfl rfl).trans <| rfl))))
theorem k_100_50 {E : js_E} {d : Nat} {σ σ2 : js_S} {x1 x2 x3 x4 z1 z2 b : Int} (hd : 1 ≤ d) (hz : js_J E (d - 1) 36 0 [(2, 1), (0, z1), (0, z2)] [] σ = js_r0 E σ2) : js_J E d 100 50 [(2, 22 + b), (0, x1), (0, x2), (0, x3), (0, x4), (9, 0), (9, 0)] [(0, z2), (0, z1), (2, 1)] σ = js_J E d 100 53 [(2, 22 + b), (0, x1), (0, x2), (0, x3), (0, x4), (9, 0), (9, 0)] [] σ2 :=
  j_call0 (m := 0) (js_caV q_100_50 (js_Mo qy_100 qm_10_128)) (js_agV (av := [(0, z1), (0, z2)]) (st := []) rfl rfl js_o1 rfl) rfl rfl (by rw [ql_36]; exact Nat.le_of_ble_eq_true rfl) (Nat.le_of_ble_eq_true rfl) hd hz
theorem kt_100_50 {E : js_E} {d : Nat} {σ σ2 : js_S} {x1 x2 x3 x4 z1 z2 b : Int} {w : Int} (hd : 1 ≤ d) (hz : js_J E (d - 1) 36 0 [(2, 1), (0, z1), (0, z2)] [] σ = js_t E w σ2) : js_J E d 100 50 [(2, 22 + b), (0, x1), (0, x2), (0, x3), (0, x4), (9, 0), (9, 0)] [(0, z2), (0, z1), (2, 1)] σ = js_t E w σ2 :=
  j_callT (m := 0) (js_caV q_100_50 (js_Mo qy_100 qm_10_128)) (js_agV (av := [(0, z1), (0, z2)]) (st := []) rfl rfl js_o1 rfl) rfl rfl (by rw [ql_36]; exact Nat.le_of_ble_eq_true rfl) (Nat.le_of_ble_eq_true rfl) hd rfl hz
theorem b_100_53 {E : js_E} {d : Nat} {σ : js_S} {x1 x2 x3 x4 b : Int} : js_J E d 100 53 [(2, 22 + b), (0, x1), (0, x2), (0, x3), (0, x4), (9, 0), (9, 0)] [] σ = (if js_w x4 = 0 then js_J E d 100 68 [(2, 22 + b), (0, x1), (0, x2), (0, x3), (0, x4), (9, 0), (9, 0)] [(0, 17), (0, x2), (0, x3), (2, 22 + b)] σ else js_J E d 100 68 [(2, 22 + b), (0, x1), (0, x2), (0, x3), (0, x4), (9, 0), (9, 0)] [(0, 16), (0, x2), (0, x3), (2, 22 + b)] σ) :=
  (j_aload_n q_100_53 rfl).trans <| (j_iload_n q_100_54 rfl).trans <| (j_iload_n q_100_55 rfl).trans <| (j_iload q_100_56 rfl).trans <| (j_ifeq (t := 66) q_100_58 rfl).trans (js_ite ((j_bi q_100_66 rfl).trans <| rfl) ((j_bi q_100_61 rfl).trans <| (j_goto (t := 68) q_100_63 rfl).trans <| rfl))
theorem b_100_68 {E : js_E} {d : Nat} {σ : js_S} {x1 x2 x3 x4 z1 z2 z3 b : Int} : js_J E d 100 68 [(2, 22 + b), (0, x1), (0, x2), (0, x3), (0, x4), (9, 0), (9, 0)] [(0, z3), (0, z2), (0, z1), (2, 22 + b)] σ = js_J E d 100 69 [(2, 22 + b), (0, x1), (0, x2), (0, x3), (0, x4), (9, 0), (9, 0)] [(0, (-1)), (0, z3), (0, z2), (0, z1), (2, 22 + b)] σ :=
  (j_iconst q_100_68).trans <| rfl
theorem k_100_69 {E : js_E} {d : Nat} {σ σ2 : js_S} {x1 x2 x3 x4 z1 z2 z3 z4 b : Int} (hb : b = 0 ∨ b = 25) {v : Int} (hd : 1 ≤ d) (hz : js_J E (d - 1) 101 0 [(2, 22 + b), (0, z1), (0, z2), (0, z3), (0, z4)] [] σ = js_r E (0, v) σ2) : js_J E d 100 69 [(2, 22 + b), (0, x1), (0, x2), (0, x3), (0, x4), (9, 0), (9, 0)] [(0, z4), (0, z3), (0, z2), (0, z1), (2, 22 + b)] σ = js_J E d 100 72 [(2, 22 + b), (0, x1), (0, x2), (0, x3), (0, x4), (9, 0), (9, 0)] [(0, v)] σ2 :=
  j_call (m := 0) (js_caV q_100_69 (js_Mo qy_100 qm_10_241)) (js_agV (av := [(0, z1), (0, z2), (0, z3), (0, z4)]) (st := []) rfl rfl (js_o22b hb) rfl) rfl rfl (by rw [ql_101]; exact Nat.le_of_ble_eq_true rfl) (Nat.le_of_ble_eq_true rfl) hd hz
theorem kt_100_69 {E : js_E} {d : Nat} {σ σ2 : js_S} {x1 x2 x3 x4 z1 z2 z3 z4 b : Int} (hb : b = 0 ∨ b = 25) {w : Int} (hd : 1 ≤ d) (hz : js_J E (d - 1) 101 0 [(2, 22 + b), (0, z1), (0, z2), (0, z3), (0, z4)] [] σ = js_t E w σ2) : js_J E d 100 69 [(2, 22 + b), (0, x1), (0, x2), (0, x3), (0, x4), (9, 0), (9, 0)] [(0, z4), (0, z3), (0, z2), (0, z1), (2, 22 + b)] σ = js_t E w σ2 :=
  j_callT (m := 0) (js_caV q_100_69 (js_Mo qy_100 qm_10_241)) (js_agV (av := [(0, z1), (0, z2), (0, z3), (0, z4)]) (st := []) rfl rfl (js_o22b hb) rfl) rfl rfl (by rw [ql_101]; exact Nat.le_of_ble_eq_true rfl) (Nat.le_of_ble_eq_true rfl) hd rfl hz
theorem b_100_72 {E : js_E} {d : Nat} {σ : js_S} {x1 x2 x3 x4 z0 b : Int} (hb : b = 0 ∨ b = 25) : js_J E d 100 72 [(2, 22 + b), (0, x1), (0, x2), (0, x3), (0, x4), (9, 0), (9, 0)] [(0, z0)] σ = (if js_w x4 = 0 then js_J E d 100 117 [(2, 22 + b), (0, x1), (0, x2), (0, x3), (0, x4), (0, z0), (9, 0)] [] σ else js_J E d 100 83 [(2, 22 + b), (0, x1), (0, x2), (0, x3), (0, x4), (0, z0), (9, 0)] [(2, 1)] σ) :=
  (j_istore (l2 := [(2, 22 + b), (0, x1), (0, x2), (0, x3), (0, x4), (0, z0), (9, 0)]) q_100_72 rfl (Nat.le_of_ble_eq_true rfl)).trans <| (j_iload q_100_74 rfl).trans <| (j_ifeq (t := 117) q_100_76 rfl).trans (js_ite (rfl) ((j_aload_n q_100_79 rfl).trans <| (j_get (ji := 1) (v := (2, 1)) q_100_80 (js_Fo qy_100 qf_10_9) (js_o22b hb) rfl rfl rfl rfl).trans <| rfl))
theorem k_100_83 {E : js_E} {d : Nat} {σ σ2 : js_S} {x1 x2 x3 x4 x5 b : Int} (hd : 1 ≤ d) (hz : js_J E (d - 1) 33 0 [(2, 1), (9, 0)] [] σ = js_r0 E σ2) : js_J E d 100 83 [(2, 22 + b), (0, x1), (0, x2), (0, x3), (0, x4), (0, x5), (9, 0)] [(2, 1)] σ = js_J E d 100 86 [(2, 22 + b), (0, x1), (0, x2), (0, x3), (0, x4), (0, x5), (9, 0)] [] σ2 :=
  j_call0 (m := 1) (js_caV q_100_83 (js_Mo qy_100 qm_10_89)) (js_agV (av := []) (st := []) rfl rfl js_o1 rfl) rfl rfl (by rw [ql_33]; exact Nat.le_of_ble_eq_true rfl) (Nat.le_of_ble_eq_true rfl) hd hz
theorem kt_100_83 {E : js_E} {d : Nat} {σ σ2 : js_S} {x1 x2 x3 x4 x5 b : Int} {w : Int} (hd : 1 ≤ d) (hz : js_J E (d - 1) 33 0 [(2, 1), (9, 0)] [] σ = js_t E w σ2) : js_J E d 100 83 [(2, 22 + b), (0, x1), (0, x2), (0, x3), (0, x4), (0, x5), (9, 0)] [(2, 1)] σ = js_t E w σ2 :=
  j_callT (m := 1) (js_caV q_100_83 (js_Mo qy_100 qm_10_89)) (js_agV (av := []) (st := []) rfl rfl js_o1 rfl) rfl rfl (by rw [ql_33]; exact Nat.le_of_ble_eq_true rfl) (Nat.le_of_ble_eq_true rfl) hd rfl hz
theorem b_100_86 {E : js_E} {d : Nat} {σ : js_S} {x1 x2 x3 x4 x5 b : Int} (hb : b = 0 ∨ b = 25) : js_J E d 100 86 [(2, 22 + b), (0, x1), (0, x2), (0, x3), (0, x4), (0, x5), (9, 0)] [] σ = js_J E d 100 91 [(2, 22 + b), (0, x1), (0, x2), (0, x3), (0, x4), (0, x5), (9, 0)] [(0, 0), (2, 21 + b)] σ :=
  (j_aload_n q_100_86 rfl).trans <| (j_get (ji := 4) (v := (2, 21 + b)) q_100_87 (js_Fo qy_100 qf_10_26) (js_o22b hb) rfl rfl rfl rfl).trans <| (j_iconst q_100_90).trans <| rfl
theorem k_100_91 {E : js_E} {d : Nat} {σ σ2 : js_S} {x1 x2 x3 x4 x5 z1 b : Int} (hb : b = 0 ∨ b = 25) {v : Int} (hd : 1 ≤ d) (hz : js_J E (d - 1) 41 0 [(2, 21 + b), (0, z1), (9, 0), (9, 0), (9, 0)] [] σ = js_r E (0, v) σ2) : js_J E d 100 91 [(2, 22 + b), (0, x1), (0, x2), (0, x3), (0, x4), (0, x5), (9, 0)] [(0, z1), (2, 21 + b)] σ = js_J E d 100 94 [(2, 22 + b), (0, x1), (0, x2), (0, x3), (0, x4), (0, x5), (9, 0)] [(0, v)] σ2 :=
  j_call (m := 3) (js_caV q_100_91 (js_Mo qy_100 qm_10_237)) (js_agV (av := [(0, z1)]) (st := []) rfl rfl (js_o21b hb) rfl) rfl rfl (by rw [ql_41]; exact Nat.le_of_ble_eq_true rfl) (Nat.le_of_ble_eq_true rfl) hd hz
theorem kt_100_91 {E : js_E} {d : Nat} {σ σ2 : js_S} {x1 x2 x3 x4 x5 z1 b : Int} (hb : b = 0 ∨ b = 25) {w : Int} (hd : 1 ≤ d) (hz : js_J E (d - 1) 41 0 [(2, 21 + b), (0, z1), (9, 0), (9, 0), (9, 0)] [] σ = js_t E w σ2) : js_J E d 100 91 [(2, 22 + b), (0, x1), (0, x2), (0, x3), (0, x4), (0, x5), (9, 0)] [(0, z1), (2, 21 + b)] σ = js_t E w σ2 :=
  j_callT (m := 3) (js_caV q_100_91 (js_Mo qy_100 qm_10_237)) (js_agV (av := [(0, z1)]) (st := []) rfl rfl (js_o21b hb) rfl) rfl rfl (by rw [ql_41]; exact Nat.le_of_ble_eq_true rfl) (Nat.le_of_ble_eq_true rfl) hd rfl hz
theorem b_100_94 {E : js_E} {d : Nat} {σ : js_S} {x1 x2 x3 x4 x5 z0 b : Int} (hb : b = 0 ∨ b = 25) : js_J E d 100 94 [(2, 22 + b), (0, x1), (0, x2), (0, x3), (0, x4), (0, x5), (9, 0)] [(0, z0)] σ = js_J E d 100 101 [(2, 22 + b), (0, x1), (0, x2), (0, x3), (0, x4), (0, x5), (0, z0)] [(0, x3), (2, 21 + b)] σ :=
  (j_istore (l2 := [(2, 22 + b), (0, x1), (0, x2), (0, x3), (0, x4), (0, x5), (0, z0)]) q_100_94 rfl (Nat.le_of_ble_eq_true rfl)).trans <| (j_aload_n q_100_96 rfl).trans <| (j_get (ji := 4) (v := (2, 21 + b)) q_100_97 (js_Fo qy_100 qf_10_26) (js_o22b hb) rfl rfl rfl rfl).trans <| (j_iload_n q_100_100 rfl).trans <| rfl
theorem k_100_101 {E : js_E} {d : Nat} {σ σ2 : js_S} {x1 x2 x3 x4 x5 x6 z1 b : Int} (hb : b = 0 ∨ b = 25) (hd : 1 ≤ d) (hz : js_J E (d - 1) 50 0 [(2, 21 + b), (0, z1)] [] σ = js_r0 E σ2) : js_J E d 100 101 [(2, 22 + b), (0, x1), (0, x2), (0, x3), (0, x4), (0, x5), (0, x6)] [(0, z1), (2, 21 + b)] σ = js_J E d 100 104 [(2, 22 + b), (0, x1), (0, x2), (0, x3), (0, x4), (0, x5), (0, x6)] [] σ2 :=
  j_call0 (m := 0) (js_caV q_100_101 (js_Mo qy_100 qm_10_245)) (js_agV (av := [(0, z1)]) (st := []) rfl rfl (js_o21b hb) rfl) rfl rfl (by rw [ql_50]; exact Nat.le_of_ble_eq_true rfl) (Nat.le_of_ble_eq_true rfl) hd hz
theorem kt_100_101 {E : js_E} {d : Nat} {σ σ2 : js_S} {x1 x2 x3 x4 x5 x6 z1 b : Int} (hb : b = 0 ∨ b = 25) {w : Int} (hd : 1 ≤ d) (hz : js_J E (d - 1) 50 0 [(2, 21 + b), (0, z1)] [] σ = js_t E w σ2) : js_J E d 100 101 [(2, 22 + b), (0, x1), (0, x2), (0, x3), (0, x4), (0, x5), (0, x6)] [(0, z1), (2, 21 + b)] σ = js_t E w σ2 :=
  j_callT (m := 0) (js_caV q_100_101 (js_Mo qy_100 qm_10_245)) (js_agV (av := [(0, z1)]) (st := []) rfl rfl (js_o21b hb) rfl) rfl rfl (by rw [ql_50]; exact Nat.le_of_ble_eq_true rfl) (Nat.le_of_ble_eq_true rfl) hd rfl hz
theorem b_100_104 {E : js_E} {d : Nat} {σ : js_S} {x1 x2 x3 x4 x5 x6 b : Int} : js_J E d 100 104 [(2, 22 + b), (0, x1), (0, x2), (0, x3), (0, x4), (0, x5), (0, x6)] [] σ = js_J E d 100 112 [(2, 22 + b), (0, x1), (0, x2), (0, x3), (0, x4), (0, x5), (0, x6)] [(0, x5), (0, 14), (0, x2), (0, x6), (2, 22 + b)] σ :=
  (j_aload_n q_100_104 rfl).trans <| (j_iload q_100_105 rfl).trans <| (j_iload_n q_100_107 rfl).trans <| (j_bi q_100_108 rfl).trans <| (j_iload q_100_110 rfl).trans <| rfl
theorem k_100_112 {E : js_E} {d : Nat} {σ σ2 : js_S} {x1 x2 x3 x4 x5 x6 z1 z2 z3 z4 b : Int} (hb : b = 0 ∨ b = 25) {v : Int} (hd : 1 ≤ d) (hz : js_J E (d - 1) 101 0 [(2, 22 + b), (0, z1), (0, z2), (0, z3), (0, z4)] [] σ = js_r E (0, v) σ2) : js_J E d 100 112 [(2, 22 + b), (0, x1), (0, x2), (0, x3), (0, x4), (0, x5), (0, x6)] [(0, z4), (0, z3), (0, z2), (0, z1), (2, 22 + b)] σ = js_J E d 100 115 [(2, 22 + b), (0, x1), (0, x2), (0, x3), (0, x4), (0, x5), (0, x6)] [(0, v)] σ2 :=
  j_call (m := 0) (js_caV q_100_112 (js_Mo qy_100 qm_10_241)) (js_agV (av := [(0, z1), (0, z2), (0, z3), (0, z4)]) (st := []) rfl rfl (js_o22b hb) rfl) rfl rfl (by rw [ql_101]; exact Nat.le_of_ble_eq_true rfl) (Nat.le_of_ble_eq_true rfl) hd hz
theorem kt_100_112 {E : js_E} {d : Nat} {σ σ2 : js_S} {x1 x2 x3 x4 x5 x6 z1 z2 z3 z4 b : Int} (hb : b = 0 ∨ b = 25) {w : Int} (hd : 1 ≤ d) (hz : js_J E (d - 1) 101 0 [(2, 22 + b), (0, z1), (0, z2), (0, z3), (0, z4)] [] σ = js_t E w σ2) : js_J E d 100 112 [(2, 22 + b), (0, x1), (0, x2), (0, x3), (0, x4), (0, x5), (0, x6)] [(0, z4), (0, z3), (0, z2), (0, z1), (2, 22 + b)] σ = js_t E w σ2 :=
  j_callT (m := 0) (js_caV q_100_112 (js_Mo qy_100 qm_10_241)) (js_agV (av := [(0, z1), (0, z2), (0, z3), (0, z4)]) (st := []) rfl rfl (js_o22b hb) rfl) rfl rfl (by rw [ql_101]; exact Nat.le_of_ble_eq_true rfl) (Nat.le_of_ble_eq_true rfl) hd rfl hz
theorem b_100_115 {E : js_E} {d : Nat} {σ : js_S} {x1 x2 x3 x4 x5 x6 z0 b : Int} : js_J E d 100 115 [(2, 22 + b), (0, x1), (0, x2), (0, x3), (0, x4), (0, x5), (0, x6)] [(0, z0)] σ = js_J E d 100 117 [(2, 22 + b), (0, x1), (0, x2), (0, x3), (0, x4), (0, z0), (0, x6)] [] σ :=
  (j_istore (l2 := [(2, 22 + b), (0, x1), (0, x2), (0, x3), (0, x4), (0, z0), (0, x6)]) q_100_115 rfl (Nat.le_of_ble_eq_true rfl)).trans <| rfl
theorem b_100_117 {E : js_E} {d : Nat} {σ : js_S} {x1 x2 x3 x4 x5 b : Int} {ux6 : js_v} (hb : b = 0 ∨ b = 25) : js_J E d 100 117 [(2, 22 + b), (0, x1), (0, x2), (0, x3), (0, x4), (0, x5), ux6] [] σ = js_J E d 100 123 [(2, 22 + b), (0, x1), (0, x2), (0, x3), (0, x4), (0, x5), ux6] [(0, 58), (2, 1)] σ :=
  (j_aload_n q_100_117 rfl).trans <| (j_get (ji := 1) (v := (2, 1)) q_100_118 (js_Fo qy_100 qf_10_9) (js_o22b hb) rfl rfl rfl rfl).trans <| (j_bi q_100_121 rfl).trans <| rfl
theorem k_100_123 {E : js_E} {d : Nat} {σ σ2 : js_S} {x1 x2 x3 x4 x5 z1 b : Int} {ux6 : js_v} (hd : 1 ≤ d) (hz : js_J E (d - 1) 40 0 [(2, 1), (0, z1)] [] σ = js_r0 E σ2) : js_J E d 100 123 [(2, 22 + b), (0, x1), (0, x2), (0, x3), (0, x4), (0, x5), ux6] [(0, z1), (2, 1)] σ = js_J E d 100 126 [(2, 22 + b), (0, x1), (0, x2), (0, x3), (0, x4), (0, x5), ux6] [] σ2 :=
  j_call0 (m := 0) (js_caV q_100_123 (js_Mo qy_100 qm_10_59)) (js_agV (av := [(0, z1)]) (st := []) rfl rfl js_o1 rfl) rfl rfl (by rw [ql_40]; exact Nat.le_of_ble_eq_true rfl) (Nat.le_of_ble_eq_true rfl) hd hz
theorem kt_100_123 {E : js_E} {d : Nat} {σ σ2 : js_S} {x1 x2 x3 x4 x5 z1 b : Int} {ux6 : js_v} {w : Int} (hd : 1 ≤ d) (hz : js_J E (d - 1) 40 0 [(2, 1), (0, z1)] [] σ = js_t E w σ2) : js_J E d 100 123 [(2, 22 + b), (0, x1), (0, x2), (0, x3), (0, x4), (0, x5), ux6] [(0, z1), (2, 1)] σ = js_t E w σ2 :=
  j_callT (m := 0) (js_caV q_100_123 (js_Mo qy_100 qm_10_59)) (js_agV (av := [(0, z1)]) (st := []) rfl rfl js_o1 rfl) rfl rfl (by rw [ql_40]; exact Nat.le_of_ble_eq_true rfl) (Nat.le_of_ble_eq_true rfl) hd rfl hz
theorem b_100_126 {E : js_E} {d : Nat} {σ : js_S} {x1 x2 x3 x4 x5 b : Int} {ux6 : js_v} : js_J E d 100 126 [(2, 22 + b), (0, x1), (0, x2), (0, x3), (0, x4), (0, x5), ux6] [] σ = js_r E (0, x5) σ :=
  (j_iload q_100_126 rfl).trans <| j_ireturn q_100_128 qr_100
-- 101: VitalTwin$Statements.test (IIII)I
theorem b_101_0 {E : js_E} {d : Nat} {σ : js_S} {x1 x2 x3 x4 b : Int} (hb : b = 0 ∨ b = 25) : js_J E d 101 0 [(2, 22 + b), (0, x1), (0, x2), (0, x3), (0, x4)] [] σ = js_J E d 101 8 [(2, 22 + b), (0, x1), (0, x2), (0, x3), (0, x4)] [(0, x1), (0, x1), (0, x1), (0, 0), (2, 8 + b)] σ :=
  (j_aload_n q_101_0 rfl).trans <| (j_get (ji := 3) (v := (2, 8 + b)) q_101_1 (js_Fo qy_101 qf_10_25) (js_o22b hb) rfl rfl rfl rfl).trans <| (j_iconst q_101_4).trans <| (j_iload_n q_101_5 rfl).trans <| (j_iload_n q_101_6 rfl).trans <| (j_iload_n q_101_7 rfl).trans <| rfl
theorem k_101_8 {E : js_E} {d : Nat} {σ σ2 : js_S} {x1 x2 x3 x4 z1 z2 z3 z4 b : Int} (hb : b = 0 ∨ b = 25) (hd : 1 ≤ d) (hz : js_J E (d - 1) 59 0 [(2, 8 + b), (0, z1), (0, z2), (0, z3), (0, z4)] [] σ = js_r0 E σ2) : js_J E d 101 8 [(2, 22 + b), (0, x1), (0, x2), (0, x3), (0, x4)] [(0, z4), (0, z3), (0, z2), (0, z1), (2, 8 + b)] σ = js_J E d 101 11 [(2, 22 + b), (0, x1), (0, x2), (0, x3), (0, x4)] [] σ2 :=
  j_call0 (m := 0) (js_caV q_101_8 (js_Mo qy_101 qm_10_171)) (js_agV (av := [(0, z1), (0, z2), (0, z3), (0, z4)]) (st := []) rfl rfl (js_o8b hb) rfl) rfl rfl (by rw [ql_59]; exact Nat.le_of_ble_eq_true rfl) (Nat.le_of_ble_eq_true rfl) hd hz
theorem kt_101_8 {E : js_E} {d : Nat} {σ σ2 : js_S} {x1 x2 x3 x4 z1 z2 z3 z4 b : Int} (hb : b = 0 ∨ b = 25) {w : Int} (hd : 1 ≤ d) (hz : js_J E (d - 1) 59 0 [(2, 8 + b), (0, z1), (0, z2), (0, z3), (0, z4)] [] σ = js_t E w σ2) : js_J E d 101 8 [(2, 22 + b), (0, x1), (0, x2), (0, x3), (0, x4)] [(0, z4), (0, z3), (0, z2), (0, z1), (2, 8 + b)] σ = js_t E w σ2 :=
  j_callT (m := 0) (js_caV q_101_8 (js_Mo qy_101 qm_10_171)) (js_agV (av := [(0, z1), (0, z2), (0, z3), (0, z4)]) (st := []) rfl rfl (js_o8b hb) rfl) rfl rfl (by rw [ql_59]; exact Nat.le_of_ble_eq_true rfl) (Nat.le_of_ble_eq_true rfl) hd rfl hz
theorem b_101_11 {E : js_E} {d : Nat} {σ : js_S} {x1 x2 x3 x4 b : Int} (hb : b = 0 ∨ b = 25) : js_J E d 101 11 [(2, 22 + b), (0, x1), (0, x2), (0, x3), (0, x4)] [] σ = js_J E d 101 17 [(2, 22 + b), (0, x1), (0, x2), (0, x3), (0, x4)] [(0, 0), (0, 3), (2, 8 + b)] σ :=
  (j_aload_n q_101_11 rfl).trans <| (j_get (ji := 3) (v := (2, 8 + b)) q_101_12 (js_Fo qy_101 qf_10_25) (js_o22b hb) rfl rfl rfl rfl).trans <| (j_iconst q_101_15).trans <| (j_iconst q_101_16).trans <| rfl
theorem k_101_17 {E : js_E} {d : Nat} {σ σ2 : js_S} {x1 x2 x3 x4 z1 z2 b : Int} (hb : b = 0 ∨ b = 25) {v : Int} (hd : 1 ≤ d) (hz : js_J E (d - 1) 95 0 [(2, 8 + b), (0, z1), (0, z2)] [] σ = js_r E (0, v) σ2) : js_J E d 101 17 [(2, 22 + b), (0, x1), (0, x2), (0, x3), (0, x4)] [(0, z2), (0, z1), (2, 8 + b)] σ = js_J E d 101 20 [(2, 22 + b), (0, x1), (0, x2), (0, x3), (0, x4)] [(0, v)] σ2 :=
  j_call (m := 0) (js_caV q_101_17 (js_Mo qy_101 qm_10_95)) (js_agV (av := [(0, z1), (0, z2)]) (st := []) rfl rfl (js_o8b hb) rfl) rfl rfl (by rw [ql_95]; exact Nat.le_of_ble_eq_true rfl) (Nat.le_of_ble_eq_true rfl) hd hz
theorem kt_101_17 {E : js_E} {d : Nat} {σ σ2 : js_S} {x1 x2 x3 x4 z1 z2 b : Int} (hb : b = 0 ∨ b = 25) {w : Int} (hd : 1 ≤ d) (hz : js_J E (d - 1) 95 0 [(2, 8 + b), (0, z1), (0, z2)] [] σ = js_t E w σ2) : js_J E d 101 17 [(2, 22 + b), (0, x1), (0, x2), (0, x3), (0, x4)] [(0, z2), (0, z1), (2, 8 + b)] σ = js_t E w σ2 :=
  j_callT (m := 0) (js_caV q_101_17 (js_Mo qy_101 qm_10_95)) (js_agV (av := [(0, z1), (0, z2)]) (st := []) rfl rfl (js_o8b hb) rfl) rfl rfl (by rw [ql_95]; exact Nat.le_of_ble_eq_true rfl) (Nat.le_of_ble_eq_true rfl) hd rfl hz
theorem b_101_20 {E : js_E} {d : Nat} {σ : js_S} {x1 x2 x3 x4 z0 b : Int} (hb : b = 0 ∨ b = 25) : js_J E d 101 20 [(2, 22 + b), (0, x1), (0, x2), (0, x3), (0, x4)] [(0, z0)] σ = js_J E d 101 26 [(2, 22 + b), (0, x1), (0, x2), (0, x3), (0, x4)] [(0, x2), (2, 8 + b)] σ :=
  (j_pop0 q_101_20).trans <| (j_aload_n q_101_21 rfl).trans <| (j_get (ji := 3) (v := (2, 8 + b)) q_101_22 (js_Fo qy_101 qf_10_25) (js_o22b hb) rfl rfl rfl rfl).trans <| (j_iload_n q_101_25 rfl).trans <| rfl
theorem k_101_26 {E : js_E} {d : Nat} {σ σ2 : js_S} {x1 x2 x3 x4 z1 b : Int} (hb : b = 0 ∨ b = 25) (hd : 1 ≤ d) (hz : js_J E (d - 1) 102 0 [(2, 8 + b), (0, z1), (9, 0)] [] σ = js_r0 E σ2) : js_J E d 101 26 [(2, 22 + b), (0, x1), (0, x2), (0, x3), (0, x4)] [(0, z1), (2, 8 + b)] σ = js_J E d 101 29 [(2, 22 + b), (0, x1), (0, x2), (0, x3), (0, x4)] [] σ2 :=
  j_call0 (m := 1) (js_caV q_101_26 (js_Mo qy_101 qm_10_203)) (js_agV (av := [(0, z1)]) (st := []) rfl rfl (js_o8b hb) rfl) rfl rfl (by rw [ql_102]; exact Nat.le_of_ble_eq_true rfl) (Nat.le_of_ble_eq_true rfl) hd hz
theorem kt_101_26 {E : js_E} {d : Nat} {σ σ2 : js_S} {x1 x2 x3 x4 z1 b : Int} (hb : b = 0 ∨ b = 25) {w : Int} (hd : 1 ≤ d) (hz : js_J E (d - 1) 102 0 [(2, 8 + b), (0, z1), (9, 0)] [] σ = js_t E w σ2) : js_J E d 101 26 [(2, 22 + b), (0, x1), (0, x2), (0, x3), (0, x4)] [(0, z1), (2, 8 + b)] σ = js_t E w σ2 :=
  j_callT (m := 1) (js_caV q_101_26 (js_Mo qy_101 qm_10_203)) (js_agV (av := [(0, z1)]) (st := []) rfl rfl (js_o8b hb) rfl) rfl rfl (by rw [ql_102]; exact Nat.le_of_ble_eq_true rfl) (Nat.le_of_ble_eq_true rfl) hd rfl hz
theorem b_101_29 {E : js_E} {d : Nat} {σ : js_S} {x1 x2 x3 x4 b : Int} (hb : b = 0 ∨ b = 25) : js_J E d 101 29 [(2, 22 + b), (0, x1), (0, x2), (0, x3), (0, x4)] [] σ = js_J E d 101 37 [(2, 22 + b), (0, x1), (0, x2), (0, x3), (0, x4)] [(0, 1), (0, 0), (0, 0), (0, x3), (2, 8 + b)] σ :=
  (j_aload_n q_101_29 rfl).trans <| (j_get (ji := 3) (v := (2, 8 + b)) q_101_30 (js_Fo qy_101 qf_10_25) (js_o22b hb) rfl rfl rfl rfl).trans <| (j_iload_n q_101_33 rfl).trans <| (j_iconst q_101_34).trans <| (j_iconst q_101_35).trans <| (j_iconst q_101_36).trans <| rfl
theorem k_101_37 {E : js_E} {d : Nat} {σ σ2 : js_S} {x1 x2 x3 x4 z1 z2 z3 z4 b : Int} (hb : b = 0 ∨ b = 25) (hd : 1 ≤ d) (hz : js_J E (d - 1) 59 0 [(2, 8 + b), (0, z1), (0, z2), (0, z3), (0, z4)] [] σ = js_r0 E σ2) : js_J E d 101 37 [(2, 22 + b), (0, x1), (0, x2), (0, x3), (0, x4)] [(0, z4), (0, z3), (0, z2), (0, z1), (2, 8 + b)] σ = js_J E d 101 40 [(2, 22 + b), (0, x1), (0, x2), (0, x3), (0, x4)] [] σ2 :=
  j_call0 (m := 0) (js_caV q_101_37 (js_Mo qy_101 qm_10_171)) (js_agV (av := [(0, z1), (0, z2), (0, z3), (0, z4)]) (st := []) rfl rfl (js_o8b hb) rfl) rfl rfl (by rw [ql_59]; exact Nat.le_of_ble_eq_true rfl) (Nat.le_of_ble_eq_true rfl) hd hz
theorem kt_101_37 {E : js_E} {d : Nat} {σ σ2 : js_S} {x1 x2 x3 x4 z1 z2 z3 z4 b : Int} (hb : b = 0 ∨ b = 25) {w : Int} (hd : 1 ≤ d) (hz : js_J E (d - 1) 59 0 [(2, 8 + b), (0, z1), (0, z2), (0, z3), (0, z4)] [] σ = js_t E w σ2) : js_J E d 101 37 [(2, 22 + b), (0, x1), (0, x2), (0, x3), (0, x4)] [(0, z4), (0, z3), (0, z2), (0, z1), (2, 8 + b)] σ = js_t E w σ2 :=
  j_callT (m := 0) (js_caV q_101_37 (js_Mo qy_101 qm_10_171)) (js_agV (av := [(0, z1), (0, z2), (0, z3), (0, z4)]) (st := []) rfl rfl (js_o8b hb) rfl) rfl rfl (by rw [ql_59]; exact Nat.le_of_ble_eq_true rfl) (Nat.le_of_ble_eq_true rfl) hd rfl hz
theorem b_101_40 {E : js_E} {d : Nat} {σ : js_S} {x1 x2 x3 x4 b : Int} (hb : b = 0 ∨ b = 25) : js_J E d 101 40 [(2, 22 + b), (0, x1), (0, x2), (0, x3), (0, x4)] [] σ = js_J E d 101 48 [(2, 22 + b), (0, x1), (0, x2), (0, x3), (0, x4)] [(0, x4), (0, 25), (2, 8 + b)] σ :=
  (j_aload_n q_101_40 rfl).trans <| (j_get (ji := 3) (v := (2, 8 + b)) q_101_41 (js_Fo qy_101 qf_10_25) (js_o22b hb) rfl rfl rfl rfl).trans <| (j_bi q_101_44 rfl).trans <| (j_iload q_101_46 rfl).trans <| rfl
theorem k_101_48 {E : js_E} {d : Nat} {σ σ2 : js_S} {x1 x2 x3 x4 z1 z2 b : Int} (hb : b = 0 ∨ b = 25) {v : Int} (hd : 1 ≤ d) (hz : js_J E (d - 1) 95 0 [(2, 8 + b), (0, z1), (0, z2)] [] σ = js_r E (0, v) σ2) : js_J E d 101 48 [(2, 22 + b), (0, x1), (0, x2), (0, x3), (0, x4)] [(0, z2), (0, z1), (2, 8 + b)] σ = js_J E d 101 51 [(2, 22 + b), (0, x1), (0, x2), (0, x3), (0, x4)] [(0, v)] σ2 :=
  j_call (m := 0) (js_caV q_101_48 (js_Mo qy_101 qm_10_95)) (js_agV (av := [(0, z1), (0, z2)]) (st := []) rfl rfl (js_o8b hb) rfl) rfl rfl (by rw [ql_95]; exact Nat.le_of_ble_eq_true rfl) (Nat.le_of_ble_eq_true rfl) hd hz
theorem kt_101_48 {E : js_E} {d : Nat} {σ σ2 : js_S} {x1 x2 x3 x4 z1 z2 b : Int} (hb : b = 0 ∨ b = 25) {w : Int} (hd : 1 ≤ d) (hz : js_J E (d - 1) 95 0 [(2, 8 + b), (0, z1), (0, z2)] [] σ = js_t E w σ2) : js_J E d 101 48 [(2, 22 + b), (0, x1), (0, x2), (0, x3), (0, x4)] [(0, z2), (0, z1), (2, 8 + b)] σ = js_t E w σ2 :=
  j_callT (m := 0) (js_caV q_101_48 (js_Mo qy_101 qm_10_95)) (js_agV (av := [(0, z1), (0, z2)]) (st := []) rfl rfl (js_o8b hb) rfl) rfl rfl (by rw [ql_95]; exact Nat.le_of_ble_eq_true rfl) (Nat.le_of_ble_eq_true rfl) hd rfl hz
theorem b_101_51 {E : js_E} {d : Nat} {σ : js_S} {x1 x2 x3 x4 z0 b : Int} : js_J E d 101 51 [(2, 22 + b), (0, x1), (0, x2), (0, x3), (0, x4)] [(0, z0)] σ = js_r E (0, z0) σ :=
  j_ireturn q_101_51 qr_101
-- 102: VitalTwin$Code.loadTemp (I)V
theorem b_102_0 {E : js_E} {d : Nat} {σ : js_S} {x1 b : Int} : js_J E d 102 0 [(2, 8 + b), (0, x1), (9, 0)] [] σ = (if js_w x1 < 0 then js_J E d 102 15 [(2, 8 + b), (0, x1), (9, 0)] [] σ else (if js_w x1 < 1024 then js_J E d 102 16 [(2, 8 + b), (0, x1), (9, 0)] [(0, 1)] σ else js_J E d 102 15 [(2, 8 + b), (0, x1), (9, 0)] [] σ)) :=
  (j_iload_n q_102_0 rfl).trans <| (j_iflt (t := 15) q_102_1 rfl).trans (js_ite (rfl) ((j_iload_n q_102_4 rfl).trans <| (j_si q_102_5 rfl).trans <| (j_cmpgeB (t := 15) q_102_8 rfl ww_1024).trans (js_ite ((j_iconst q_102_11).trans <| (j_goto (t := 16) q_102_12 rfl).trans <| rfl) (rfl))))
theorem b_102_15 {E : js_E} {d : Nat} {σ : js_S} {x1 b : Int} : js_J E d 102 15 [(2, 8 + b), (0, x1), (9, 0)] [] σ = js_J E d 102 16 [(2, 8 + b), (0, x1), (9, 0)] [(0, 0)] σ :=
  (j_iconst q_102_15).trans <| rfl
theorem b_102_16 {E : js_E} {d : Nat} {σ : js_S} {x1 z0 b : Int} (hb : b = 0 ∨ b = 25) : js_J E d 102 16 [(2, 8 + b), (0, x1), (9, 0)] [(0, z0)] σ = (if js_w z0 = 0 then js_J E d 102 35 [(2, 8 + b), (0, x1), (0, z0)] [(0, 0), (0, 0), (0, x1), (0, 1), (2, 8 + b)] σ else (if 0 ≤ js_w x1 ∧ js_w x1 < 1024 then js_J E d 102 35 [(2, 8 + b), (0, x1), (0, z0)] [(0, σ (17 + b) (js_w x1)), (0, 0), (0, x1), (0, 1), (2, 8 + b)] σ else none)) :=
  (j_istore_n (l2 := [(2, 8 + b), (0, x1), (0, z0)]) q_102_16 rfl (Nat.le_of_ble_eq_true rfl)).trans <| (j_aload_n q_102_17 rfl).trans <| (j_iconst q_102_18).trans <| (j_iload_n q_102_19 rfl).trans <| (j_iconst q_102_20).trans <| (j_iload_n q_102_21 rfl).trans <| (j_ifeq (t := 34) q_102_22 rfl).trans (js_ite ((j_iconst q_102_34).trans <| rfl) ((j_aload_n q_102_25 rfl).trans <| (j_get (ji := 15) (v := (2, 17 + b)) q_102_26 (js_Fo qy_102 qf_1_36) (js_o8b hb) rfl rfl rfl rfl).trans <| (j_iload_n q_102_29 rfl).trans <| (j_iaload q_102_30 (js_o17b hb)).trans <| js_itp fun g0 => (j_goto (t := 35) q_102_31 rfl).trans <| rfl))
theorem b_102_35 {E : js_E} {d : Nat} {σ : js_S} {x1 x2 z1 z2 z3 z4 b : Int} (hb : b = 0 ∨ b = 25) : js_J E d 102 35 [(2, 8 + b), (0, x1), (0, x2)] [(0, z4), (0, z3), (0, z2), (0, z1), (2, 8 + b)] σ = (if js_w x2 = 0 then js_J E d 102 49 [(2, 8 + b), (0, x1), (0, x2)] [(0, 0), (0, z4), (0, z3), (0, z2), (0, z1), (2, 8 + b)] σ else (if 0 ≤ js_w x1 ∧ js_w x1 < 1024 then js_J E d 102 49 [(2, 8 + b), (0, x1), (0, x2)] [(0, σ (18 + b) (js_w x1)), (0, z4), (0, z3), (0, z2), (0, z1), (2, 8 + b)] σ else none)) :=
  (j_iload_n q_102_35 rfl).trans <| (j_ifeq (t := 48) q_102_36 rfl).trans (js_ite ((j_iconst q_102_48).trans <| rfl) ((j_aload_n q_102_39 rfl).trans <| (j_get (ji := 16) (v := (2, 18 + b)) q_102_40 (js_Fo qy_102 qf_1_39) (js_o8b hb) rfl rfl rfl rfl).trans <| (j_iload_n q_102_43 rfl).trans <| (j_iaload q_102_44 (js_o18b hb)).trans <| js_itp fun g0 => (j_goto (t := 49) q_102_45 rfl).trans <| rfl))
theorem b_102_49 {E : js_E} {d : Nat} {σ : js_S} {x1 x2 z1 z2 z3 z4 z5 b : Int} : js_J E d 102 49 [(2, 8 + b), (0, x1), (0, x2)] [(0, z5), (0, z4), (0, z3), (0, z2), (0, z1), (2, 8 + b)] σ = js_J E d 102 50 [(2, 8 + b), (0, x1), (0, x2)] [(2, 8 + b), (0, z5), (0, z4), (0, z3), (0, z2), (0, z1), (2, 8 + b)] σ :=
  (j_aload_n q_102_49 rfl).trans <| rfl
theorem k_102_50 {E : js_E} {d : Nat} {σ σ2 : js_S} {x1 x2 z1 z2 z3 z4 z5 b : Int} (hb : b = 0 ∨ b = 25) {v : Int} (hd : 1 ≤ d) (hz : js_J E (d - 1) 70 0 [(2, 8 + b)] [] σ = js_r E (0, v) σ2) : js_J E d 102 50 [(2, 8 + b), (0, x1), (0, x2)] [(2, 8 + b), (0, z5), (0, z4), (0, z3), (0, z2), (0, z1), (2, 8 + b)] σ = js_J E d 102 53 [(2, 8 + b), (0, x1), (0, x2)] [(0, v), (0, z5), (0, z4), (0, z3), (0, z2), (0, z1), (2, 8 + b)] σ2 :=
  j_call (m := 0) (js_caV q_102_50 (js_Mo qy_102 qm_1_100)) (js_agV (av := []) (st := [(0, z5), (0, z4), (0, z3), (0, z2), (0, z1), (2, 8 + b)]) rfl rfl (js_o8b hb) rfl) rfl rfl (by rw [ql_70]; exact Nat.le_of_ble_eq_true rfl) (Nat.le_of_ble_eq_true rfl) hd hz
theorem kt_102_50 {E : js_E} {d : Nat} {σ σ2 : js_S} {x1 x2 z1 z2 z3 z4 z5 b : Int} (hb : b = 0 ∨ b = 25) {w : Int} (hd : 1 ≤ d) (hz : js_J E (d - 1) 70 0 [(2, 8 + b)] [] σ = js_t E w σ2) : js_J E d 102 50 [(2, 8 + b), (0, x1), (0, x2)] [(2, 8 + b), (0, z5), (0, z4), (0, z3), (0, z2), (0, z1), (2, 8 + b)] σ = js_t E w σ2 :=
  j_callT (m := 0) (js_caV q_102_50 (js_Mo qy_102 qm_1_100)) (js_agV (av := []) (st := [(0, z5), (0, z4), (0, z3), (0, z2), (0, z1), (2, 8 + b)]) rfl rfl (js_o8b hb) rfl) rfl rfl (by rw [ql_70]; exact Nat.le_of_ble_eq_true rfl) (Nat.le_of_ble_eq_true rfl) hd rfl hz
theorem k_102_53 {E : js_E} {d : Nat} {σ σ2 : js_S} {x1 x2 z1 z2 z3 z4 z5 z6 b : Int} (hb : b = 0 ∨ b = 25) (hd : 1 ≤ d) (hz : js_J E (d - 1) 60 0 [(2, 8 + b), (0, z1), (0, z2), (0, z3), (0, z4), (0, z5), (0, z6), (9, 0)] [] σ = js_r0 E σ2) : js_J E d 102 53 [(2, 8 + b), (0, x1), (0, x2)] [(0, z6), (0, z5), (0, z4), (0, z3), (0, z2), (0, z1), (2, 8 + b)] σ = js_J E d 102 56 [(2, 8 + b), (0, x1), (0, x2)] [] σ2 :=
  j_call0 (m := 1) (js_caV q_102_53 (js_Mo qy_102 qm_1_74)) (js_agV (av := [(0, z1), (0, z2), (0, z3), (0, z4), (0, z5), (0, z6)]) (st := []) rfl rfl (js_o8b hb) rfl) rfl rfl (by rw [ql_60]; exact Nat.le_of_ble_eq_true rfl) (Nat.le_of_ble_eq_true rfl) hd hz
theorem kt_102_53 {E : js_E} {d : Nat} {σ σ2 : js_S} {x1 x2 z1 z2 z3 z4 z5 z6 b : Int} (hb : b = 0 ∨ b = 25) {w : Int} (hd : 1 ≤ d) (hz : js_J E (d - 1) 60 0 [(2, 8 + b), (0, z1), (0, z2), (0, z3), (0, z4), (0, z5), (0, z6), (9, 0)] [] σ = js_t E w σ2) : js_J E d 102 53 [(2, 8 + b), (0, x1), (0, x2)] [(0, z6), (0, z5), (0, z4), (0, z3), (0, z2), (0, z1), (2, 8 + b)] σ = js_t E w σ2 :=
  j_callT (m := 1) (js_caV q_102_53 (js_Mo qy_102 qm_1_74)) (js_agV (av := [(0, z1), (0, z2), (0, z3), (0, z4), (0, z5), (0, z6)]) (st := []) rfl rfl (js_o8b hb) rfl) rfl rfl (by rw [ql_60]; exact Nat.le_of_ble_eq_true rfl) (Nat.le_of_ble_eq_true rfl) hd rfl hz
theorem b_102_56 {E : js_E} {d : Nat} {σ : js_S} {x1 x2 b : Int} : js_J E d 102 56 [(2, 8 + b), (0, x1), (0, x2)] [] σ = js_r0 E σ :=
  j_return q_102_56 qr_102
-- 103: VitalTwin$Code.landAll (I)V
theorem b_103_0 {E : js_E} {d : Nat} {σ : js_S} {x1 b : Int} : js_J E d 103 0 [(2, 8 + b), (0, x1), (9, 0), (9, 0), (9, 0)] [] σ = js_J E d 103 4 [(2, 8 + b), (0, x1), (0, x1), (0, 0), (9, 0)] [] σ :=
  (j_iload_n q_103_0 rfl).trans <| (j_istore_n (l2 := [(2, 8 + b), (0, x1), (0, x1), (9, 0), (9, 0)]) q_103_1 rfl (Nat.le_of_ble_eq_true rfl)).trans <| (j_iconst q_103_2).trans <| (j_istore_n (l2 := [(2, 8 + b), (0, x1), (0, x1), (0, 0), (9, 0)]) q_103_3 rfl (Nat.le_of_ble_eq_true rfl)).trans <| rfl
theorem b_103_4 {E : js_E} {d : Nat} {σ : js_S} {x1 x2 x3 b : Int} {ux4 : js_v} : js_J E d 103 4 [(2, 8 + b), (0, x1), (0, x2), (0, x3), ux4] [] σ = (if js_w x3 < 1000000 then js_J E d 103 12 [(2, 8 + b), (0, x1), (0, x2), (0, x3), ux4] [(0, x2), (2, 8 + b)] σ else js_r0 E σ) :=
  (j_iload_n q_103_4 rfl).trans <| (j_ldc (v := (0, 1000000)) q_103_5 (js_Co qy_103 qc_1_121)).trans <| (j_cmpgeB (t := 45) q_103_7 rfl ww_1000000).trans (js_ite ((j_aload_n q_103_10 rfl).trans <| (j_iload_n q_103_11 rfl).trans <| rfl) (j_return q_103_45 qr_103))
theorem k_103_12 {E : js_E} {d : Nat} {σ σ2 : js_S} {x1 x2 x3 z1 b : Int} {ux4 : js_v} (hb : b = 0 ∨ b = 25) {v : Int} (hd : 1 ≤ d) (hz : js_J E (d - 1) 92 0 [(2, 8 + b), (0, z1)] [] σ = js_r E (0, v) σ2) : js_J E d 103 12 [(2, 8 + b), (0, x1), (0, x2), (0, x3), ux4] [(0, z1), (2, 8 + b)] σ = js_J E d 103 15 [(2, 8 + b), (0, x1), (0, x2), (0, x3), ux4] [(0, v)] σ2 :=
  j_call (m := 0) (js_caV q_103_12 (js_Mo qy_103 qm_1_117)) (js_agV (av := [(0, z1)]) (st := []) rfl rfl (js_o8b hb) rfl) rfl rfl (by rw [ql_92]; exact Nat.le_of_ble_eq_true rfl) (Nat.le_of_ble_eq_true rfl) hd hz
theorem kt_103_12 {E : js_E} {d : Nat} {σ σ2 : js_S} {x1 x2 x3 z1 b : Int} {ux4 : js_v} (hb : b = 0 ∨ b = 25) {w : Int} (hd : 1 ≤ d) (hz : js_J E (d - 1) 92 0 [(2, 8 + b), (0, z1)] [] σ = js_t E w σ2) : js_J E d 103 12 [(2, 8 + b), (0, x1), (0, x2), (0, x3), ux4] [(0, z1), (2, 8 + b)] σ = js_t E w σ2 :=
  j_callT (m := 0) (js_caV q_103_12 (js_Mo qy_103 qm_1_117)) (js_agV (av := [(0, z1)]) (st := []) rfl rfl (js_o8b hb) rfl) rfl rfl (by rw [ql_92]; exact Nat.le_of_ble_eq_true rfl) (Nat.le_of_ble_eq_true rfl) hd rfl hz
theorem b_103_15 {E : js_E} {d : Nat} {σ : js_S} {x1 x2 x3 z0 b : Int} {ux4 : js_v} (hb : b = 0 ∨ b = 25) : js_J E d 103 15 [(2, 8 + b), (0, x1), (0, x2), (0, x3), ux4] [(0, z0)] σ = (if js_w z0 = 0 then js_r0 E σ else (if 0 ≤ js_w x2 ∧ js_w x2 < 8192 then js_J E d 103 4 [(2, 8 + b), (0, x1), (0, σ (10 + b) (js_w x2)), (0, x3 + 1), (0, σ (10 + b) (js_w x2))] [] (js_up σ (10 + b) (js_w x2) (σ (8 + b) 6)) else none)) :=
  (j_ifeq (t := 45) q_103_15 rfl).trans (js_ite (j_return q_103_45 qr_103) ((j_aload_n q_103_18 rfl).trans <| (j_get (ji := 1) (v := (2, 10 + b)) q_103_19 (js_Fo qy_103 qf_1_15) (js_o8b hb) rfl rfl rfl rfl).trans <| (j_iload_n q_103_22 rfl).trans <| (j_iaload q_103_23 (js_o10b hb)).trans <| js_itp fun g0 => (j_istore (l2 := [(2, 8 + b), (0, x1), (0, x2), (0, x3), (0, σ (10 + b) (js_w x2))]) q_103_24 rfl (Nat.le_of_ble_eq_true rfl)).trans <| (j_aload_n q_103_26 rfl).trans <| (j_get (ji := 1) (v := (2, 10 + b)) q_103_27 (js_Fo qy_103 qf_1_15) (js_o8b hb) rfl rfl rfl rfl).trans <| (j_iload_n q_103_30 rfl).trans <| (j_aload_n q_103_31 rfl).trans <| (j_get (ji := 6) (v := (0, σ (8 + b) 6)) q_103_32 (js_Fo qy_103 qf_1_42) (js_o8b hb) rfl rfl rfl rfl).trans <| (j_iastore q_103_35 (js_o10b hb)).trans <| (if_pos g0).trans <| (j_iload q_103_36 rfl).trans <| (j_istore_n (l2 := [(2, 8 + b), (0, x1), (0, σ (10 + b) (js_w x2)), (0, x3), (0, σ (10 + b) (js_w x2))]) q_103_38 rfl (Nat.le_of_ble_eq_true rfl)).trans <| (j_iinc (l2 := [(2, 8 + b), (0, x1), (0, σ (10 + b) (js_w x2)), (0, x3 + 1), (0, σ (10 + b) (js_w x2))]) q_103_39 rfl rfl).trans <| (j_goto (t := 4) q_103_42 rfl).trans <| rfl))
