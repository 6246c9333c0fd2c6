/-! part 70.r08: block equations of the reference's methods 254 to 261 (printed by wip/whole/tools/gen71.py) -/
theorem qy_258 : vt_O 258 = 12 := by decide +kernel
theorem qr_258 : vt_rc.getD 258 0 = 3 := by decide +kernel
theorem ql_258 : vt_ml.getD 258 0 = 6 := by decide +kernel
theorem qy_259 : vt_O 259 = 12 := by decide +kernel
theorem qr_259 : vt_rc.getD 259 0 = 0 := by decide +kernel
theorem ql_259 : vt_ml.getD 259 0 = 4 := by decide +kernel
theorem q_254_0 : js_I 254 0 = some (.aload_n 0, 1) := by decide +kernel
theorem q_254_1 : js_I 254 1 = some (.getfield 181, 3) := by decide +kernel
theorem q_254_4 : js_I 254 4 = some (.iload_n 1, 1) := by decide +kernel
theorem q_254_5 : js_I 254 5 = some (.iaload, 1) := by decide +kernel
theorem q_254_6 : js_I 254 6 = some (.istore_n 3, 1) := by decide +kernel
theorem q_254_7 : js_I 254 7 = some (.lconst 0, 1) := by decide +kernel
theorem q_254_8 : js_I 254 8 = some (.lstore 4, 2) := by decide +kernel
theorem q_254_10 : js_I 254 10 = some (.iconst 0, 1) := by decide +kernel
theorem q_254_11 : js_I 254 11 = some (.istore 6, 2) := by decide +kernel
theorem q_254_13 : js_I 254 13 = some (.aload_n 0, 1) := by decide +kernel
theorem q_254_14 : js_I 254 14 = some (.getfield 184, 3) := by decide +kernel
theorem q_254_17 : js_I 254 17 = some (.iload_n 1, 1) := by decide +kernel
theorem q_254_18 : js_I 254 18 = some (.iaload, 1) := by decide +kernel
theorem q_254_19 : js_I 254 19 = some (.istore 7, 2) := by decide +kernel
theorem q_254_21 : js_I 254 21 = some (.iload 7, 2) := by decide +kernel
theorem q_254_23 : js_I 254 23 = some (.ifCond .lt 52, 3) := by decide +kernel
theorem q_254_75 : js_I 254 75 = some (.iconst 0, 1) := by decide +kernel
theorem q_254_76 : js_I 254 76 = some (.istore 6, 2) := by decide +kernel
theorem q_254_78 : js_I 254 78 = some (.aload_n 0, 1) := by decide +kernel
theorem q_254_79 : js_I 254 79 = some (.getfield 184, 3) := by decide +kernel
theorem q_254_82 : js_I 254 82 = some (.iload_n 1, 1) := by decide +kernel
theorem q_254_83 : js_I 254 83 = some (.iaload, 1) := by decide +kernel
theorem q_254_84 : js_I 254 84 = some (.istore 7, 2) := by decide +kernel
theorem q_254_26 : js_I 254 26 = some (.lload 4, 2) := by decide +kernel
theorem q_254_28 : js_I 254 28 = some (.ldc2_w 528, 3) := by decide +kernel
theorem q_254_31 : js_I 254 31 = some (.aload_n 0, 1) := by decide +kernel
theorem q_254_32 : js_I 254 32 = some (.iload 7, 2) := by decide +kernel
theorem q_254_34 : js_I 254 34 = some (.iload_n 2, 1) := by decide +kernel
theorem q_254_35 : js_I 254 35 = some (.iload 6, 2) := by decide +kernel
theorem q_254_37 : js_I 254 37 = some (.iadd, 1) := by decide +kernel
theorem q_254_38 : js_I 254 38 = some (.invokevirtual 511, 3) := by decide +kernel
theorem q_254_41 : js_I 254 41 = some (.ladd, 1) := by decide +kernel
theorem q_254_42 : js_I 254 42 = some (.ladd, 1) := by decide +kernel
theorem q_254_43 : js_I 254 43 = some (.lstore 4, 2) := by decide +kernel
theorem q_254_45 : js_I 254 45 = some (.aload_n 0, 1) := by decide +kernel
theorem q_254_46 : js_I 254 46 = some (.iconst 2, 1) := by decide +kernel
theorem q_254_47 : js_I 254 47 = some (.aload_n 0, 1) := by decide +kernel
theorem q_254_48 : js_I 254 48 = some (.iload_n 2, 1) := by decide +kernel
theorem q_254_49 : js_I 254 49 = some (.iload 6, 2) := by decide +kernel
theorem q_254_51 : js_I 254 51 = some (.iadd, 1) := by decide +kernel
theorem q_254_52 : js_I 254 52 = some (.invokevirtual 493, 3) := by decide +kernel
theorem q_254_55 : js_I 254 55 = some (.iconst 0, 1) := by decide +kernel
theorem q_254_56 : js_I 254 56 = some (.invokevirtual 505, 3) := by decide +kernel
theorem q_254_59 : js_I 254 59 = some (.pop, 1) := by decide +kernel
theorem q_254_60 : js_I 254 60 = some (.iinc 6 1, 3) := by decide +kernel
theorem q_254_63 : js_I 254 63 = some (.aload_n 0, 1) := by decide +kernel
theorem q_254_64 : js_I 254 64 = some (.getfield 190, 3) := by decide +kernel
theorem q_254_67 : js_I 254 67 = some (.iload 7, 2) := by decide +kernel
theorem q_254_69 : js_I 254 69 = some (.iaload, 1) := by decide +kernel
theorem q_254_70 : js_I 254 70 = some (.istore 7, 2) := by decide +kernel
theorem q_254_72 : js_I 254 72 = some (.goto (-51), 3) := by decide +kernel
theorem q_254_86 : js_I 254 86 = some (.iload 7, 2) := by decide +kernel
theorem q_254_88 : js_I 254 88 = some (.ifCond .lt 46, 3) := by decide +kernel
theorem q_254_134 : js_I 254 134 = some (.aload_n 0, 1) := by decide +kernel
theorem q_254_135 : js_I 254 135 = some (.bipush 27, 2) := by decide +kernel
theorem q_254_137 : js_I 254 137 = some (.aload_n 0, 1) := by decide +kernel
theorem q_254_138 : js_I 254 138 = some (.getfield 111, 3) := by decide +kernel
theorem q_254_141 : js_I 254 141 = some (.iload_n 3, 1) := by decide +kernel
theorem q_254_142 : js_I 254 142 = some (.iaload, 1) := by decide +kernel
theorem q_254_143 : js_I 254 143 = some (.iconst 0, 1) := by decide +kernel
theorem q_254_144 : js_I 254 144 = some (.invokevirtual 505, 3) := by decide +kernel
theorem q_254_91 : js_I 254 91 = some (.aload_n 0, 1) := by decide +kernel
theorem q_254_92 : js_I 254 92 = some (.iload_n 2, 1) := by decide +kernel
theorem q_254_93 : js_I 254 93 = some (.iload 6, 2) := by decide +kernel
theorem q_254_95 : js_I 254 95 = some (.iadd, 1) := by decide +kernel
theorem q_254_96 : js_I 254 96 = some (.iload 7, 2) := by decide +kernel
theorem q_254_98 : js_I 254 98 = some (.invokevirtual 514, 3) := by decide +kernel
theorem q_254_101 : js_I 254 101 = some (.aload_n 0, 1) := by decide +kernel
theorem q_254_102 : js_I 254 102 = some (.iconst 2, 1) := by decide +kernel
theorem q_254_103 : js_I 254 103 = some (.aload_n 0, 1) := by decide +kernel
theorem q_254_104 : js_I 254 104 = some (.getfield 111, 3) := by decide +kernel
theorem q_254_107 : js_I 254 107 = some (.iload_n 3, 1) := by decide +kernel
theorem q_254_108 : js_I 254 108 = some (.iconst 1, 1) := by decide +kernel
theorem q_254_109 : js_I 254 109 = some (.iadd, 1) := by decide +kernel
theorem q_254_110 : js_I 254 110 = some (.iload 6, 2) := by decide +kernel
theorem q_254_112 : js_I 254 112 = some (.iadd, 1) := by decide +kernel
theorem q_254_113 : js_I 254 113 = some (.iaload, 1) := by decide +kernel
theorem q_254_114 : js_I 254 114 = some (.iconst 0, 1) := by decide +kernel
theorem q_254_115 : js_I 254 115 = some (.invokevirtual 505, 3) := by decide +kernel
theorem q_254_118 : js_I 254 118 = some (.pop, 1) := by decide +kernel
theorem q_254_119 : js_I 254 119 = some (.iinc 6 1, 3) := by decide +kernel
theorem q_254_122 : js_I 254 122 = some (.aload_n 0, 1) := by decide +kernel
theorem q_254_123 : js_I 254 123 = some (.getfield 190, 3) := by decide +kernel
theorem q_254_126 : js_I 254 126 = some (.iload 7, 2) := by decide +kernel
theorem q_254_128 : js_I 254 128 = some (.iaload, 1) := by decide +kernel
theorem q_254_129 : js_I 254 129 = some (.istore 7, 2) := by decide +kernel
theorem q_254_131 : js_I 254 131 = some (.goto (-45), 3) := by decide +kernel
theorem q_254_147 : js_I 254 147 = some (.pop, 1) := by decide +kernel
theorem q_254_148 : js_I 254 148 = some (.lload 4, 2) := by decide +kernel
theorem q_254_150 : js_I 254 150 = some (.lconst 1, 1) := by decide +kernel
theorem q_254_151 : js_I 254 151 = some (.ladd, 1) := by decide +kernel
theorem q_254_152 : js_I 254 152 = some (.aload_n 0, 1) := by decide +kernel
theorem q_254_153 : js_I 254 153 = some (.getfield 129, 3) := by decide +kernel
theorem q_254_156 : js_I 254 156 = some (.iload_n 3, 1) := by decide +kernel
theorem q_254_157 : js_I 254 157 = some (.iaload, 1) := by decide +kernel
theorem q_254_158 : js_I 254 158 = some (.i2l, 1) := by decide +kernel
theorem q_254_159 : js_I 254 159 = some (.ladd, 1) := by decide +kernel
theorem q_254_160 : js_I 254 160 = some (.invokestatic 520, 3) := by decide +kernel
theorem q_254_163 : js_I 254 163 = some (.lreturn, 1) := by decide +kernel
theorem q_255_0 : js_I 255 0 = some (.iload_n 1, 1) := by decide +kernel
theorem q_255_1 : js_I 255 1 = some (.aload_n 0, 1) := by decide +kernel
theorem q_255_2 : js_I 255 2 = some (.getfield 487, 3) := by decide +kernel
theorem q_255_5 : js_I 255 5 = some (.if_icmp .lt 10, 3) := by decide +kernel
theorem q_255_8 : js_I 255 8 = some (.aload_n 0, 1) := by decide +kernel
theorem q_255_9 : js_I 255 9 = some (.iload_n 1, 1) := by decide +kernel
theorem q_255_10 : js_I 255 10 = some (.iconst 1, 1) := by decide +kernel
theorem q_255_11 : js_I 255 11 = some (.iadd, 1) := by decide +kernel
theorem q_255_12 : js_I 255 12 = some (.putfield 487, 3) := by decide +kernel
theorem q_255_15 : js_I 255 15 = some (.aload_n 0, 1) := by decide +kernel
theorem q_255_16 : js_I 255 16 = some (.getfield 490, 3) := by decide +kernel
theorem q_255_19 : js_I 255 19 = some (.iload_n 1, 1) := by decide +kernel
theorem q_255_20 : js_I 255 20 = some (.iadd, 1) := by decide +kernel
theorem q_255_21 : js_I 255 21 = some (.ireturn, 1) := by decide +kernel
theorem q_256_0 : js_I 256 0 = some (.aload_n 0, 1) := by decide +kernel
theorem q_256_1 : js_I 256 1 = some (.iconst 1, 1) := by decide +kernel
theorem q_256_2 : js_I 256 2 = some (.aload_n 0, 1) := by decide +kernel
theorem q_256_3 : js_I 256 3 = some (.iload_n 1, 1) := by decide +kernel
theorem q_256_4 : js_I 256 4 = some (.invokevirtual 493, 3) := by decide +kernel
theorem q_256_7 : js_I 256 7 = some (.iconst 0, 1) := by decide +kernel
theorem q_256_8 : js_I 256 8 = some (.aload_n 0, 1) := by decide +kernel
theorem q_256_9 : js_I 256 9 = some (.getfield 175, 3) := by decide +kernel
theorem q_256_12 : js_I 256 12 = some (.iload_n 2, 1) := by decide +kernel
theorem q_256_13 : js_I 256 13 = some (.iaload, 1) := by decide +kernel
theorem q_256_14 : js_I 256 14 = some (.i2l, 1) := by decide +kernel
theorem q_256_15 : js_I 256 15 = some (.aload_n 0, 1) := by decide +kernel
theorem q_256_16 : js_I 256 16 = some (.getfield 178, 3) := by decide +kernel
theorem q_256_19 : js_I 256 19 = some (.iload_n 2, 1) := by decide +kernel
theorem q_256_20 : js_I 256 20 = some (.iaload, 1) := by decide +kernel
theorem q_256_21 : js_I 256 21 = some (.i2l, 1) := by decide +kernel
theorem q_256_22 : js_I 256 22 = some (.invokevirtual 483, 3) := by decide +kernel
theorem q_256_25 : js_I 256 25 = some (.pop, 1) := by decide +kernel
theorem q_256_26 : js_I 256 26 = some (.return_, 1) := by decide +kernel
theorem q_257_0 : js_I 257 0 = some (.aload_n 0, 1) := by decide +kernel
theorem q_257_1 : js_I 257 1 = some (.getfield 181, 3) := by decide +kernel
theorem q_257_4 : js_I 257 4 = some (.iload_n 1, 1) := by decide +kernel
theorem q_257_5 : js_I 257 5 = some (.iaload, 1) := by decide +kernel
theorem q_257_6 : js_I 257 6 = some (.istore_n 3, 1) := by decide +kernel
theorem q_257_7 : js_I 257 7 = some (.aload_n 0, 1) := by decide +kernel
theorem q_257_8 : js_I 257 8 = some (.iload_n 3, 1) := by decide +kernel
theorem q_257_9 : js_I 257 9 = some (.iload_n 2, 1) := by decide +kernel
theorem q_257_10 : js_I 257 10 = some (.invokevirtual 511, 3) := by decide +kernel
theorem q_257_13 : js_I 257 13 = some (.lconst 1, 1) := by decide +kernel
theorem q_257_14 : js_I 257 14 = some (.ladd, 1) := by decide +kernel
theorem q_257_15 : js_I 257 15 = some (.lstore 4, 2) := by decide +kernel
theorem q_257_17 : js_I 257 17 = some (.aload_n 0, 1) := by decide +kernel
theorem q_257_18 : js_I 257 18 = some (.iconst 2, 1) := by decide +kernel
theorem q_257_19 : js_I 257 19 = some (.aload_n 0, 1) := by decide +kernel
theorem q_257_20 : js_I 257 20 = some (.iload_n 2, 1) := by decide +kernel
theorem q_257_21 : js_I 257 21 = some (.invokevirtual 493, 3) := by decide +kernel
theorem q_257_24 : js_I 257 24 = some (.iconst 0, 1) := by decide +kernel
theorem q_257_25 : js_I 257 25 = some (.invokevirtual 505, 3) := by decide +kernel
theorem q_257_28 : js_I 257 28 = some (.pop, 1) := by decide +kernel
theorem q_257_29 : js_I 257 29 = some (.lconst 0, 1) := by decide +kernel
theorem q_257_30 : js_I 257 30 = some (.lstore 6, 2) := by decide +kernel
theorem q_257_32 : js_I 257 32 = some (.iconst (-1), 1) := by decide +kernel
theorem q_257_33 : js_I 257 33 = some (.istore 8, 2) := by decide +kernel
theorem q_257_35 : js_I 257 35 = some (.aload_n 0, 1) := by decide +kernel
theorem q_257_36 : js_I 257 36 = some (.getfield 184, 3) := by decide +kernel
theorem q_257_39 : js_I 257 39 = some (.iload_n 1, 1) := by decide +kernel
theorem q_257_40 : js_I 257 40 = some (.iaload, 1) := by decide +kernel
theorem q_257_41 : js_I 257 41 = some (.istore 9, 2) := by decide +kernel
theorem q_257_43 : js_I 257 43 = some (.iload 9, 2) := by decide +kernel
theorem q_257_45 : js_I 257 45 = some (.ifCond .lt 167, 3) := by decide +kernel
theorem q_257_212 : js_I 257 212 = some (.aload_n 0, 1) := by decide +kernel
theorem q_257_213 : js_I 257 213 = some (.getfield 172, 3) := by decide +kernel
theorem q_257_216 : js_I 257 216 = some (.iload_n 1, 1) := by decide +kernel
theorem q_257_217 : js_I 257 217 = some (.iaload, 1) := by decide +kernel
theorem q_257_218 : js_I 257 218 = some (.iconst 1, 1) := by decide +kernel
theorem q_257_219 : js_I 257 219 = some (.if_icmp .ne 24, 3) := by decide +kernel
theorem q_257_222 : js_I 257 222 = some (.lload 4, 2) := by decide +kernel
theorem q_257_224 : js_I 257 224 = some (.aload_n 0, 1) := by decide +kernel
theorem q_257_225 : js_I 257 225 = some (.aload_n 0, 1) := by decide +kernel
theorem q_257_226 : js_I 257 226 = some (.getfield 187, 3) := by decide +kernel
theorem q_257_229 : js_I 257 229 = some (.iload_n 1, 1) := by decide +kernel
theorem q_257_230 : js_I 257 230 = some (.iaload, 1) := by decide +kernel
theorem q_257_231 : js_I 257 231 = some (.iload_n 2, 1) := by decide +kernel
theorem q_257_232 : js_I 257 232 = some (.iconst 1, 1) := by decide +kernel
theorem q_257_233 : js_I 257 233 = some (.iadd, 1) := by decide +kernel
theorem q_257_234 : js_I 257 234 = some (.invokevirtual 550, 3) := by decide +kernel
theorem q_257_48 : js_I 257 48 = some (.aload_n 0, 1) := by decide +kernel
theorem q_257_49 : js_I 257 49 = some (.getfield 172, 3) := by decide +kernel
theorem q_257_52 : js_I 257 52 = some (.iload 9, 2) := by decide +kernel
theorem q_257_54 : js_I 257 54 = some (.iaload, 1) := by decide +kernel
theorem q_257_55 : js_I 257 55 = some (.iconst 1, 1) := by decide +kernel
theorem q_257_56 : js_I 257 56 = some (.if_icmp .ne 7, 3) := by decide +kernel
theorem q_257_59 : js_I 257 59 = some (.iconst 1, 1) := by decide +kernel
theorem q_257_60 : js_I 257 60 = some (.goto 4, 3) := by decide +kernel
theorem q_257_63 : js_I 257 63 = some (.iconst 0, 1) := by decide +kernel
theorem q_257_64 : js_I 257 64 = some (.istore 10, 2) := by decide +kernel
theorem q_257_66 : js_I 257 66 = some (.lload 4, 2) := by decide +kernel
theorem q_257_68 : js_I 257 68 = some (.aload_n 0, 1) := by decide +kernel
theorem q_257_69 : js_I 257 69 = some (.aload_n 0, 1) := by decide +kernel
theorem q_257_70 : js_I 257 70 = some (.getfield 175, 3) := by decide +kernel
theorem q_257_73 : js_I 257 73 = some (.iload 9, 2) := by decide +kernel
theorem q_257_75 : js_I 257 75 = some (.iaload, 1) := by decide +kernel
theorem q_257_76 : js_I 257 76 = some (.iload 10, 2) := by decide +kernel
theorem q_257_78 : js_I 257 78 = some (.ifCond .eq 8, 3) := by decide +kernel
theorem q_257_86 : js_I 257 86 = some (.bipush 17, 2) := by decide +kernel
theorem q_257_81 : js_I 257 81 = some (.bipush 16, 2) := by decide +kernel
theorem q_257_83 : js_I 257 83 = some (.goto 5, 3) := by decide +kernel
theorem q_257_88 : js_I 257 88 = some (.iload_n 3, 1) := by decide +kernel
theorem q_257_89 : js_I 257 89 = some (.iload_n 2, 1) := by decide +kernel
theorem q_257_90 : js_I 257 90 = some (.iconst 0, 1) := by decide +kernel
theorem q_257_91 : js_I 257 91 = some (.invokevirtual 546, 3) := by decide +kernel
theorem q_257_94 : js_I 257 94 = some (.ladd, 1) := by decide +kernel
theorem q_257_95 : js_I 257 95 = some (.lstore 4, 2) := by decide +kernel
theorem q_257_97 : js_I 257 97 = some (.aload_n 0, 1) := by decide +kernel
theorem q_257_98 : js_I 257 98 = some (.getfield 428, 3) := by decide +kernel
theorem q_257_101 : js_I 257 101 = some (.iconst 1, 1) := by decide +kernel
theorem q_257_102 : js_I 257 102 = some (.isub, 1) := by decide +kernel
theorem q_257_103 : js_I 257 103 = some (.istore 11, 2) := by decide +kernel
theorem q_257_105 : js_I 257 105 = some (.iconst (-1), 1) := by decide +kernel
theorem q_257_106 : js_I 257 106 = some (.istore 12, 2) := by decide +kernel
theorem q_257_108 : js_I 257 108 = some (.iload 10, 2) := by decide +kernel
theorem q_257_110 : js_I 257 110 = some (.ifCond .eq 32, 3) := by decide +kernel
theorem q_257_113 : js_I 257 113 = some (.lload 4, 2) := by decide +kernel
theorem q_257_115 : js_I 257 115 = some (.aload_n 0, 1) := by decide +kernel
theorem q_257_116 : js_I 257 116 = some (.aload_n 0, 1) := by decide +kernel
theorem q_257_117 : js_I 257 117 = some (.getfield 178, 3) := by decide +kernel
theorem q_257_120 : js_I 257 120 = some (.iload 9, 2) := by decide +kernel
theorem q_257_122 : js_I 257 122 = some (.iaload, 1) := by decide +kernel
theorem q_257_123 : js_I 257 123 = some (.bipush 14, 2) := by decide +kernel
theorem q_257_125 : js_I 257 125 = some (.iload_n 3, 1) := by decide +kernel
theorem q_257_126 : js_I 257 126 = some (.iload_n 2, 1) := by decide +kernel
theorem q_257_127 : js_I 257 127 = some (.iconst 0, 1) := by decide +kernel
theorem q_257_128 : js_I 257 128 = some (.invokevirtual 546, 3) := by decide +kernel
theorem q_257_131 : js_I 257 131 = some (.ladd, 1) := by decide +kernel
theorem q_257_132 : js_I 257 132 = some (.lstore 4, 2) := by decide +kernel
theorem q_257_134 : js_I 257 134 = some (.aload_n 0, 1) := by decide +kernel
theorem q_257_135 : js_I 257 135 = some (.getfield 428, 3) := by decide +kernel
theorem q_257_138 : js_I 257 138 = some (.iconst 1, 1) := by decide +kernel
theorem q_257_139 : js_I 257 139 = some (.isub, 1) := by decide +kernel
theorem q_257_140 : js_I 257 140 = some (.istore 12, 2) := by decide +kernel
theorem q_257_142 : js_I 257 142 = some (.aload_n 0, 1) := by decide +kernel
theorem q_257_143 : js_I 257 143 = some (.aload_n 0, 1) := by decide +kernel
theorem q_257_144 : js_I 257 144 = some (.getfield 181, 3) := by decide +kernel
theorem q_257_147 : js_I 257 147 = some (.iload 9, 2) := by decide +kernel
theorem q_257_149 : js_I 257 149 = some (.iaload, 1) := by decide +kernel
theorem q_257_150 : js_I 257 150 = some (.iload_n 2, 1) := by decide +kernel
theorem q_257_151 : js_I 257 151 = some (.iconst 1, 1) := by decide +kernel
theorem q_257_152 : js_I 257 152 = some (.iadd, 1) := by decide +kernel
theorem q_257_153 : js_I 257 153 = some (.invokevirtual 550, 3) := by decide +kernel
theorem q_257_156 : js_I 257 156 = some (.lstore 13, 2) := by decide +kernel
theorem q_257_158 : js_I 257 158 = some (.lload 6, 2) := by decide +kernel
theorem q_257_160 : js_I 257 160 = some (.lload 4, 2) := by decide +kernel
theorem q_257_162 : js_I 257 162 = some (.lload 13, 2) := by decide +kernel
theorem q_257_164 : js_I 257 164 = some (.ladd, 1) := by decide +kernel
theorem q_257_165 : js_I 257 165 = some (.lconst 1, 1) := by decide +kernel
theorem q_257_166 : js_I 257 166 = some (.ladd, 1) := by decide +kernel
theorem q_257_167 : js_I 257 167 = some (.invokestatic 241, 3) := by decide +kernel
theorem q_257_170 : js_I 257 170 = some (.lstore 6, 2) := by decide +kernel
theorem q_257_172 : js_I 257 172 = some (.aload_n 0, 1) := by decide +kernel
theorem q_257_173 : js_I 257 173 = some (.bipush 24, 2) := by decide +kernel
theorem q_257_175 : js_I 257 175 = some (.iload 8, 2) := by decide +kernel
theorem q_257_177 : js_I 257 177 = some (.iconst 0, 1) := by decide +kernel
theorem q_257_178 : js_I 257 178 = some (.invokevirtual 505, 3) := by decide +kernel
theorem q_257_181 : js_I 257 181 = some (.istore 8, 2) := by decide +kernel
theorem q_257_183 : js_I 257 183 = some (.aload_n 0, 1) := by decide +kernel
theorem q_257_184 : js_I 257 184 = some (.iload 11, 2) := by decide +kernel
theorem q_257_186 : js_I 257 186 = some (.invokevirtual 517, 3) := by decide +kernel
theorem q_257_189 : js_I 257 189 = some (.iload 12, 2) := by decide +kernel
theorem q_257_191 : js_I 257 191 = some (.ifCond .lt 9, 3) := by decide +kernel
theorem q_257_194 : js_I 257 194 = some (.aload_n 0, 1) := by decide +kernel
theorem q_257_195 : js_I 257 195 = some (.iload 12, 2) := by decide +kernel
theorem q_257_197 : js_I 257 197 = some (.invokevirtual 517, 3) := by decide +kernel
theorem q_257_200 : js_I 257 200 = some (.aload_n 0, 1) := by decide +kernel
theorem q_257_201 : js_I 257 201 = some (.getfield 190, 3) := by decide +kernel
theorem q_257_204 : js_I 257 204 = some (.iload 9, 2) := by decide +kernel
theorem q_257_206 : js_I 257 206 = some (.iaload, 1) := by decide +kernel
theorem q_257_207 : js_I 257 207 = some (.istore 9, 2) := by decide +kernel
theorem q_257_209 : js_I 257 209 = some (.goto (-166), 3) := by decide +kernel
theorem q_257_237 : js_I 257 237 = some (.ladd, 1) := by decide +kernel
theorem q_257_238 : js_I 257 238 = some (.invokestatic 520, 3) := by decide +kernel
theorem q_257_241 : js_I 257 241 = some (.lstore 4, 2) := by decide +kernel
theorem q_257_243 : js_I 257 243 = some (.aload_n 0, 1) := by decide +kernel
theorem q_257_244 : js_I 257 244 = some (.iload 8, 2) := by decide +kernel
theorem q_257_246 : js_I 257 246 = some (.invokevirtual 553, 3) := by decide +kernel
theorem q_257_249 : js_I 257 249 = some (.lload 6, 2) := by decide +kernel
theorem q_257_251 : js_I 257 251 = some (.lload 4, 2) := by decide +kernel
theorem q_257_253 : js_I 257 253 = some (.invokestatic 241, 3) := by decide +kernel
theorem q_257_256 : js_I 257 256 = some (.invokestatic 520, 3) := by decide +kernel
theorem q_257_259 : js_I 257 259 = some (.lreturn, 1) := by decide +kernel
theorem q_258_0 : js_I 258 0 = some (.aload_n 0, 1) := by decide +kernel
theorem q_258_1 : js_I 258 1 = some (.iconst 0, 1) := by decide +kernel
theorem q_258_2 : js_I 258 2 = some (.iload_n 1, 1) := by decide +kernel
theorem q_258_3 : js_I 258 3 = some (.iconst 0, 1) := by decide +kernel
theorem q_258_4 : js_I 258 4 = some (.iload_n 1, 1) := by decide +kernel
theorem q_258_5 : js_I 258 5 = some (.i2l, 1) := by decide +kernel
theorem q_258_6 : js_I 258 6 = some (.iload_n 1, 1) := by decide +kernel
theorem q_258_7 : js_I 258 7 = some (.i2l, 1) := by decide +kernel
theorem q_258_8 : js_I 258 8 = some (.invokevirtual 483, 3) := by decide +kernel
theorem q_258_11 : js_I 258 11 = some (.pop, 1) := by decide +kernel
theorem q_258_12 : js_I 258 12 = some (.aload_n 0, 1) := by decide +kernel
theorem q_258_13 : js_I 258 13 = some (.iconst 3, 1) := by decide +kernel
theorem q_258_14 : js_I 258 14 = some (.iconst 0, 1) := by decide +kernel
theorem q_258_15 : js_I 258 15 = some (.iconst 0, 1) := by decide +kernel
theorem q_258_16 : js_I 258 16 = some (.invokevirtual 505, 3) := by decide +kernel
theorem q_258_19 : js_I 258 19 = some (.pop, 1) := by decide +kernel
theorem q_258_20 : js_I 258 20 = some (.aload_n 0, 1) := by decide +kernel
theorem q_258_21 : js_I 258 21 = some (.iload 4, 2) := by decide +kernel
theorem q_258_23 : js_I 258 23 = some (.iload_n 3, 1) := by decide +kernel
theorem q_258_24 : js_I 258 24 = some (.invokevirtual 514, 3) := by decide +kernel
theorem q_258_27 : js_I 258 27 = some (.aload_n 0, 1) := by decide +kernel
theorem q_258_28 : js_I 258 28 = some (.iload_n 2, 1) := by decide +kernel
theorem q_258_29 : js_I 258 29 = some (.iconst 0, 1) := by decide +kernel
theorem q_258_30 : js_I 258 30 = some (.iconst 0, 1) := by decide +kernel
theorem q_258_31 : js_I 258 31 = some (.lconst 0, 1) := by decide +kernel
theorem q_258_32 : js_I 258 32 = some (.lconst 1, 1) := by decide +kernel
theorem q_258_33 : js_I 258 33 = some (.invokevirtual 483, 3) := by decide +kernel
theorem q_258_36 : js_I 258 36 = some (.pop, 1) := by decide +kernel
theorem q_258_37 : js_I 258 37 = some (.aload_n 0, 1) := by decide +kernel
theorem q_258_38 : js_I 258 38 = some (.bipush 25, 2) := by decide +kernel
theorem q_258_40 : js_I 258 40 = some (.iload 5, 2) := by decide +kernel
theorem q_258_42 : js_I 258 42 = some (.iconst 0, 1) := by decide +kernel
theorem q_258_43 : js_I 258 43 = some (.invokevirtual 505, 3) := by decide +kernel
theorem q_258_46 : js_I 258 46 = some (.pop, 1) := by decide +kernel
theorem q_258_47 : js_I 258 47 = some (.ldc2_w 544, 3) := by decide +kernel
theorem q_258_50 : js_I 258 50 = some (.lreturn, 1) := by decide +kernel
theorem q_259_0 : js_I 259 0 = some (.iload_n 1, 1) := by decide +kernel
theorem q_259_1 : js_I 259 1 = some (.istore_n 2, 1) := by decide +kernel
theorem q_259_2 : js_I 259 2 = some (.iload_n 2, 1) := by decide +kernel
theorem q_259_3 : js_I 259 3 = some (.ifCond .lt 32, 3) := by decide +kernel
theorem q_259_35 : js_I 259 35 = some (.return_, 1) := by decide +kernel
theorem q_259_6 : js_I 259 6 = some (.iload_n 2, 1) := by decide +kernel
theorem q_259_7 : js_I 259 7 = some (.sipush 8192, 3) := by decide +kernel
theorem q_259_10 : js_I 259 10 = some (.if_icmp .ge 25, 3) := by decide +kernel
theorem q_259_13 : js_I 259 13 = some (.aload_n 0, 1) := by decide +kernel
theorem q_259_14 : js_I 259 14 = some (.getfield 349, 3) := by decide +kernel
theorem q_259_17 : js_I 259 17 = some (.iload_n 2, 1) := by decide +kernel
theorem q_259_18 : js_I 259 18 = some (.iaload, 1) := by decide +kernel
theorem q_259_19 : js_I 259 19 = some (.istore_n 3, 1) := by decide +kernel
theorem q_259_20 : js_I 259 20 = some (.aload_n 0, 1) := by decide +kernel
theorem q_259_21 : js_I 259 21 = some (.getfield 349, 3) := by decide +kernel
theorem q_259_24 : js_I 259 24 = some (.iload_n 2, 1) := by decide +kernel
theorem q_259_25 : js_I 259 25 = some (.aload_n 0, 1) := by decide +kernel
theorem q_259_26 : js_I 259 26 = some (.getfield 428, 3) := by decide +kernel
theorem q_259_29 : js_I 259 29 = some (.iastore, 1) := by decide +kernel
theorem q_259_30 : js_I 259 30 = some (.iload_n 3, 1) := by decide +kernel
theorem q_259_31 : js_I 259 31 = some (.istore_n 2, 1) := by decide +kernel
theorem q_259_32 : js_I 259 32 = some (.goto (-30), 3) := by decide +kernel
theorem q_260_0 : js_I 260 0 = some (.lconst 0, 1) := by decide +kernel
theorem q_260_1 : js_I 260 1 = some (.lstore_n 3, 1) := by decide +kernel
theorem q_260_2 : js_I 260 2 = some (.lconst 0, 1) := by decide +kernel
theorem q_260_3 : js_I 260 3 = some (.lstore 5, 2) := by decide +kernel
theorem q_260_5 : js_I 260 5 = some (.iconst (-1), 1) := by decide +kernel
theorem q_260_6 : js_I 260 6 = some (.istore 7, 2) := by decide +kernel
theorem q_260_8 : js_I 260 8 = some (.iload_n 1, 1) := by decide +kernel
theorem q_260_9 : js_I 260 9 = some (.istore 8, 2) := by decide +kernel
theorem q_260_11 : js_I 260 11 = some (.iload 8, 2) := by decide +kernel
theorem q_260_13 : js_I 260 13 = some (.ifCond .lt 158, 3) := by decide +kernel
theorem q_260_171 : js_I 260 171 = some (.aload_n 0, 1) := by decide +kernel
theorem q_260_172 : js_I 260 172 = some (.iload 7, 2) := by decide +kernel
theorem q_260_174 : js_I 260 174 = some (.invokevirtual 553, 3) := by decide +kernel
theorem q_260_16 : js_I 260 16 = some (.lload_n 3, 1) := by decide +kernel
theorem q_260_17 : js_I 260 17 = some (.aload_n 0, 1) := by decide +kernel
theorem q_260_18 : js_I 260 18 = some (.aload_n 0, 1) := by decide +kernel
theorem q_260_19 : js_I 260 19 = some (.getfield 181, 3) := by decide +kernel
theorem q_260_22 : js_I 260 22 = some (.iload 8, 2) := by decide +kernel
theorem q_260_24 : js_I 260 24 = some (.iaload, 1) := by decide +kernel
theorem q_260_25 : js_I 260 25 = some (.iload_n 2, 1) := by decide +kernel
theorem q_260_26 : js_I 260 26 = some (.invokevirtual 511, 3) := by decide +kernel
theorem q_260_29 : js_I 260 29 = some (.lconst 1, 1) := by decide +kernel
theorem q_260_30 : js_I 260 30 = some (.ladd, 1) := by decide +kernel
theorem q_260_31 : js_I 260 31 = some (.ladd, 1) := by decide +kernel
theorem q_260_32 : js_I 260 32 = some (.lstore_n 3, 1) := by decide +kernel
theorem q_260_33 : js_I 260 33 = some (.aload_n 0, 1) := by decide +kernel
theorem q_260_34 : js_I 260 34 = some (.bipush 25, 2) := by decide +kernel
theorem q_260_36 : js_I 260 36 = some (.iconst 0, 1) := by decide +kernel
theorem q_260_37 : js_I 260 37 = some (.iconst 0, 1) := by decide +kernel
theorem q_260_38 : js_I 260 38 = some (.invokevirtual 505, 3) := by decide +kernel
theorem q_260_41 : js_I 260 41 = some (.istore 9, 2) := by decide +kernel
theorem q_260_43 : js_I 260 43 = some (.aload_n 0, 1) := by decide +kernel
theorem q_260_44 : js_I 260 44 = some (.aload_n 0, 1) := by decide +kernel
theorem q_260_45 : js_I 260 45 = some (.getfield 184, 3) := by decide +kernel
theorem q_260_48 : js_I 260 48 = some (.iload 8, 2) := by decide +kernel
theorem q_260_50 : js_I 260 50 = some (.iaload, 1) := by decide +kernel
theorem q_260_51 : js_I 260 51 = some (.iload_n 2, 1) := by decide +kernel
theorem q_260_52 : js_I 260 52 = some (.invokevirtual 550, 3) := by decide +kernel
theorem q_260_55 : js_I 260 55 = some (.lstore 10, 2) := by decide +kernel
theorem q_260_57 : js_I 260 57 = some (.aload_n 0, 1) := by decide +kernel
theorem q_260_58 : js_I 260 58 = some (.getfield 178, 3) := by decide +kernel
theorem q_260_61 : js_I 260 61 = some (.iload 8, 2) := by decide +kernel
theorem q_260_63 : js_I 260 63 = some (.iaload, 1) := by decide +kernel
theorem q_260_64 : js_I 260 64 = some (.ifCond .le 7, 3) := by decide +kernel
theorem q_260_67 : js_I 260 67 = some (.iconst 1, 1) := by decide +kernel
theorem q_260_68 : js_I 260 68 = some (.goto 4, 3) := by decide +kernel
theorem q_260_71 : js_I 260 71 = some (.iconst 0, 1) := by decide +kernel
theorem q_260_72 : js_I 260 72 = some (.istore 12, 2) := by decide +kernel
theorem q_260_74 : js_I 260 74 = some (.lload 5, 2) := by decide +kernel
theorem q_260_76 : js_I 260 76 = some (.lload_n 3, 1) := by decide +kernel
theorem q_260_77 : js_I 260 77 = some (.lload 10, 2) := by decide +kernel
theorem q_260_79 : js_I 260 79 = some (.ladd, 1) := by decide +kernel
theorem q_260_80 : js_I 260 80 = some (.iload 12, 2) := by decide +kernel
theorem q_260_82 : js_I 260 82 = some (.ifCond .eq 7, 3) := by decide +kernel
theorem q_260_89 : js_I 260 89 = some (.lconst 0, 1) := by decide +kernel
theorem q_260_85 : js_I 260 85 = some (.lconst 1, 1) := by decide +kernel
theorem q_260_86 : js_I 260 86 = some (.goto 4, 3) := by decide +kernel
theorem q_260_90 : js_I 260 90 = some (.ladd, 1) := by decide +kernel
theorem q_260_91 : js_I 260 91 = some (.invokestatic 241, 3) := by decide +kernel
theorem q_260_94 : js_I 260 94 = some (.lstore 5, 2) := by decide +kernel
theorem q_260_96 : js_I 260 96 = some (.iload 12, 2) := by decide +kernel
theorem q_260_98 : js_I 260 98 = some (.ifCond .eq 14, 3) := by decide +kernel
theorem q_260_101 : js_I 260 101 = some (.aload_n 0, 1) := by decide +kernel
theorem q_260_102 : js_I 260 102 = some (.bipush 24, 2) := by decide +kernel
theorem q_260_104 : js_I 260 104 = some (.iload 7, 2) := by decide +kernel
theorem q_260_106 : js_I 260 106 = some (.iconst 0, 1) := by decide +kernel
theorem q_260_107 : js_I 260 107 = some (.invokevirtual 505, 3) := by decide +kernel
theorem q_260_110 : js_I 260 110 = some (.istore 7, 2) := by decide +kernel
theorem q_260_112 : js_I 260 112 = some (.aload_n 0, 1) := by decide +kernel
theorem q_260_113 : js_I 260 113 = some (.iload 9, 2) := by decide +kernel
theorem q_260_115 : js_I 260 115 = some (.invokevirtual 517, 3) := by decide +kernel
theorem q_260_118 : js_I 260 118 = some (.aload_n 0, 1) := by decide +kernel
theorem q_260_119 : js_I 260 119 = some (.getfield 178, 3) := by decide +kernel
theorem q_260_122 : js_I 260 122 = some (.iload 8, 2) := by decide +kernel
theorem q_260_124 : js_I 260 124 = some (.iaload, 1) := by decide +kernel
theorem q_260_125 : js_I 260 125 = some (.iconst 1, 1) := by decide +kernel
theorem q_260_126 : js_I 260 126 = some (.if_icmp .ne 18, 3) := by decide +kernel
theorem q_260_129 : js_I 260 129 = some (.lload_n 3, 1) := by decide +kernel
theorem q_260_130 : js_I 260 130 = some (.aload_n 0, 1) := by decide +kernel
theorem q_260_131 : js_I 260 131 = some (.aload_n 0, 1) := by decide +kernel
theorem q_260_132 : js_I 260 132 = some (.getfield 187, 3) := by decide +kernel
theorem q_260_135 : js_I 260 135 = some (.iload 8, 2) := by decide +kernel
theorem q_260_137 : js_I 260 137 = some (.iaload, 1) := by decide +kernel
theorem q_260_138 : js_I 260 138 = some (.iload_n 2, 1) := by decide +kernel
theorem q_260_139 : js_I 260 139 = some (.invokevirtual 550, 3) := by decide +kernel
theorem q_260_142 : js_I 260 142 = some (.ladd, 1) := by decide +kernel
theorem q_260_143 : js_I 260 143 = some (.lstore_n 3, 1) := by decide +kernel
theorem q_260_144 : js_I 260 144 = some (.aload_n 0, 1) := by decide +kernel
theorem q_260_145 : js_I 260 145 = some (.getfield 178, 3) := by decide +kernel
theorem q_260_148 : js_I 260 148 = some (.iload 8, 2) := by decide +kernel
theorem q_260_150 : js_I 260 150 = some (.iaload, 1) := by decide +kernel
theorem q_260_151 : js_I 260 151 = some (.iconst 2, 1) := by decide +kernel
theorem q_260_152 : js_I 260 152 = some (.if_icmp .ne 13, 3) := by decide +kernel
theorem q_260_155 : js_I 260 155 = some (.aload_n 0, 1) := by decide +kernel
theorem q_260_156 : js_I 260 156 = some (.getfield 187, 3) := by decide +kernel
theorem q_260_159 : js_I 260 159 = some (.iload 8, 2) := by decide +kernel
theorem q_260_161 : js_I 260 161 = some (.iaload, 1) := by decide +kernel
theorem q_260_162 : js_I 260 162 = some (.goto 4, 3) := by decide +kernel
theorem q_260_165 : js_I 260 165 = some (.iconst (-1), 1) := by decide +kernel
theorem q_260_166 : js_I 260 166 = some (.istore 8, 2) := by decide +kernel
theorem q_260_168 : js_I 260 168 = some (.goto (-157), 3) := by decide +kernel
theorem q_260_177 : js_I 260 177 = some (.lload 5, 2) := by decide +kernel
theorem q_260_179 : js_I 260 179 = some (.lload_n 3, 1) := by decide +kernel
theorem q_260_180 : js_I 260 180 = some (.invokestatic 241, 3) := by decide +kernel
theorem q_260_183 : js_I 260 183 = some (.invokestatic 520, 3) := by decide +kernel
theorem q_260_186 : js_I 260 186 = some (.lreturn, 1) := by decide +kernel
theorem q_261_0 : js_I 261 0 = some (.aload_n 0, 1) := by decide +kernel
theorem q_261_1 : js_I 261 1 = some (.getfield 181, 3) := by decide +kernel
theorem q_261_4 : js_I 261 4 = some (.iload_n 1, 1) := by decide +kernel
theorem q_261_5 : js_I 261 5 = some (.iaload, 1) := by decide +kernel
theorem q_261_6 : js_I 261 6 = some (.istore_n 3, 1) := by decide +kernel
theorem q_261_7 : js_I 261 7 = some (.aload_n 0, 1) := by decide +kernel
theorem q_261_8 : js_I 261 8 = some (.iconst 0, 1) := by decide +kernel
theorem q_261_9 : js_I 261 9 = some (.aload_n 0, 1) := by decide +kernel
theorem q_261_10 : js_I 261 10 = some (.getfield 105, 3) := by decide +kernel
theorem q_261_13 : js_I 261 13 = some (.iload_n 3, 1) := by decide +kernel
theorem q_261_14 : js_I 261 14 = some (.iaload, 1) := by decide +kernel
theorem q_261_15 : js_I 261 15 = some (.iconst 0, 1) := by decide +kernel
theorem q_261_16 : js_I 261 16 = some (.aload_n 0, 1) := by decide +kernel
theorem q_261_17 : js_I 261 17 = some (.getfield 105, 3) := by decide +kernel
theorem q_261_20 : js_I 261 20 = some (.iload_n 3, 1) := by decide +kernel
theorem q_261_21 : js_I 261 21 = some (.iaload, 1) := by decide +kernel
theorem q_261_22 : js_I 261 22 = some (.i2l, 1) := by decide +kernel
theorem q_261_23 : js_I 261 23 = some (.aload_n 0, 1) := by decide +kernel
theorem q_261_24 : js_I 261 24 = some (.getfield 105, 3) := by decide +kernel
theorem q_261_27 : js_I 261 27 = some (.iload_n 3, 1) := by decide +kernel
theorem q_261_28 : js_I 261 28 = some (.iaload, 1) := by decide +kernel
theorem q_261_29 : js_I 261 29 = some (.i2l, 1) := by decide +kernel
theorem q_261_30 : js_I 261 30 = some (.invokevirtual 483, 3) := by decide +kernel
theorem q_261_33 : js_I 261 33 = some (.pop, 1) := by decide +kernel
theorem q_261_34 : js_I 261 34 = some (.aload_n 0, 1) := by decide +kernel
theorem q_261_35 : js_I 261 35 = some (.iconst 2, 1) := by decide +kernel
theorem q_261_36 : js_I 261 36 = some (.aload_n 0, 1) := by decide +kernel
theorem q_261_37 : js_I 261 37 = some (.getfield 111, 3) := by decide +kernel
theorem q_261_40 : js_I 261 40 = some (.iload_n 3, 1) := by decide +kernel
theorem q_261_41 : js_I 261 41 = some (.iaload, 1) := by decide +kernel
theorem q_261_42 : js_I 261 42 = some (.iconst 0, 1) := by decide +kernel
theorem q_261_43 : js_I 261 43 = some (.invokevirtual 505, 3) := by decide +kernel
theorem q_261_46 : js_I 261 46 = some (.pop, 1) := by decide +kernel
theorem q_261_47 : js_I 261 47 = some (.aload_n 0, 1) := by decide +kernel
theorem q_261_48 : js_I 261 48 = some (.getfield 428, 3) := by decide +kernel
theorem q_261_51 : js_I 261 51 = some (.istore 4, 2) := by decide +kernel
theorem q_261_53 : js_I 261 53 = some (.aload_n 0, 1) := by decide +kernel
theorem q_261_54 : js_I 261 54 = some (.iconst 0, 1) := by decide +kernel
theorem q_261_55 : js_I 261 55 = some (.aload_n 0, 1) := by decide +kernel
theorem q_261_56 : js_I 261 56 = some (.getfield 108, 3) := by decide +kernel
theorem q_261_59 : js_I 261 59 = some (.iload_n 3, 1) := by decide +kernel
theorem q_261_60 : js_I 261 60 = some (.iaload, 1) := by decide +kernel
theorem q_261_61 : js_I 261 61 = some (.iconst 0, 1) := by decide +kernel
theorem q_261_62 : js_I 261 62 = some (.aload_n 0, 1) := by decide +kernel
theorem q_261_63 : js_I 261 63 = some (.getfield 108, 3) := by decide +kernel
theorem q_261_66 : js_I 261 66 = some (.iload_n 3, 1) := by decide +kernel
theorem q_261_67 : js_I 261 67 = some (.iaload, 1) := by decide +kernel
theorem q_261_68 : js_I 261 68 = some (.i2l, 1) := by decide +kernel
theorem q_261_69 : js_I 261 69 = some (.aload_n 0, 1) := by decide +kernel
theorem q_261_70 : js_I 261 70 = some (.getfield 108, 3) := by decide +kernel
theorem q_261_73 : js_I 261 73 = some (.iload_n 3, 1) := by decide +kernel
theorem q_261_74 : js_I 261 74 = some (.iaload, 1) := by decide +kernel
theorem q_261_75 : js_I 261 75 = some (.i2l, 1) := by decide +kernel
theorem q_261_76 : js_I 261 76 = some (.invokevirtual 483, 3) := by decide +kernel
theorem q_261_79 : js_I 261 79 = some (.pop, 1) := by decide +kernel
theorem q_261_80 : js_I 261 80 = some (.aload_n 0, 1) := by decide +kernel
theorem q_261_81 : js_I 261 81 = some (.iconst 3, 1) := by decide +kernel
theorem q_261_82 : js_I 261 82 = some (.iconst 0, 1) := by decide +kernel
theorem q_261_83 : js_I 261 83 = some (.iconst 0, 1) := by decide +kernel
theorem q_261_84 : js_I 261 84 = some (.invokevirtual 505, 3) := by decide +kernel
theorem q_261_87 : js_I 261 87 = some (.pop, 1) := by decide +kernel
theorem q_261_88 : js_I 261 88 = some (.aload_n 0, 1) := by decide +kernel
theorem q_261_89 : js_I 261 89 = some (.iconst 1, 1) := by decide +kernel
theorem q_261_90 : js_I 261 90 = some (.aload_n 0, 1) := by decide +kernel
theorem q_261_91 : js_I 261 91 = some (.getfield 111, 3) := by decide +kernel
theorem q_261_94 : js_I 261 94 = some (.iload_n 3, 1) := by decide +kernel
theorem q_261_95 : js_I 261 95 = some (.iaload, 1) := by decide +kernel
theorem q_261_96 : js_I 261 96 = some (.iconst 0, 1) := by decide +kernel
theorem q_261_97 : js_I 261 97 = some (.aload_n 0, 1) := by decide +kernel
theorem q_261_98 : js_I 261 98 = some (.getfield 105, 3) := by decide +kernel
theorem q_261_101 : js_I 261 101 = some (.iload_n 3, 1) := by decide +kernel
theorem q_261_102 : js_I 261 102 = some (.iaload, 1) := by decide +kernel
theorem q_261_103 : js_I 261 103 = some (.i2l, 1) := by decide +kernel
theorem q_261_104 : js_I 261 104 = some (.aload_n 0, 1) := by decide +kernel
theorem q_261_105 : js_I 261 105 = some (.getfield 108, 3) := by decide +kernel
theorem q_261_108 : js_I 261 108 = some (.iload_n 3, 1) := by decide +kernel
theorem q_261_109 : js_I 261 109 = some (.iaload, 1) := by decide +kernel
theorem q_261_110 : js_I 261 110 = some (.i2l, 1) := by decide +kernel
theorem q_261_111 : js_I 261 111 = some (.lconst 1, 1) := by decide +kernel
theorem q_261_112 : js_I 261 112 = some (.ladd, 1) := by decide +kernel
theorem q_261_113 : js_I 261 113 = some (.invokevirtual 483, 3) := by decide +kernel
theorem q_261_116 : js_I 261 116 = some (.pop, 1) := by decide +kernel
theorem q_261_117 : js_I 261 117 = some (.aload_n 0, 1) := by decide +kernel
theorem q_261_118 : js_I 261 118 = some (.bipush 14, 2) := by decide +kernel
theorem q_261_120 : js_I 261 120 = some (.iconst 0, 1) := by decide +kernel
theorem q_261_121 : js_I 261 121 = some (.iconst 0, 1) := by decide +kernel
theorem q_261_122 : js_I 261 122 = some (.lconst 0, 1) := by decide +kernel
theorem q_261_123 : js_I 261 123 = some (.lconst 1, 1) := by decide +kernel
theorem q_261_124 : js_I 261 124 = some (.invokevirtual 483, 3) := by decide +kernel
theorem q_261_127 : js_I 261 127 = some (.pop, 1) := by decide +kernel
theorem q_261_128 : js_I 261 128 = some (.aload_n 0, 1) := by decide +kernel
theorem q_261_129 : js_I 261 129 = some (.bipush 25, 2) := by decide +kernel
theorem q_261_131 : js_I 261 131 = some (.iconst 0, 1) := by decide +kernel
theorem q_261_132 : js_I 261 132 = some (.iconst 0, 1) := by decide +kernel
theorem q_261_133 : js_I 261 133 = some (.invokevirtual 505, 3) := by decide +kernel
theorem q_261_136 : js_I 261 136 = some (.istore 5, 2) := by decide +kernel
theorem q_261_138 : js_I 261 138 = some (.aload_n 0, 1) := by decide +kernel
theorem q_261_139 : js_I 261 139 = some (.aload_n 0, 1) := by decide +kernel
theorem q_261_140 : js_I 261 140 = some (.getfield 184, 3) := by decide +kernel
theorem q_261_143 : js_I 261 143 = some (.iload_n 1, 1) := by decide +kernel
theorem q_261_144 : js_I 261 144 = some (.iaload, 1) := by decide +kernel
theorem q_261_145 : js_I 261 145 = some (.iload_n 2, 1) := by decide +kernel
theorem q_261_146 : js_I 261 146 = some (.invokevirtual 550, 3) := by decide +kernel
theorem q_261_149 : js_I 261 149 = some (.lstore 6, 2) := by decide +kernel
theorem q_261_151 : js_I 261 151 = some (.aload_n 0, 1) := by decide +kernel
theorem q_261_152 : js_I 261 152 = some (.iconst 0, 1) := by decide +kernel
theorem q_261_153 : js_I 261 153 = some (.iconst 1, 1) := by decide +kernel
theorem q_261_154 : js_I 261 154 = some (.iconst 0, 1) := by decide +kernel
theorem q_261_155 : js_I 261 155 = some (.lconst 1, 1) := by decide +kernel
theorem q_261_156 : js_I 261 156 = some (.lconst 1, 1) := by decide +kernel
theorem q_261_157 : js_I 261 157 = some (.invokevirtual 483, 3) := by decide +kernel
theorem q_261_160 : js_I 261 160 = some (.pop, 1) := by decide +kernel
theorem q_261_161 : js_I 261 161 = some (.aload_n 0, 1) := by decide +kernel
theorem q_261_162 : js_I 261 162 = some (.iconst 3, 1) := by decide +kernel
theorem q_261_163 : js_I 261 163 = some (.iconst 0, 1) := by decide +kernel
theorem q_261_164 : js_I 261 164 = some (.iconst 0, 1) := by decide +kernel
theorem q_261_165 : js_I 261 165 = some (.invokevirtual 505, 3) := by decide +kernel
theorem q_261_168 : js_I 261 168 = some (.pop, 1) := by decide +kernel
theorem q_261_169 : js_I 261 169 = some (.aload_n 0, 1) := by decide +kernel
theorem q_261_170 : js_I 261 170 = some (.iconst 1, 1) := by decide +kernel
theorem q_261_171 : js_I 261 171 = some (.aload_n 0, 1) := by decide +kernel
theorem q_261_172 : js_I 261 172 = some (.getfield 111, 3) := by decide +kernel
theorem q_261_175 : js_I 261 175 = some (.iload_n 3, 1) := by decide +kernel
theorem q_261_176 : js_I 261 176 = some (.iaload, 1) := by decide +kernel
theorem q_261_177 : js_I 261 177 = some (.iconst 0, 1) := by decide +kernel
theorem q_261_178 : js_I 261 178 = some (.aload_n 0, 1) := by decide +kernel
theorem q_261_179 : js_I 261 179 = some (.getfield 105, 3) := by decide +kernel
theorem q_261_182 : js_I 261 182 = some (.iload_n 3, 1) := by decide +kernel
theorem q_261_183 : js_I 261 183 = some (.iaload, 1) := by decide +kernel
theorem q_261_184 : js_I 261 184 = some (.i2l, 1) := by decide +kernel
theorem q_261_185 : js_I 261 185 = some (.aload_n 0, 1) := by decide +kernel
theorem q_261_186 : js_I 261 186 = some (.getfield 108, 3) := by decide +kernel
theorem q_261_189 : js_I 261 189 = some (.iload_n 3, 1) := by decide +kernel
theorem q_261_190 : js_I 261 190 = some (.iaload, 1) := by decide +kernel
theorem q_261_191 : js_I 261 191 = some (.i2l, 1) := by decide +kernel
theorem q_261_192 : js_I 261 192 = some (.invokevirtual 483, 3) := by decide +kernel
theorem q_261_195 : js_I 261 195 = some (.pop, 1) := by decide +kernel
theorem q_261_196 : js_I 261 196 = some (.aload_n 0, 1) := by decide +kernel
theorem q_261_197 : js_I 261 197 = some (.bipush 6, 2) := by decide +kernel
theorem q_261_199 : js_I 261 199 = some (.iconst 0, 1) := by decide +kernel
theorem q_261_200 : js_I 261 200 = some (.iconst 0, 1) := by decide +kernel
theorem q_261_201 : js_I 261 201 = some (.aload_n 0, 1) := by decide +kernel
theorem q_261_202 : js_I 261 202 = some (.getfield 105, 3) := by decide +kernel
theorem q_261_205 : js_I 261 205 = some (.iload_n 3, 1) := by decide +kernel
theorem q_261_206 : js_I 261 206 = some (.iaload, 1) := by decide +kernel
theorem q_261_207 : js_I 261 207 = some (.i2l, 1) := by decide +kernel
theorem q_261_208 : js_I 261 208 = some (.lconst 1, 1) := by decide +kernel
theorem q_261_209 : js_I 261 209 = some (.ladd, 1) := by decide +kernel
theorem q_261_210 : js_I 261 210 = some (.aload_n 0, 1) := by decide +kernel
theorem q_261_211 : js_I 261 211 = some (.getfield 108, 3) := by decide +kernel
theorem q_261_214 : js_I 261 214 = some (.iload_n 3, 1) := by decide +kernel
theorem q_261_215 : js_I 261 215 = some (.iaload, 1) := by decide +kernel
theorem q_261_216 : js_I 261 216 = some (.i2l, 1) := by decide +kernel
theorem q_261_217 : js_I 261 217 = some (.lconst 1, 1) := by decide +kernel
theorem q_261_218 : js_I 261 218 = some (.ladd, 1) := by decide +kernel
theorem q_261_219 : js_I 261 219 = some (.invokevirtual 483, 3) := by decide +kernel
theorem q_261_222 : js_I 261 222 = some (.pop, 1) := by decide +kernel
theorem q_261_223 : js_I 261 223 = some (.aload_n 0, 1) := by decide +kernel
theorem q_261_224 : js_I 261 224 = some (.iconst 2, 1) := by decide +kernel
theorem q_261_225 : js_I 261 225 = some (.aload_n 0, 1) := by decide +kernel
theorem q_261_226 : js_I 261 226 = some (.getfield 111, 3) := by decide +kernel
theorem q_261_229 : js_I 261 229 = some (.iload_n 3, 1) := by decide +kernel
theorem q_261_230 : js_I 261 230 = some (.iaload, 1) := by decide +kernel
theorem q_261_231 : js_I 261 231 = some (.iconst 0, 1) := by decide +kernel
theorem q_261_232 : js_I 261 232 = some (.invokevirtual 505, 3) := by decide +kernel
theorem q_261_235 : js_I 261 235 = some (.pop, 1) := by decide +kernel
theorem q_261_236 : js_I 261 236 = some (.aload_n 0, 1) := by decide +kernel
theorem q_261_237 : js_I 261 237 = some (.bipush 24, 2) := by decide +kernel
theorem q_261_239 : js_I 261 239 = some (.iload 4, 2) := by decide +kernel
theorem q_261_241 : js_I 261 241 = some (.iconst 0, 1) := by decide +kernel
theorem q_261_242 : js_I 261 242 = some (.invokevirtual 505, 3) := by decide +kernel
theorem q_261_245 : js_I 261 245 = some (.pop, 1) := by decide +kernel
theorem q_261_246 : js_I 261 246 = some (.aload_n 0, 1) := by decide +kernel
theorem q_261_247 : js_I 261 247 = some (.iload 5, 2) := by decide +kernel
theorem q_261_249 : js_I 261 249 = some (.invokevirtual 517, 3) := by decide +kernel
theorem q_261_252 : js_I 261 252 = some (.aload_n 0, 1) := by decide +kernel
theorem q_261_253 : js_I 261 253 = some (.getfield 108, 3) := by decide +kernel
theorem q_261_256 : js_I 261 256 = some (.iload_n 3, 1) := by decide +kernel
theorem q_261_257 : js_I 261 257 = some (.iaload, 1) := by decide +kernel
theorem q_261_258 : js_I 261 258 = some (.i2l, 1) := by decide +kernel
theorem q_261_259 : js_I 261 259 = some (.aload_n 0, 1) := by decide +kernel
theorem q_261_260 : js_I 261 260 = some (.getfield 105, 3) := by decide +kernel
theorem q_261_263 : js_I 261 263 = some (.iload_n 3, 1) := by decide +kernel
theorem q_261_264 : js_I 261 264 = some (.iaload, 1) := by decide +kernel
theorem q_261_265 : js_I 261 265 = some (.i2l, 1) := by decide +kernel
theorem q_261_266 : js_I 261 266 = some (.lsub, 1) := by decide +kernel
theorem q_261_267 : js_I 261 267 = some (.lconst 1, 1) := by decide +kernel
theorem q_261_268 : js_I 261 268 = some (.ladd, 1) := by decide +kernel
theorem q_261_269 : js_I 261 269 = some (.lstore 8, 2) := by decide +kernel
theorem q_261_271 : js_I 261 271 = some (.lload 6, 2) := by decide +kernel
theorem q_261_273 : js_I 261 273 = some (.ldc2_w 556, 3) := by decide +kernel
theorem q_261_276 : js_I 261 276 = some (.ladd, 1) := by decide +kernel
theorem q_261_277 : js_I 261 277 = some (.lstore 10, 2) := by decide +kernel
theorem q_261_279 : js_I 261 279 = some (.lload 8, 2) := by decide +kernel
theorem q_261_281 : js_I 261 281 = some (.ldc2_w 496, 3) := by decide +kernel
theorem q_261_284 : js_I 261 284 = some (.lload 10, 2) := by decide +kernel
theorem q_261_286 : js_I 261 286 = some (.ldiv, 1) := by decide +kernel
theorem q_261_287 : js_I 261 287 = some (.lcmp, 1) := by decide +kernel
theorem q_261_288 : js_I 261 288 = some (.ifCond .le 9, 3) := by decide +kernel
theorem q_261_291 : js_I 261 291 = some (.ldc2_w 496, 3) := by decide +kernel
theorem q_261_294 : js_I 261 294 = some (.goto 15, 3) := by decide +kernel
theorem q_261_297 : js_I 261 297 = some (.ldc2_w 558, 3) := by decide +kernel
theorem q_261_300 : js_I 261 300 = some (.lload 8, 2) := by decide +kernel
theorem q_261_302 : js_I 261 302 = some (.lload 10, 2) := by decide +kernel
theorem q_261_304 : js_I 261 304 = some (.lmul, 1) := by decide +kernel
theorem q_261_305 : js_I 261 305 = some (.ladd, 1) := by decide +kernel
theorem q_261_306 : js_I 261 306 = some (.invokestatic 520, 3) := by decide +kernel
theorem q_261_309 : js_I 261 309 = some (.lreturn, 1) := by decide +kernel
theorem qm_12_546 : ip_lk (vt_ML.getD 12 []) 546 = some (258, 5, 1, 12) := by decide +kernel
theorem qm_12_553 : ip_lk (vt_ML.getD 12 []) 553 = some (259, 1, 1, 12) := by decide +kernel
theorem qc_12_528 : ip_lk (vt_CL.getD 12 []) 528 = some (js_V (1, 3)) := by decide +kernel
theorem qc_12_544 : ip_lk (vt_CL.getD 12 []) 544 = some (js_V (1, 5)) := by decide +kernel
theorem qc_12_556 : ip_lk (vt_CL.getD 12 []) 556 = some (js_V (1, 11)) := by decide +kernel
theorem qc_12_558 : ip_lk (vt_CL.getD 12 []) 558 = some (js_V (1, 7)) := by decide +kernel
-- 254: VitalTwinModel.genCall (II)J
theorem b_254_0 {E : js_E} {d : Nat} {σ : js_S} {x1 x2 : Int} : js_J E d 254 0 [(2, 83), (0, x1), (0, x2), (9, 0), (9, 0), (9, 0), (9, 0), (9, 0)] [] σ = (if 0 ≤ js_w x1 ∧ js_w x1 < 66000 then js_J E d 254 21 [(2, 83), (0, x1), (0, x2), (0, σ 102 (js_w x1)), (1, 0), (9, 0), (0, 0), (0, σ 103 (js_w x1))] [] σ else none) :=
  (j_aload_n q_254_0 rfl).trans <| (j_get (ji := 36) (v := (2, 102)) q_254_1 (js_Fo qy_254 qf_12_181) js_o83 rfl rfl rfl rfl).trans <| (j_iload_n q_254_4 rfl).trans <| (j_iaload q_254_5 js_o102).trans <| js_itp fun g0 => (j_istore_n (l2 := [(2, 83), (0, x1), (0, x2), (0, σ 102 (js_w x1)), (9, 0), (9, 0), (9, 0), (9, 0)]) q_254_6 rfl (Nat.le_of_ble_eq_true rfl)).trans <| (j_lconst0 q_254_7).trans <| (j_lstore (l2 := [(2, 83), (0, x1), (0, x2), (0, σ 102 (js_w x1)), (1, 0), (9, 0), (9, 0), (9, 0)]) q_254_8 rfl (Nat.le_of_ble_eq_true rfl)).trans <| (j_iconst q_254_10).trans <| (j_istore (l2 := [(2, 83), (0, x1), (0, x2), (0, σ 102 (js_w x1)), (1, 0), (9, 0), (0, 0), (9, 0)]) q_254_11 rfl (Nat.le_of_ble_eq_true rfl)).trans <| (j_aload_n q_254_13 rfl).trans <| (j_get (ji := 37) (v := (2, 103)) q_254_14 (js_Fo qy_254 qf_12_184) js_o83 rfl rfl rfl rfl).trans <| (j_iload_n q_254_17 rfl).trans <| (j_iaload q_254_18 js_o103).trans <| (if_pos g0).trans <| (j_istore (l2 := [(2, 83), (0, x1), (0, x2), (0, σ 102 (js_w x1)), (1, 0), (9, 0), (0, 0), (0, σ 103 (js_w x1))]) q_254_19 rfl (Nat.le_of_ble_eq_true rfl)).trans <| rfl
theorem b_254_21 {E : js_E} {d : Nat} {σ : js_S} {x1 x2 x3 x4 x6 x7 : Int} : js_J E d 254 21 [(2, 83), (0, x1), (0, x2), (0, x3), (1, x4), (9, 0), (0, x6), (0, x7)] [] σ = (if js_w x7 < 0 then (if 0 ≤ js_w x1 ∧ js_w x1 < 66000 then js_J E d 254 86 [(2, 83), (0, x1), (0, x2), (0, x3), (1, x4), (9, 0), (0, 0), (0, σ 103 (js_w x1))] [] σ else none) else js_J E d 254 38 [(2, 83), (0, x1), (0, x2), (0, x3), (1, x4), (9, 0), (0, x6), (0, x7)] [(0, x2 + x6), (0, x7), (2, 83), (1, 3), (1, x4)] σ) :=
  (j_iload q_254_21 rfl).trans <| (j_iflt (t := 75) q_254_23 rfl).trans (js_ite ((j_iconst q_254_75).trans <| (j_istore (l2 := [(2, 83), (0, x1), (0, x2), (0, x3), (1, x4), (9, 0), (0, 0), (0, x7)]) q_254_76 rfl (Nat.le_of_ble_eq_true rfl)).trans <| (j_aload_n q_254_78 rfl).trans <| (j_get (ji := 37) (v := (2, 103)) q_254_79 (js_Fo qy_254 qf_12_184) js_o83 rfl rfl rfl rfl).trans <| (j_iload_n q_254_82 rfl).trans <| (j_iaload q_254_83 js_o103).trans <| js_itp fun g0 => (j_istore (l2 := [(2, 83), (0, x1), (0, x2), (0, x3), (1, x4), (9, 0), (0, 0), (0, σ 103 (js_w x1))]) q_254_84 rfl (Nat.le_of_ble_eq_true rfl)).trans <| rfl) ((j_lload q_254_26 rfl).trans <| (j_ldc2 (v := (1, 3)) q_254_28 (js_Co qy_254 qc_12_528)).trans <| (j_aload_n q_254_31 rfl).trans <| (j_iload q_254_32 rfl).trans <| (j_iload_n q_254_34 rfl).trans <| (j_iload q_254_35 rfl).trans <| (j_iadd q_254_37).trans <| rfl))
theorem k_254_38 {E : js_E} {d : Nat} {σ σ2 : js_S} {x1 x2 x3 x4 x6 x7 z0 z1 z3 z4 : Int} {v : Int} (hd : 1 ≤ d) (hz : js_J E (d - 1) 248 0 [(2, 83), (0, z3), (0, z4), (9, 0), (9, 0), (9, 0), (9, 0), (9, 0)] [] σ = js_r E (1, v) σ2) : js_J E d 254 38 [(2, 83), (0, x1), (0, x2), (0, x3), (1, x4), (9, 0), (0, x6), (0, x7)] [(0, z4), (0, z3), (2, 83), (1, z1), (1, z0)] σ = js_J E d 254 41 [(2, 83), (0, x1), (0, x2), (0, x3), (1, x4), (9, 0), (0, x6), (0, x7)] [(1, v), (1, z1), (1, z0)] σ2 :=
  j_call (m := 5) (js_caV q_254_38 (js_Mo qy_254 qm_12_511)) (js_agV (av := [(0, z3), (0, z4)]) (st := [(1, z1), (1, z0)]) rfl rfl js_o83 rfl) rfl rfl (by rw [ql_248]; exact Nat.le_of_ble_eq_true rfl) (Nat.le_of_ble_eq_true rfl) hd hz
theorem b_254_41 {E : js_E} {d : Nat} {σ : js_S} {x1 x2 x3 x4 x6 x7 z0 z1 z2 : Int} : js_J E d 254 41 [(2, 83), (0, x1), (0, x2), (0, x3), (1, x4), (9, 0), (0, x6), (0, x7)] [(1, z2), (1, z1), (1, z0)] σ = js_J E d 254 52 [(2, 83), (0, x1), (0, x2), (0, x3), (1, z0 + (z1 + z2)), (9, 0), (0, x6), (0, x7)] [(0, x2 + x6), (2, 83), (0, 2), (2, 83)] σ :=
  (j_ladd q_254_41).trans <| (j_ladd q_254_42).trans <| (j_lstore (l2 := [(2, 83), (0, x1), (0, x2), (0, x3), (1, z0 + (z1 + z2)), (9, 0), (0, x6), (0, x7)]) q_254_43 rfl (Nat.le_of_ble_eq_true rfl)).trans <| (j_aload_n q_254_45 rfl).trans <| (j_iconst q_254_46).trans <| (j_aload_n q_254_47 rfl).trans <| (j_iload_n q_254_48 rfl).trans <| (j_iload q_254_49 rfl).trans <| (j_iadd q_254_51).trans <| rfl
theorem k_254_52 {E : js_E} {d : Nat} {σ σ2 : js_S} {x1 x2 x3 x4 x6 x7 z1 z3 : Int} {v : Int} (hd : 1 ≤ d) (hz : js_J E (d - 1) 255 0 [(2, 83), (0, z3)] [] σ = js_r E (0, v) σ2) : js_J E d 254 52 [(2, 83), (0, x1), (0, x2), (0, x3), (1, x4), (9, 0), (0, x6), (0, x7)] [(0, z3), (2, 83), (0, z1), (2, 83)] σ = js_J E d 254 55 [(2, 83), (0, x1), (0, x2), (0, x3), (1, x4), (9, 0), (0, x6), (0, x7)] [(0, v), (0, z1), (2, 83)] σ2 :=
  j_call (m := 0) (js_caV q_254_52 (js_Mo qy_254 qm_12_493)) (js_agV (av := [(0, z3)]) (st := [(0, z1), (2, 83)]) rfl rfl js_o83 rfl) rfl rfl (by rw [ql_255]; exact Nat.le_of_ble_eq_true rfl) (Nat.le_of_ble_eq_true rfl) hd hz
theorem b_254_55 {E : js_E} {d : Nat} {σ : js_S} {x1 x2 x3 x4 x6 x7 z1 z2 : Int} : js_J E d 254 55 [(2, 83), (0, x1), (0, x2), (0, x3), (1, x4), (9, 0), (0, x6), (0, x7)] [(0, z2), (0, z1), (2, 83)] σ = js_J E d 254 56 [(2, 83), (0, x1), (0, x2), (0, x3), (1, x4), (9, 0), (0, x6), (0, x7)] [(0, 0), (0, z2), (0, z1), (2, 83)] σ :=
  (j_iconst q_254_55).trans <| rfl
theorem k_254_56 {E : js_E} {d : Nat} {σ σ2 : js_S} {x1 x2 x3 x4 x6 x7 z1 z2 z3 : Int} {v : Int} (hd : 1 ≤ d) (hz : js_J E (d - 1) 251 0 [(2, 83), (0, z1), (0, z2), (0, z3)] [] σ = js_r E (0, v) σ2) : js_J E d 254 56 [(2, 83), (0, x1), (0, x2), (0, x3), (1, x4), (9, 0), (0, x6), (0, x7)] [(0, z3), (0, z2), (0, z1), (2, 83)] σ = js_J E d 254 59 [(2, 83), (0, x1), (0, x2), (0, x3), (1, x4), (9, 0), (0, x6), (0, x7)] [(0, v)] σ2 :=
  j_call (m := 0) (js_caV q_254_56 (js_Mo qy_254 qm_12_505)) (js_agV (av := [(0, z1), (0, z2), (0, z3)]) (st := []) rfl rfl js_o83 rfl) rfl rfl (by rw [ql_251]; exact Nat.le_of_ble_eq_true rfl) (Nat.le_of_ble_eq_true rfl) hd hz
theorem b_254_59 {E : js_E} {d : Nat} {σ : js_S} {x1 x2 x3 x4 x6 x7 z0 : Int} : js_J E d 254 59 [(2, 83), (0, x1), (0, x2), (0, x3), (1, x4), (9, 0), (0, x6), (0, x7)] [(0, z0)] σ = (if 0 ≤ js_w x7 ∧ js_w x7 < 66000 then js_J E d 254 21 [(2, 83), (0, x1), (0, x2), (0, x3), (1, x4), (9, 0), (0, x6 + 1), (0, σ 107 (js_w x7))] [] σ else none) :=
  (j_pop0 q_254_59).trans <| (j_iinc (l2 := [(2, 83), (0, x1), (0, x2), (0, x3), (1, x4), (9, 0), (0, x6 + 1), (0, x7)]) q_254_60 rfl rfl).trans <| (j_aload_n q_254_63 rfl).trans <| (j_get (ji := 41) (v := (2, 107)) q_254_64 (js_Fo qy_254 qf_12_190) js_o83 rfl rfl rfl rfl).trans <| (j_iload q_254_67 rfl).trans <| (j_iaload q_254_69 js_o107).trans <| js_itp fun g0 => (j_istore (l2 := [(2, 83), (0, x1), (0, x2), (0, x3), (1, x4), (9, 0), (0, x6 + 1), (0, σ 107 (js_w x7))]) q_254_70 rfl (Nat.le_of_ble_eq_true rfl)).trans <| (j_goto (t := 21) q_254_72 rfl).trans <| rfl
theorem b_254_86 {E : js_E} {d : Nat} {σ : js_S} {x1 x2 x3 x4 x6 x7 : Int} : js_J E d 254 86 [(2, 83), (0, x1), (0, x2), (0, x3), (1, x4), (9, 0), (0, x6), (0, x7)] [] σ = (if js_w x7 < 0 then (if 0 ≤ js_w x3 ∧ js_w x3 < 400 then js_J E d 254 144 [(2, 83), (0, x1), (0, x2), (0, x3), (1, x4), (9, 0), (0, x6), (0, x7)] [(0, 0), (0, σ 90 (js_w x3)), (0, 27), (2, 83)] σ else none) else js_J E d 254 98 [(2, 83), (0, x1), (0, x2), (0, x3), (1, x4), (9, 0), (0, x6), (0, x7)] [(0, x7), (0, x2 + x6), (2, 83)] σ) :=
  (j_iload q_254_86 rfl).trans <| (j_iflt (t := 134) q_254_88 rfl).trans (js_ite ((j_aload_n q_254_134 rfl).trans <| (j_bi q_254_135 rfl).trans <| (j_aload_n q_254_137 rfl).trans <| (j_get (ji := 16) (v := (2, 90)) q_254_138 (js_Fo qy_254 qf_12_111) js_o83 rfl rfl rfl rfl).trans <| (j_iload_n q_254_141 rfl).trans <| (j_iaload q_254_142 js_o90).trans <| js_itp fun g0 => (j_iconst q_254_143).trans <| rfl) ((j_aload_n q_254_91 rfl).trans <| (j_iload_n q_254_92 rfl).trans <| (j_iload q_254_93 rfl).trans <| (j_iadd q_254_95).trans <| (j_iload q_254_96 rfl).trans <| rfl))
theorem k_254_98 {E : js_E} {d : Nat} {σ σ2 : js_S} {x1 x2 x3 x4 x6 x7 z1 z2 : Int} (hd : 1 ≤ d) (hz : js_J E (d - 1) 256 0 [(2, 83), (0, z1), (0, z2)] [] σ = js_r0 E σ2) : js_J E d 254 98 [(2, 83), (0, x1), (0, x2), (0, x3), (1, x4), (9, 0), (0, x6), (0, x7)] [(0, z2), (0, z1), (2, 83)] σ = js_J E d 254 101 [(2, 83), (0, x1), (0, x2), (0, x3), (1, x4), (9, 0), (0, x6), (0, x7)] [] σ2 :=
  j_call0 (m := 0) (js_caV q_254_98 (js_Mo qy_254 qm_12_514)) (js_agV (av := [(0, z1), (0, z2)]) (st := []) rfl rfl js_o83 rfl) rfl rfl (by rw [ql_256]; exact Nat.le_of_ble_eq_true rfl) (Nat.le_of_ble_eq_true rfl) hd hz
theorem b_254_101 {E : js_E} {d : Nat} {σ : js_S} {x1 x2 x3 x4 x6 x7 : Int} : js_J E d 254 101 [(2, 83), (0, x1), (0, x2), (0, x3), (1, x4), (9, 0), (0, x6), (0, x7)] [] σ = (if 0 ≤ js_w ((x3 + 1) + x6) ∧ js_w ((x3 + 1) + x6) < 400 then js_J E d 254 115 [(2, 83), (0, x1), (0, x2), (0, x3), (1, x4), (9, 0), (0, x6), (0, x7)] [(0, 0), (0, σ 90 (js_w ((x3 + 1) + x6))), (0, 2), (2, 83)] σ else none) :=
  (j_aload_n q_254_101 rfl).trans <| (j_iconst q_254_102).trans <| (j_aload_n q_254_103 rfl).trans <| (j_get (ji := 16) (v := (2, 90)) q_254_104 (js_Fo qy_254 qf_12_111) js_o83 rfl rfl rfl rfl).trans <| (j_iload_n q_254_107 rfl).trans <| (j_iconst q_254_108).trans <| (j_iadd q_254_109).trans <| (j_iload q_254_110 rfl).trans <| (j_iadd q_254_112).trans <| (j_iaload q_254_113 js_o90).trans <| js_itp fun g0 => (j_iconst q_254_114).trans <| rfl
theorem k_254_115 {E : js_E} {d : Nat} {σ σ2 : js_S} {x1 x2 x3 x4 x6 x7 z1 z2 z3 : Int} {v : Int} (hd : 1 ≤ d) (hz : js_J E (d - 1) 251 0 [(2, 83), (0, z1), (0, z2), (0, z3)] [] σ = js_r E (0, v) σ2) : js_J E d 254 115 [(2, 83), (0, x1), (0, x2), (0, x3), (1, x4), (9, 0), (0, x6), (0, x7)] [(0, z3), (0, z2), (0, z1), (2, 83)] σ = js_J E d 254 118 [(2, 83), (0, x1), (0, x2), (0, x3), (1, x4), (9, 0), (0, x6), (0, x7)] [(0, v)] σ2 :=
  j_call (m := 0) (js_caV q_254_115 (js_Mo qy_254 qm_12_505)) (js_agV (av := [(0, z1), (0, z2), (0, z3)]) (st := []) rfl rfl js_o83 rfl) rfl rfl (by rw [ql_251]; exact Nat.le_of_ble_eq_true rfl) (Nat.le_of_ble_eq_true rfl) hd hz
theorem b_254_118 {E : js_E} {d : Nat} {σ : js_S} {x1 x2 x3 x4 x6 x7 z0 : Int} : js_J E d 254 118 [(2, 83), (0, x1), (0, x2), (0, x3), (1, x4), (9, 0), (0, x6), (0, x7)] [(0, z0)] σ = (if 0 ≤ js_w x7 ∧ js_w x7 < 66000 then js_J E d 254 86 [(2, 83), (0, x1), (0, x2), (0, x3), (1, x4), (9, 0), (0, x6 + 1), (0, σ 107 (js_w x7))] [] σ else none) :=
  (j_pop0 q_254_118).trans <| (j_iinc (l2 := [(2, 83), (0, x1), (0, x2), (0, x3), (1, x4), (9, 0), (0, x6 + 1), (0, x7)]) q_254_119 rfl rfl).trans <| (j_aload_n q_254_122 rfl).trans <| (j_get (ji := 41) (v := (2, 107)) q_254_123 (js_Fo qy_254 qf_12_190) js_o83 rfl rfl rfl rfl).trans <| (j_iload q_254_126 rfl).trans <| (j_iaload q_254_128 js_o107).trans <| js_itp fun g0 => (j_istore (l2 := [(2, 83), (0, x1), (0, x2), (0, x3), (1, x4), (9, 0), (0, x6 + 1), (0, σ 107 (js_w x7))]) q_254_129 rfl (Nat.le_of_ble_eq_true rfl)).trans <| (j_goto (t := 86) q_254_131 rfl).trans <| rfl
theorem k_254_144 {E : js_E} {d : Nat} {σ σ2 : js_S} {x1 x2 x3 x4 x6 x7 z1 z2 z3 : Int} {v : Int} (hd : 1 ≤ d) (hz : js_J E (d - 1) 251 0 [(2, 83), (0, z1), (0, z2), (0, z3)] [] σ = js_r E (0, v) σ2) : js_J E d 254 144 [(2, 83), (0, x1), (0, x2), (0, x3), (1, x4), (9, 0), (0, x6), (0, x7)] [(0, z3), (0, z2), (0, z1), (2, 83)] σ = js_J E d 254 147 [(2, 83), (0, x1), (0, x2), (0, x3), (1, x4), (9, 0), (0, x6), (0, x7)] [(0, v)] σ2 :=
  j_call (m := 0) (js_caV q_254_144 (js_Mo qy_254 qm_12_505)) (js_agV (av := [(0, z1), (0, z2), (0, z3)]) (st := []) rfl rfl js_o83 rfl) rfl rfl (by rw [ql_251]; exact Nat.le_of_ble_eq_true rfl) (Nat.le_of_ble_eq_true rfl) hd hz
theorem b_254_147 {E : js_E} {d : Nat} {σ : js_S} {x1 x2 x3 x4 x6 x7 z0 : Int} : js_J E d 254 147 [(2, 83), (0, x1), (0, x2), (0, x3), (1, x4), (9, 0), (0, x6), (0, x7)] [(0, z0)] σ = (if 0 ≤ js_w x3 ∧ js_w x3 < 400 then js_J E d 254 160 [(2, 83), (0, x1), (0, x2), (0, x3), (1, x4), (9, 0), (0, x6), (0, x7)] [(1, (x4 + 1) + (js_w (σ 95 (js_w x3))))] σ else none) :=
  (j_pop0 q_254_147).trans <| (j_lload q_254_148 rfl).trans <| (j_lconst1 q_254_150).trans <| (j_ladd q_254_151).trans <| (j_aload_n q_254_152 rfl).trans <| (j_get (ji := 21) (v := (2, 95)) q_254_153 (js_Fo qy_254 qf_12_129) js_o83 rfl rfl rfl rfl).trans <| (j_iload_n q_254_156 rfl).trans <| (j_iaload q_254_157 js_o95).trans <| js_itp fun g0 => (j_i2l q_254_158).trans <| (j_ladd q_254_159).trans <| rfl
theorem k_254_160 {E : js_E} {d : Nat} {σ σ2 : js_S} {x1 x2 x3 x4 x6 x7 z0 : Int} {v : Int} (hd : 1 ≤ d) (hz : js_J E (d - 1) 253 0 [(1, z0), (9, 0)] [] σ = js_r E (1, v) σ2) : js_J E d 254 160 [(2, 83), (0, x1), (0, x2), (0, x3), (1, x4), (9, 0), (0, x6), (0, x7)] [(1, z0)] σ = js_J E d 254 163 [(2, 83), (0, x1), (0, x2), (0, x3), (1, x4), (9, 0), (0, x6), (0, x7)] [(1, v)] σ2 :=
  j_call (m := 0) (js_caS q_254_160 (js_Mo qy_254 qm_12_520)) (js_agS (av := [(1, z0)]) (st := []) rfl rfl) rfl rfl (by rw [ql_253]; exact Nat.le_of_ble_eq_true rfl) (Nat.le_of_ble_eq_true rfl) hd hz
theorem b_254_163 {E : js_E} {d : Nat} {σ : js_S} {x1 x2 x3 x4 x6 x7 z0 : Int} : js_J E d 254 163 [(2, 83), (0, x1), (0, x2), (0, x3), (1, x4), (9, 0), (0, x6), (0, x7)] [(1, z0)] σ = js_r E (1, z0) σ :=
  j_lreturn q_254_163 qr_254
-- 255: VitalTwinModel.temp (I)I
theorem b_255_0 {E : js_E} {d : Nat} {σ : js_S} {x1 : Int} : js_J E d 255 0 [(2, 83), (0, x1)] [] σ = (if js_w x1 < js_w (σ 83 54) then js_J E d 255 15 [(2, 83), (0, x1)] [] σ else js_J E d 255 15 [(2, 83), (0, x1)] [] (js_up σ 83 54 (x1 + 1))) :=
  (j_iload_n q_255_0 rfl).trans <| (j_aload_n q_255_1 rfl).trans <| (j_get (ji := 54) (v := (0, σ 83 54)) q_255_2 (js_Fo qy_255 qf_12_487) js_o83 rfl rfl rfl rfl).trans <| (j_cmplt (t := 15) q_255_5 rfl).trans (js_ite (rfl) ((j_aload_n q_255_8 rfl).trans <| (j_iload_n q_255_9 rfl).trans <| (j_iconst q_255_10).trans <| (j_iadd q_255_11).trans <| (j_putI (ji := 54) q_255_12 (js_Fo qy_255 qf_12_487) rfl js_o83 rfl rfl rfl).trans <| rfl))
theorem b_255_15 {E : js_E} {d : Nat} {σ : js_S} {x1 : Int} : js_J E d 255 15 [(2, 83), (0, x1)] [] σ = js_r E (0, (σ 83 53) + x1) σ :=
  (j_aload_n q_255_15 rfl).trans <| (j_get (ji := 53) (v := (0, σ 83 53)) q_255_16 (js_Fo qy_255 qf_12_490) js_o83 rfl rfl rfl rfl).trans <| (j_iload_n q_255_19 rfl).trans <| (j_iadd q_255_20).trans <| j_ireturn q_255_21 qr_255
-- 256: VitalTwinModel.load (II)V
theorem b_256_0 {E : js_E} {d : Nat} {σ : js_S} {x1 x2 : Int} : js_J E d 256 0 [(2, 83), (0, x1), (0, x2)] [] σ = js_J E d 256 4 [(2, 83), (0, x1), (0, x2)] [(0, x1), (2, 83), (0, 1), (2, 83)] σ :=
  (j_aload_n q_256_0 rfl).trans <| (j_iconst q_256_1).trans <| (j_aload_n q_256_2 rfl).trans <| (j_iload_n q_256_3 rfl).trans <| rfl
theorem k_256_4 {E : js_E} {d : Nat} {σ σ2 : js_S} {x1 x2 z1 z3 : Int} {v : Int} (hd : 1 ≤ d) (hz : js_J E (d - 1) 255 0 [(2, 83), (0, z3)] [] σ = js_r E (0, v) σ2) : js_J E d 256 4 [(2, 83), (0, x1), (0, x2)] [(0, z3), (2, 83), (0, z1), (2, 83)] σ = js_J E d 256 7 [(2, 83), (0, x1), (0, x2)] [(0, v), (0, z1), (2, 83)] σ2 :=
  j_call (m := 0) (js_caV q_256_4 (js_Mo qy_256 qm_12_493)) (js_agV (av := [(0, z3)]) (st := [(0, z1), (2, 83)]) rfl rfl js_o83 rfl) rfl rfl (by rw [ql_255]; exact Nat.le_of_ble_eq_true rfl) (Nat.le_of_ble_eq_true rfl) hd hz
theorem b_256_7 {E : js_E} {d : Nat} {σ : js_S} {x1 x2 z1 z2 : Int} : js_J E d 256 7 [(2, 83), (0, x1), (0, x2)] [(0, z2), (0, z1), (2, 83)] σ = (if 0 ≤ js_w x2 ∧ js_w x2 < 66000 then js_J E d 256 22 [(2, 83), (0, x1), (0, x2)] [(1, js_w (σ 106 (js_w x2))), (1, js_w (σ 105 (js_w x2))), (0, 0), (0, z2), (0, z1), (2, 83)] σ else none) :=
  (j_iconst q_256_7).trans <| (j_aload_n q_256_8 rfl).trans <| (j_get (ji := 39) (v := (2, 105)) q_256_9 (js_Fo qy_256 qf_12_175) js_o83 rfl rfl rfl rfl).trans <| (j_iload_n q_256_12 rfl).trans <| (j_iaload q_256_13 js_o105).trans <| js_itp fun g0 => (j_i2l q_256_14).trans <| (j_aload_n q_256_15 rfl).trans <| (j_get (ji := 40) (v := (2, 106)) q_256_16 (js_Fo qy_256 qf_12_178) js_o83 rfl rfl rfl rfl).trans <| (j_iload_n q_256_19 rfl).trans <| (j_iaload q_256_20 js_o106).trans <| (if_pos g0).trans <| (j_i2l q_256_21).trans <| rfl
theorem k_256_22 {E : js_E} {d : Nat} {σ σ2 : js_S} {x1 x2 z1 z2 z3 z4 z5 : Int} {v : Int} (hd : 1 ≤ d) (hz : js_J E (d - 1) 250 0 [(2, 83), (0, z1), (0, z2), (0, z3), (1, z4), (9, 0), (1, z5), (9, 0)] [] σ = js_r E (0, v) σ2) : js_J E d 256 22 [(2, 83), (0, x1), (0, x2)] [(1, z5), (1, z4), (0, z3), (0, z2), (0, z1), (2, 83)] σ = js_J E d 256 25 [(2, 83), (0, x1), (0, x2)] [(0, v)] σ2 :=
  j_call (m := 0) (js_caV q_256_22 (js_Mo qy_256 qm_12_483)) (js_agV (av := [(0, z1), (0, z2), (0, z3), (1, z4), (1, z5)]) (st := []) rfl rfl js_o83 rfl) rfl rfl (by rw [ql_250]; exact Nat.le_of_ble_eq_true rfl) (Nat.le_of_ble_eq_true rfl) hd hz
theorem b_256_25 {E : js_E} {d : Nat} {σ : js_S} {x1 x2 z0 : Int} : js_J E d 256 25 [(2, 83), (0, x1), (0, x2)] [(0, z0)] σ = js_r0 E σ :=
  (j_pop0 q_256_25).trans <| j_return q_256_26 qr_256
-- 257: VitalTwinModel.genCase (II)J
theorem b_257_0 {E : js_E} {d : Nat} {σ : js_S} {x1 x2 : Int} : js_J E d 257 0 [(2, 83), (0, x1), (0, x2), (9, 0), (9, 0), (9, 0), (9, 0), (9, 0), (9, 0), (9, 0), (9, 0), (9, 0), (9, 0), (9, 0), (9, 0)] [] σ = (if 0 ≤ js_w x1 ∧ js_w x1 < 66000 then js_J E d 257 10 [(2, 83), (0, x1), (0, x2), (0, σ 102 (js_w x1)), (9, 0), (9, 0), (9, 0), (9, 0), (9, 0), (9, 0), (9, 0), (9, 0), (9, 0), (9, 0), (9, 0)] [(0, x2), (0, σ 102 (js_w x1)), (2, 83)] σ else none) :=
  (j_aload_n q_257_0 rfl).trans <| (j_get (ji := 36) (v := (2, 102)) q_257_1 (js_Fo qy_257 qf_12_181) js_o83 rfl rfl rfl rfl).trans <| (j_iload_n q_257_4 rfl).trans <| (j_iaload q_257_5 js_o102).trans <| js_itp fun g0 => (j_istore_n (l2 := [(2, 83), (0, x1), (0, x2), (0, σ 102 (js_w x1)), (9, 0), (9, 0), (9, 0), (9, 0), (9, 0), (9, 0), (9, 0), (9, 0), (9, 0), (9, 0), (9, 0)]) q_257_6 rfl (Nat.le_of_ble_eq_true rfl)).trans <| (j_aload_n q_257_7 rfl).trans <| (j_iload_n q_257_8 rfl).trans <| (j_iload_n q_257_9 rfl).trans <| rfl
theorem k_257_10 {E : js_E} {d : Nat} {σ σ2 : js_S} {x1 x2 x3 z1 z2 : Int} {v : Int} (hd : 1 ≤ d) (hz : js_J E (d - 1) 248 0 [(2, 83), (0, z1), (0, z2), (9, 0), (9, 0), (9, 0), (9, 0), (9, 0)] [] σ = js_r E (1, v) σ2) : js_J E d 257 10 [(2, 83), (0, x1), (0, x2), (0, x3), (9, 0), (9, 0), (9, 0), (9, 0), (9, 0), (9, 0), (9, 0), (9, 0), (9, 0), (9, 0), (9, 0)] [(0, z2), (0, z1), (2, 83)] σ = js_J E d 257 13 [(2, 83), (0, x1), (0, x2), (0, x3), (9, 0), (9, 0), (9, 0), (9, 0), (9, 0), (9, 0), (9, 0), (9, 0), (9, 0), (9, 0), (9, 0)] [(1, v)] σ2 :=
  j_call (m := 5) (js_caV q_257_10 (js_Mo qy_257 qm_12_511)) (js_agV (av := [(0, z1), (0, z2)]) (st := []) rfl rfl js_o83 rfl) rfl rfl (by rw [ql_248]; exact Nat.le_of_ble_eq_true rfl) (Nat.le_of_ble_eq_true rfl) hd hz
theorem b_257_13 {E : js_E} {d : Nat} {σ : js_S} {x1 x2 x3 z0 : Int} : js_J E d 257 13 [(2, 83), (0, x1), (0, x2), (0, x3), (9, 0), (9, 0), (9, 0), (9, 0), (9, 0), (9, 0), (9, 0), (9, 0), (9, 0), (9, 0), (9, 0)] [(1, z0)] σ = js_J E d 257 21 [(2, 83), (0, x1), (0, x2), (0, x3), (1, z0 + 1), (9, 0), (9, 0), (9, 0), (9, 0), (9, 0), (9, 0), (9, 0), (9, 0), (9, 0), (9, 0)] [(0, x2), (2, 83), (0, 2), (2, 83)] σ :=
  (j_lconst1 q_257_13).trans <| (j_ladd q_257_14).trans <| (j_lstore (l2 := [(2, 83), (0, x1), (0, x2), (0, x3), (1, z0 + 1), (9, 0), (9, 0), (9, 0), (9, 0), (9, 0), (9, 0), (9, 0), (9, 0), (9, 0), (9, 0)]) q_257_15 rfl (Nat.le_of_ble_eq_true rfl)).trans <| (j_aload_n q_257_17 rfl).trans <| (j_iconst q_257_18).trans <| (j_aload_n q_257_19 rfl).trans <| (j_iload_n q_257_20 rfl).trans <| rfl
theorem k_257_21 {E : js_E} {d : Nat} {σ σ2 : js_S} {x1 x2 x3 x4 z1 z3 : Int} {v : Int} (hd : 1 ≤ d) (hz : js_J E (d - 1) 255 0 [(2, 83), (0, z3)] [] σ = js_r E (0, v) σ2) : js_J E d 257 21 [(2, 83), (0, x1), (0, x2), (0, x3), (1, x4), (9, 0), (9, 0), (9, 0), (9, 0), (9, 0), (9, 0), (9, 0), (9, 0), (9, 0), (9, 0)] [(0, z3), (2, 83), (0, z1), (2, 83)] σ = js_J E d 257 24 [(2, 83), (0, x1), (0, x2), (0, x3), (1, x4), (9, 0), (9, 0), (9, 0), (9, 0), (9, 0), (9, 0), (9, 0), (9, 0), (9, 0), (9, 0)] [(0, v), (0, z1), (2, 83)] σ2 :=
  j_call (m := 0) (js_caV q_257_21 (js_Mo qy_257 qm_12_493)) (js_agV (av := [(0, z3)]) (st := [(0, z1), (2, 83)]) rfl rfl js_o83 rfl) rfl rfl (by rw [ql_255]; exact Nat.le_of_ble_eq_true rfl) (Nat.le_of_ble_eq_true rfl) hd hz
theorem b_257_24 {E : js_E} {d : Nat} {σ : js_S} {x1 x2 x3 x4 z1 z2 : Int} : js_J E d 257 24 [(2, 83), (0, x1), (0, x2), (0, x3), (1, x4), (9, 0), (9, 0), (9, 0), (9, 0), (9, 0), (9, 0), (9, 0), (9, 0), (9, 0), (9, 0)] [(0, z2), (0, z1), (2, 83)] σ = js_J E d 257 25 [(2, 83), (0, x1), (0, x2), (0, x3), (1, x4), (9, 0), (9, 0), (9, 0), (9, 0), (9, 0), (9, 0), (9, 0), (9, 0), (9, 0), (9, 0)] [(0, 0), (0, z2), (0, z1), (2, 83)] σ :=
  (j_iconst q_257_24).trans <| rfl
theorem k_257_25 {E : js_E} {d : Nat} {σ σ2 : js_S} {x1 x2 x3 x4 z1 z2 z3 : Int} {v : Int} (hd : 1 ≤ d) (hz : js_J E (d - 1) 251 0 [(2, 83), (0, z1), (0, z2), (0, z3)] [] σ = js_r E (0, v) σ2) : js_J E d 257 25 [(2, 83), (0, x1), (0, x2), (0, x3), (1, x4), (9, 0), (9, 0), (9, 0), (9, 0), (9, 0), (9, 0), (9, 0), (9, 0), (9, 0), (9, 0)] [(0, z3), (0, z2), (0, z1), (2, 83)] σ = js_J E d 257 28 [(2, 83), (0, x1), (0, x2), (0, x3), (1, x4), (9, 0), (9, 0), (9, 0), (9, 0), (9, 0), (9, 0), (9, 0), (9, 0), (9, 0), (9, 0)] [(0, v)] σ2 :=
  j_call (m := 0) (js_caV q_257_25 (js_Mo qy_257 qm_12_505)) (js_agV (av := [(0, z1), (0, z2), (0, z3)]) (st := []) rfl rfl js_o83 rfl) rfl rfl (by rw [ql_251]; exact Nat.le_of_ble_eq_true rfl) (Nat.le_of_ble_eq_true rfl) hd hz
theorem b_257_28 {E : js_E} {d : Nat} {σ : js_S} {x1 x2 x3 x4 z0 : Int} : js_J E d 257 28 [(2, 83), (0, x1), (0, x2), (0, x3), (1, x4), (9, 0), (9, 0), (9, 0), (9, 0), (9, 0), (9, 0), (9, 0), (9, 0), (9, 0), (9, 0)] [(0, z0)] σ = (if 0 ≤ js_w x1 ∧ js_w x1 < 66000 then js_J E d 257 43 [(2, 83), (0, x1), (0, x2), (0, x3), (1, x4), (9, 0), (1, 0), (9, 0), (0, (-1)), (0, σ 103 (js_w x1)), (9, 0), (9, 0), (9, 0), (9, 0), (9, 0)] [] σ else none) :=
  (j_pop0 q_257_28).trans <| (j_lconst0 q_257_29).trans <| (j_lstore (l2 := [(2, 83), (0, x1), (0, x2), (0, x3), (1, x4), (9, 0), (1, 0), (9, 0), (9, 0), (9, 0), (9, 0), (9, 0), (9, 0), (9, 0), (9, 0)]) q_257_30 rfl (Nat.le_of_ble_eq_true rfl)).trans <| (j_iconst q_257_32).trans <| (j_istore (l2 := [(2, 83), (0, x1), (0, x2), (0, x3), (1, x4), (9, 0), (1, 0), (9, 0), (0, (-1)), (9, 0), (9, 0), (9, 0), (9, 0), (9, 0), (9, 0)]) q_257_33 rfl (Nat.le_of_ble_eq_true rfl)).trans <| (j_aload_n q_257_35 rfl).trans <| (j_get (ji := 37) (v := (2, 103)) q_257_36 (js_Fo qy_257 qf_12_184) js_o83 rfl rfl rfl rfl).trans <| (j_iload_n q_257_39 rfl).trans <| (j_iaload q_257_40 js_o103).trans <| js_itp fun g0 => (j_istore (l2 := [(2, 83), (0, x1), (0, x2), (0, x3), (1, x4), (9, 0), (1, 0), (9, 0), (0, (-1)), (0, σ 103 (js_w x1)), (9, 0), (9, 0), (9, 0), (9, 0), (9, 0)]) q_257_41 rfl (Nat.le_of_ble_eq_true rfl)).trans <| rfl
theorem b_257_43 {E : js_E} {d : Nat} {σ : js_S} {x1 x2 x3 x4 x6 x8 x9 : Int} {ux10 ux11 ux12 ux13 : js_v} : js_J E d 257 43 [(2, 83), (0, x1), (0, x2), (0, x3), (1, x4), (9, 0), (1, x6), (9, 0), (0, x8), (0, x9), ux10, ux11, ux12, ux13, (9, 0)] [] σ = (if js_w x9 < 0 then (if 0 ≤ js_w x1 ∧ js_w x1 < 66000 then (if js_w (σ 101 (js_w x1)) = 1 then js_J E d 257 234 [(2, 83), (0, x1), (0, x2), (0, x3), (1, x4), (9, 0), (1, x6), (9, 0), (0, x8), (0, x9), ux10, ux11, ux12, ux13, (9, 0)] [(0, x2 + 1), (0, σ 104 (js_w x1)), (2, 83), (1, x4)] σ else js_J E d 257 243 [(2, 83), (0, x1), (0, x2), (0, x3), (1, x4), (9, 0), (1, x6), (9, 0), (0, x8), (0, x9), ux10, ux11, ux12, ux13, (9, 0)] [] σ) else none) else (if 0 ≤ js_w x9 ∧ js_w x9 < 66000 then (if js_w (σ 101 (js_w x9)) = 1 then js_J E d 257 64 [(2, 83), (0, x1), (0, x2), (0, x3), (1, x4), (9, 0), (1, x6), (9, 0), (0, x8), (0, x9), ux10, ux11, ux12, ux13, (9, 0)] [(0, 1)] σ else js_J E d 257 64 [(2, 83), (0, x1), (0, x2), (0, x3), (1, x4), (9, 0), (1, x6), (9, 0), (0, x8), (0, x9), ux10, ux11, ux12, ux13, (9, 0)] [(0, 0)] σ) else none)) :=
  (j_iload q_257_43 rfl).trans <| (j_iflt (t := 212) q_257_45 rfl).trans (js_ite ((j_aload_n q_257_212 rfl).trans <| (j_get (ji := 35) (v := (2, 101)) q_257_213 (js_Fo qy_257 qf_12_172) js_o83 rfl rfl rfl rfl).trans <| (j_iload_n q_257_216 rfl).trans <| (j_iaload q_257_217 js_o101).trans <| js_itp fun g0 => (j_iconst q_257_218).trans <| (j_cmpneB (t := 243) q_257_219 rfl ww_1).trans (js_ite ((j_lload q_257_222 rfl).trans <| (j_aload_n q_257_224 rfl).trans <| (j_aload_n q_257_225 rfl).trans <| (j_get (ji := 38) (v := (2, 104)) q_257_226 (js_Fo qy_257 qf_12_187) js_o83 rfl rfl rfl rfl).trans <| (j_iload_n q_257_229 rfl).trans <| (j_iaload q_257_230 js_o104).trans <| (if_pos g0).trans <| (j_iload_n q_257_231 rfl).trans <| (j_iconst q_257_232).trans <| (j_iadd q_257_233).trans <| rfl) (rfl))) ((j_aload_n q_257_48 rfl).trans <| (j_get (ji := 35) (v := (2, 101)) q_257_49 (js_Fo qy_257 qf_12_172) js_o83 rfl rfl rfl rfl).trans <| (j_iload q_257_52 rfl).trans <| (j_iaload q_257_54 js_o101).trans <| js_itp fun g0 => (j_iconst q_257_55).trans <| (j_cmpneB (t := 63) q_257_56 rfl ww_1).trans (js_ite ((j_iconst q_257_59).trans <| (j_goto (t := 64) q_257_60 rfl).trans <| rfl) ((j_iconst q_257_63).trans <| rfl))))
theorem b_257_64 {E : js_E} {d : Nat} {σ : js_S} {x1 x2 x3 x4 x6 x8 x9 z0 : Int} {ux10 ux11 ux12 ux13 : js_v} : js_J E d 257 64 [(2, 83), (0, x1), (0, x2), (0, x3), (1, x4), (9, 0), (1, x6), (9, 0), (0, x8), (0, x9), ux10, ux11, ux12, ux13, (9, 0)] [(0, z0)] σ = (if 0 ≤ js_w x9 ∧ js_w x9 < 66000 then (if js_w z0 = 0 then js_J E d 257 88 [(2, 83), (0, x1), (0, x2), (0, x3), (1, x4), (9, 0), (1, x6), (9, 0), (0, x8), (0, x9), (0, z0), ux11, ux12, ux13, (9, 0)] [(0, 17), (0, σ 105 (js_w x9)), (2, 83), (1, x4)] σ else js_J E d 257 88 [(2, 83), (0, x1), (0, x2), (0, x3), (1, x4), (9, 0), (1, x6), (9, 0), (0, x8), (0, x9), (0, z0), ux11, ux12, ux13, (9, 0)] [(0, 16), (0, σ 105 (js_w x9)), (2, 83), (1, x4)] σ) else none) :=
  (j_istore (l2 := [(2, 83), (0, x1), (0, x2), (0, x3), (1, x4), (9, 0), (1, x6), (9, 0), (0, x8), (0, x9), (0, z0), ux11, ux12, ux13, (9, 0)]) q_257_64 rfl (Nat.le_of_ble_eq_true rfl)).trans <| (j_lload q_257_66 rfl).trans <| (j_aload_n q_257_68 rfl).trans <| (j_aload_n q_257_69 rfl).trans <| (j_get (ji := 39) (v := (2, 105)) q_257_70 (js_Fo qy_257 qf_12_175) js_o83 rfl rfl rfl rfl).trans <| (j_iload q_257_73 rfl).trans <| (j_iaload q_257_75 js_o105).trans <| js_itp fun g0 => (j_iload q_257_76 rfl).trans <| (j_ifeq (t := 86) q_257_78 rfl).trans (js_ite ((j_bi q_257_86 rfl).trans <| rfl) ((j_bi q_257_81 rfl).trans <| (j_goto (t := 88) q_257_83 rfl).trans <| rfl))
theorem b_257_88 {E : js_E} {d : Nat} {σ : js_S} {x1 x2 x3 x4 x6 x8 x9 x10 z0 z2 z3 : Int} {ux11 ux12 ux13 : js_v} : js_J E d 257 88 [(2, 83), (0, x1), (0, x2), (0, x3), (1, x4), (9, 0), (1, x6), (9, 0), (0, x8), (0, x9), (0, x10), ux11, ux12, ux13, (9, 0)] [(0, z3), (0, z2), (2, 83), (1, z0)] σ = js_J E d 257 91 [(2, 83), (0, x1), (0, x2), (0, x3), (1, x4), (9, 0), (1, x6), (9, 0), (0, x8), (0, x9), (0, x10), ux11, ux12, ux13, (9, 0)] [(0, 0), (0, x2), (0, x3), (0, z3), (0, z2), (2, 83), (1, z0)] σ :=
  (j_iload_n q_257_88 rfl).trans <| (j_iload_n q_257_89 rfl).trans <| (j_iconst q_257_90).trans <| rfl
theorem k_257_91 {E : js_E} {d : Nat} {σ σ2 : js_S} {x1 x2 x3 x4 x6 x8 x9 x10 z0 z2 z3 z4 z5 z6 : Int} {ux11 ux12 ux13 : js_v} {v : Int} (hd : 1 ≤ d) (hz : js_J E (d - 1) 258 0 [(2, 83), (0, z2), (0, z3), (0, z4), (0, z5), (0, z6)] [] σ = js_r E (1, v) σ2) : js_J E d 257 91 [(2, 83), (0, x1), (0, x2), (0, x3), (1, x4), (9, 0), (1, x6), (9, 0), (0, x8), (0, x9), (0, x10), ux11, ux12, ux13, (9, 0)] [(0, z6), (0, z5), (0, z4), (0, z3), (0, z2), (2, 83), (1, z0)] σ = js_J E d 257 94 [(2, 83), (0, x1), (0, x2), (0, x3), (1, x4), (9, 0), (1, x6), (9, 0), (0, x8), (0, x9), (0, x10), ux11, ux12, ux13, (9, 0)] [(1, v), (1, z0)] σ2 :=
  j_call (m := 0) (js_caV q_257_91 (js_Mo qy_257 qm_12_546)) (js_agV (av := [(0, z2), (0, z3), (0, z4), (0, z5), (0, z6)]) (st := [(1, z0)]) rfl rfl js_o83 rfl) rfl rfl (by rw [ql_258]; exact Nat.le_of_ble_eq_true rfl) (Nat.le_of_ble_eq_true rfl) hd hz
theorem b_257_94 {E : js_E} {d : Nat} {σ : js_S} {x1 x2 x3 x4 x6 x8 x9 x10 z0 z1 : Int} {ux11 ux12 ux13 : js_v} : js_J E d 257 94 [(2, 83), (0, x1), (0, x2), (0, x3), (1, x4), (9, 0), (1, x6), (9, 0), (0, x8), (0, x9), (0, x10), ux11, ux12, ux13, (9, 0)] [(1, z1), (1, z0)] σ = (if js_w x10 = 0 then js_J E d 257 142 [(2, 83), (0, x1), (0, x2), (0, x3), (1, z0 + z1), (9, 0), (1, x6), (9, 0), (0, x8), (0, x9), (0, x10), (0, (σ 83 49) - 1), (0, (-1)), ux13, (9, 0)] [] σ else (if 0 ≤ js_w x9 ∧ js_w x9 < 66000 then js_J E d 257 128 [(2, 83), (0, x1), (0, x2), (0, x3), (1, z0 + z1), (9, 0), (1, x6), (9, 0), (0, x8), (0, x9), (0, x10), (0, (σ 83 49) - 1), (0, (-1)), ux13, (9, 0)] [(0, 0), (0, x2), (0, x3), (0, 14), (0, σ 106 (js_w x9)), (2, 83), (1, z0 + z1)] σ else none)) :=
  (j_ladd q_257_94).trans <| (j_lstore (l2 := [(2, 83), (0, x1), (0, x2), (0, x3), (1, z0 + z1), (9, 0), (1, x6), (9, 0), (0, x8), (0, x9), (0, x10), ux11, ux12, ux13, (9, 0)]) q_257_95 rfl (Nat.le_of_ble_eq_true rfl)).trans <| (j_aload_n q_257_97 rfl).trans <| (j_get (ji := 49) (v := (0, σ 83 49)) q_257_98 (js_Fo qy_257 qf_12_428) js_o83 rfl rfl rfl rfl).trans <| (j_iconst q_257_101).trans <| (j_isub q_257_102).trans <| (j_istore (l2 := [(2, 83), (0, x1), (0, x2), (0, x3), (1, z0 + z1), (9, 0), (1, x6), (9, 0), (0, x8), (0, x9), (0, x10), (0, (σ 83 49) - 1), ux12, ux13, (9, 0)]) q_257_103 rfl (Nat.le_of_ble_eq_true rfl)).trans <| (j_iconst q_257_105).trans <| (j_istore (l2 := [(2, 83), (0, x1), (0, x2), (0, x3), (1, z0 + z1), (9, 0), (1, x6), (9, 0), (0, x8), (0, x9), (0, x10), (0, (σ 83 49) - 1), (0, (-1)), ux13, (9, 0)]) q_257_106 rfl (Nat.le_of_ble_eq_true rfl)).trans <| (j_iload q_257_108 rfl).trans <| (j_ifeq (t := 142) q_257_110 rfl).trans (js_ite (rfl) ((j_lload q_257_113 rfl).trans <| (j_aload_n q_257_115 rfl).trans <| (j_aload_n q_257_116 rfl).trans <| (j_get (ji := 40) (v := (2, 106)) q_257_117 (js_Fo qy_257 qf_12_178) js_o83 rfl rfl rfl rfl).trans <| (j_iload q_257_120 rfl).trans <| (j_iaload q_257_122 js_o106).trans <| js_itp fun g0 => (j_bi q_257_123 rfl).trans <| (j_iload_n q_257_125 rfl).trans <| (j_iload_n q_257_126 rfl).trans <| (j_iconst q_257_127).trans <| rfl))
theorem k_257_128 {E : js_E} {d : Nat} {σ σ2 : js_S} {x1 x2 x3 x4 x6 x8 x9 x10 x11 x12 z0 z2 z3 z4 z5 z6 : Int} {ux13 : js_v} {v : Int} (hd : 1 ≤ d) (hz : js_J E (d - 1) 258 0 [(2, 83), (0, z2), (0, z3), (0, z4), (0, z5), (0, z6)] [] σ = js_r E (1, v) σ2) : js_J E d 257 128 [(2, 83), (0, x1), (0, x2), (0, x3), (1, x4), (9, 0), (1, x6), (9, 0), (0, x8), (0, x9), (0, x10), (0, x11), (0, x12), ux13, (9, 0)] [(0, z6), (0, z5), (0, z4), (0, z3), (0, z2), (2, 83), (1, z0)] σ = js_J E d 257 131 [(2, 83), (0, x1), (0, x2), (0, x3), (1, x4), (9, 0), (1, x6), (9, 0), (0, x8), (0, x9), (0, x10), (0, x11), (0, x12), ux13, (9, 0)] [(1, v), (1, z0)] σ2 :=
  j_call (m := 0) (js_caV q_257_128 (js_Mo qy_257 qm_12_546)) (js_agV (av := [(0, z2), (0, z3), (0, z4), (0, z5), (0, z6)]) (st := [(1, z0)]) rfl rfl js_o83 rfl) rfl rfl (by rw [ql_258]; exact Nat.le_of_ble_eq_true rfl) (Nat.le_of_ble_eq_true rfl) hd hz
theorem b_257_131 {E : js_E} {d : Nat} {σ : js_S} {x1 x2 x3 x4 x6 x8 x9 x10 x11 x12 z0 z1 : Int} {ux13 : js_v} : js_J E d 257 131 [(2, 83), (0, x1), (0, x2), (0, x3), (1, x4), (9, 0), (1, x6), (9, 0), (0, x8), (0, x9), (0, x10), (0, x11), (0, x12), ux13, (9, 0)] [(1, z1), (1, z0)] σ = js_J E d 257 142 [(2, 83), (0, x1), (0, x2), (0, x3), (1, z0 + z1), (9, 0), (1, x6), (9, 0), (0, x8), (0, x9), (0, x10), (0, x11), (0, (σ 83 49) - 1), ux13, (9, 0)] [] σ :=
  (j_ladd q_257_131).trans <| (j_lstore (l2 := [(2, 83), (0, x1), (0, x2), (0, x3), (1, z0 + z1), (9, 0), (1, x6), (9, 0), (0, x8), (0, x9), (0, x10), (0, x11), (0, x12), ux13, (9, 0)]) q_257_132 rfl (Nat.le_of_ble_eq_true rfl)).trans <| (j_aload_n q_257_134 rfl).trans <| (j_get (ji := 49) (v := (0, σ 83 49)) q_257_135 (js_Fo qy_257 qf_12_428) js_o83 rfl rfl rfl rfl).trans <| (j_iconst q_257_138).trans <| (j_isub q_257_139).trans <| (j_istore (l2 := [(2, 83), (0, x1), (0, x2), (0, x3), (1, z0 + z1), (9, 0), (1, x6), (9, 0), (0, x8), (0, x9), (0, x10), (0, x11), (0, (σ 83 49) - 1), ux13, (9, 0)]) q_257_140 rfl (Nat.le_of_ble_eq_true rfl)).trans <| rfl
theorem b_257_142 {E : js_E} {d : Nat} {σ : js_S} {x1 x2 x3 x4 x6 x8 x9 x10 x11 x12 : Int} {ux13 : js_v} : js_J E d 257 142 [(2, 83), (0, x1), (0, x2), (0, x3), (1, x4), (9, 0), (1, x6), (9, 0), (0, x8), (0, x9), (0, x10), (0, x11), (0, x12), ux13, (9, 0)] [] σ = (if 0 ≤ js_w x9 ∧ js_w x9 < 66000 then js_J E d 257 153 [(2, 83), (0, x1), (0, x2), (0, x3), (1, x4), (9, 0), (1, x6), (9, 0), (0, x8), (0, x9), (0, x10), (0, x11), (0, x12), ux13, (9, 0)] [(0, x2 + 1), (0, σ 102 (js_w x9)), (2, 83)] σ else none) :=
  (j_aload_n q_257_142 rfl).trans <| (j_aload_n q_257_143 rfl).trans <| (j_get (ji := 36) (v := (2, 102)) q_257_144 (js_Fo qy_257 qf_12_181) js_o83 rfl rfl rfl rfl).trans <| (j_iload q_257_147 rfl).trans <| (j_iaload q_257_149 js_o102).trans <| js_itp fun g0 => (j_iload_n q_257_150 rfl).trans <| (j_iconst q_257_151).trans <| (j_iadd q_257_152).trans <| rfl
theorem k_257_153 {E : js_E} {d : Nat} {σ σ2 : js_S} {x1 x2 x3 x4 x6 x8 x9 x10 x11 x12 z1 z2 : Int} {ux13 : js_v} {v : Int} (hd : 1 ≤ d) (hz : js_J E (d - 1) 246 0 [(2, 83), (0, z1), (0, z2), (9, 0), (9, 0), (9, 0)] [] σ = js_r E (1, v) σ2) : js_J E d 257 153 [(2, 83), (0, x1), (0, x2), (0, x3), (1, x4), (9, 0), (1, x6), (9, 0), (0, x8), (0, x9), (0, x10), (0, x11), (0, x12), ux13, (9, 0)] [(0, z2), (0, z1), (2, 83)] σ = js_J E d 257 156 [(2, 83), (0, x1), (0, x2), (0, x3), (1, x4), (9, 0), (1, x6), (9, 0), (0, x8), (0, x9), (0, x10), (0, x11), (0, x12), ux13, (9, 0)] [(1, v)] σ2 :=
  j_call (m := 3) (js_caV q_257_153 (js_Mo qy_257 qm_12_550)) (js_agV (av := [(0, z1), (0, z2)]) (st := []) rfl rfl js_o83 rfl) rfl rfl (by rw [ql_246]; exact Nat.le_of_ble_eq_true rfl) (Nat.le_of_ble_eq_true rfl) hd hz
theorem b_257_156 {E : js_E} {d : Nat} {σ : js_S} {x1 x2 x3 x4 x6 x8 x9 x10 x11 x12 z0 : Int} {ux13 : js_v} (hd : 4 ≤ d) : js_J E d 257 156 [(2, 83), (0, x1), (0, x2), (0, x3), (1, x4), (9, 0), (1, x6), (9, 0), (0, x8), (0, x9), (0, x10), (0, x11), (0, x12), ux13, (9, 0)] [(1, z0)] σ = js_J E d 257 178 [(2, 83), (0, x1), (0, x2), (0, x3), (1, x4), (9, 0), (1, if js_l ((x4 + z0) + 1) < js_l x6 then x6 else ((x4 + z0) + 1)), (9, 0), (0, x8), (0, x9), (0, x10), (0, x11), (0, x12), (1, z0), (9, 0)] [(0, 0), (0, x8), (0, 24), (2, 83)] σ :=
  (j_lstore (l2 := [(2, 83), (0, x1), (0, x2), (0, x3), (1, x4), (9, 0), (1, x6), (9, 0), (0, x8), (0, x9), (0, x10), (0, x11), (0, x12), (1, z0), (9, 0)]) q_257_156 rfl (Nat.le_of_ble_eq_true rfl)).trans <| (j_lload q_257_158 rfl).trans <| (j_lload q_257_160 rfl).trans <| (j_lload q_257_162 rfl).trans <| (j_ladd q_257_164).trans <| (j_lconst1 q_257_165).trans <| (j_ladd q_257_166).trans <| (j_lmax (js_clS q_257_167 (js_Mo qy_257 qm_12_241)) (Nat.le_of_ble_eq_true rfl) hd).trans <| (j_lstore (l2 := [(2, 83), (0, x1), (0, x2), (0, x3), (1, x4), (9, 0), (1, if js_l ((x4 + z0) + 1) < js_l x6 then x6 else ((x4 + z0) + 1)), (9, 0), (0, x8), (0, x9), (0, x10), (0, x11), (0, x12), (1, z0), (9, 0)]) q_257_170 rfl (Nat.le_of_ble_eq_true rfl)).trans <| (j_aload_n q_257_172 rfl).trans <| (j_bi q_257_173 rfl).trans <| (j_iload q_257_175 rfl).trans <| (j_iconst q_257_177).trans <| rfl
theorem k_257_178 {E : js_E} {d : Nat} {σ σ2 : js_S} {x1 x2 x3 x4 x6 x8 x9 x10 x11 x12 x13 z1 z2 z3 : Int} {v : Int} (hd : 1 ≤ d) (hz : js_J E (d - 1) 251 0 [(2, 83), (0, z1), (0, z2), (0, z3)] [] σ = js_r E (0, v) σ2) : js_J E d 257 178 [(2, 83), (0, x1), (0, x2), (0, x3), (1, x4), (9, 0), (1, x6), (9, 0), (0, x8), (0, x9), (0, x10), (0, x11), (0, x12), (1, x13), (9, 0)] [(0, z3), (0, z2), (0, z1), (2, 83)] σ = js_J E d 257 181 [(2, 83), (0, x1), (0, x2), (0, x3), (1, x4), (9, 0), (1, x6), (9, 0), (0, x8), (0, x9), (0, x10), (0, x11), (0, x12), (1, x13), (9, 0)] [(0, v)] σ2 :=
  j_call (m := 0) (js_caV q_257_178 (js_Mo qy_257 qm_12_505)) (js_agV (av := [(0, z1), (0, z2), (0, z3)]) (st := []) rfl rfl js_o83 rfl) rfl rfl (by rw [ql_251]; exact Nat.le_of_ble_eq_true rfl) (Nat.le_of_ble_eq_true rfl) hd hz
theorem b_257_181 {E : js_E} {d : Nat} {σ : js_S} {x1 x2 x3 x4 x6 x8 x9 x10 x11 x12 x13 z0 : Int} : js_J E d 257 181 [(2, 83), (0, x1), (0, x2), (0, x3), (1, x4), (9, 0), (1, x6), (9, 0), (0, x8), (0, x9), (0, x10), (0, x11), (0, x12), (1, x13), (9, 0)] [(0, z0)] σ = js_J E d 257 186 [(2, 83), (0, x1), (0, x2), (0, x3), (1, x4), (9, 0), (1, x6), (9, 0), (0, z0), (0, x9), (0, x10), (0, x11), (0, x12), (1, x13), (9, 0)] [(0, x11), (2, 83)] σ :=
  (j_istore (l2 := [(2, 83), (0, x1), (0, x2), (0, x3), (1, x4), (9, 0), (1, x6), (9, 0), (0, z0), (0, x9), (0, x10), (0, x11), (0, x12), (1, x13), (9, 0)]) q_257_181 rfl (Nat.le_of_ble_eq_true rfl)).trans <| (j_aload_n q_257_183 rfl).trans <| (j_iload q_257_184 rfl).trans <| rfl
theorem k_257_186 {E : js_E} {d : Nat} {σ σ2 : js_S} {x1 x2 x3 x4 x6 x8 x9 x10 x11 x12 x13 z1 : Int} (hd : 1 ≤ d) (hz : js_J E (d - 1) 252 0 [(2, 83), (0, z1)] [] σ = js_r0 E σ2) : js_J E d 257 186 [(2, 83), (0, x1), (0, x2), (0, x3), (1, x4), (9, 0), (1, x6), (9, 0), (0, x8), (0, x9), (0, x10), (0, x11), (0, x12), (1, x13), (9, 0)] [(0, z1), (2, 83)] σ = js_J E d 257 189 [(2, 83), (0, x1), (0, x2), (0, x3), (1, x4), (9, 0), (1, x6), (9, 0), (0, x8), (0, x9), (0, x10), (0, x11), (0, x12), (1, x13), (9, 0)] [] σ2 :=
  j_call0 (m := 0) (js_caV q_257_186 (js_Mo qy_257 qm_12_517)) (js_agV (av := [(0, z1)]) (st := []) rfl rfl js_o83 rfl) rfl rfl (by rw [ql_252]; exact Nat.le_of_ble_eq_true rfl) (Nat.le_of_ble_eq_true rfl) hd hz
theorem b_257_189 {E : js_E} {d : Nat} {σ : js_S} {x1 x2 x3 x4 x6 x8 x9 x10 x11 x12 x13 : Int} : js_J E d 257 189 [(2, 83), (0, x1), (0, x2), (0, x3), (1, x4), (9, 0), (1, x6), (9, 0), (0, x8), (0, x9), (0, x10), (0, x11), (0, x12), (1, x13), (9, 0)] [] σ = (if js_w x12 < 0 then js_J E d 257 200 [(2, 83), (0, x1), (0, x2), (0, x3), (1, x4), (9, 0), (1, x6), (9, 0), (0, x8), (0, x9), (0, x10), (0, x11), (0, x12), (1, x13), (9, 0)] [] σ else js_J E d 257 197 [(2, 83), (0, x1), (0, x2), (0, x3), (1, x4), (9, 0), (1, x6), (9, 0), (0, x8), (0, x9), (0, x10), (0, x11), (0, x12), (1, x13), (9, 0)] [(0, x12), (2, 83)] σ) :=
  (j_iload q_257_189 rfl).trans <| (j_iflt (t := 200) q_257_191 rfl).trans (js_ite (rfl) ((j_aload_n q_257_194 rfl).trans <| (j_iload q_257_195 rfl).trans <| rfl))
theorem k_257_197 {E : js_E} {d : Nat} {σ σ2 : js_S} {x1 x2 x3 x4 x6 x8 x9 x10 x11 x12 x13 z1 : Int} (hd : 1 ≤ d) (hz : js_J E (d - 1) 252 0 [(2, 83), (0, z1)] [] σ = js_r0 E σ2) : js_J E d 257 197 [(2, 83), (0, x1), (0, x2), (0, x3), (1, x4), (9, 0), (1, x6), (9, 0), (0, x8), (0, x9), (0, x10), (0, x11), (0, x12), (1, x13), (9, 0)] [(0, z1), (2, 83)] σ = js_J E d 257 200 [(2, 83), (0, x1), (0, x2), (0, x3), (1, x4), (9, 0), (1, x6), (9, 0), (0, x8), (0, x9), (0, x10), (0, x11), (0, x12), (1, x13), (9, 0)] [] σ2 :=
  j_call0 (m := 0) (js_caV q_257_197 (js_Mo qy_257 qm_12_517)) (js_agV (av := [(0, z1)]) (st := []) rfl rfl js_o83 rfl) rfl rfl (by rw [ql_252]; exact Nat.le_of_ble_eq_true rfl) (Nat.le_of_ble_eq_true rfl) hd hz
theorem b_257_200 {E : js_E} {d : Nat} {σ : js_S} {x1 x2 x3 x4 x6 x8 x9 x10 x11 x12 x13 : Int} : js_J E d 257 200 [(2, 83), (0, x1), (0, x2), (0, x3), (1, x4), (9, 0), (1, x6), (9, 0), (0, x8), (0, x9), (0, x10), (0, x11), (0, x12), (1, x13), (9, 0)] [] σ = (if 0 ≤ js_w x9 ∧ js_w x9 < 66000 then js_J E d 257 43 [(2, 83), (0, x1), (0, x2), (0, x3), (1, x4), (9, 0), (1, x6), (9, 0), (0, x8), (0, σ 107 (js_w x9)), (0, x10), (0, x11), (0, x12), (1, x13), (9, 0)] [] σ else none) :=
  (j_aload_n q_257_200 rfl).trans <| (j_get (ji := 41) (v := (2, 107)) q_257_201 (js_Fo qy_257 qf_12_190) js_o83 rfl rfl rfl rfl).trans <| (j_iload q_257_204 rfl).trans <| (j_iaload q_257_206 js_o107).trans <| js_itp fun g0 => (j_istore (l2 := [(2, 83), (0, x1), (0, x2), (0, x3), (1, x4), (9, 0), (1, x6), (9, 0), (0, x8), (0, σ 107 (js_w x9)), (0, x10), (0, x11), (0, x12), (1, x13), (9, 0)]) q_257_207 rfl (Nat.le_of_ble_eq_true rfl)).trans <| (j_goto (t := 43) q_257_209 rfl).trans <| rfl
theorem k_257_234 {E : js_E} {d : Nat} {σ σ2 : js_S} {x1 x2 x3 x4 x6 x8 x9 z0 z2 z3 : Int} {ux10 ux11 ux12 ux13 : js_v} {v : Int} (hd : 1 ≤ d) (hz : js_J E (d - 1) 246 0 [(2, 83), (0, z2), (0, z3), (9, 0), (9, 0), (9, 0)] [] σ = js_r E (1, v) σ2) : js_J E d 257 234 [(2, 83), (0, x1), (0, x2), (0, x3), (1, x4), (9, 0), (1, x6), (9, 0), (0, x8), (0, x9), ux10, ux11, ux12, ux13, (9, 0)] [(0, z3), (0, z2), (2, 83), (1, z0)] σ = js_J E d 257 237 [(2, 83), (0, x1), (0, x2), (0, x3), (1, x4), (9, 0), (1, x6), (9, 0), (0, x8), (0, x9), ux10, ux11, ux12, ux13, (9, 0)] [(1, v), (1, z0)] σ2 :=
  j_call (m := 3) (js_caV q_257_234 (js_Mo qy_257 qm_12_550)) (js_agV (av := [(0, z2), (0, z3)]) (st := [(1, z0)]) rfl rfl js_o83 rfl) rfl rfl (by rw [ql_246]; exact Nat.le_of_ble_eq_true rfl) (Nat.le_of_ble_eq_true rfl) hd hz
theorem b_257_237 {E : js_E} {d : Nat} {σ : js_S} {x1 x2 x3 x4 x6 x8 x9 z0 z1 : Int} {ux10 ux11 ux12 ux13 : js_v} : js_J E d 257 237 [(2, 83), (0, x1), (0, x2), (0, x3), (1, x4), (9, 0), (1, x6), (9, 0), (0, x8), (0, x9), ux10, ux11, ux12, ux13, (9, 0)] [(1, z1), (1, z0)] σ = js_J E d 257 238 [(2, 83), (0, x1), (0, x2), (0, x3), (1, x4), (9, 0), (1, x6), (9, 0), (0, x8), (0, x9), ux10, ux11, ux12, ux13, (9, 0)] [(1, z0 + z1)] σ :=
  (j_ladd q_257_237).trans <| rfl
theorem k_257_238 {E : js_E} {d : Nat} {σ σ2 : js_S} {x1 x2 x3 x4 x6 x8 x9 z0 : Int} {ux10 ux11 ux12 ux13 : js_v} {v : Int} (hd : 1 ≤ d) (hz : js_J E (d - 1) 253 0 [(1, z0), (9, 0)] [] σ = js_r E (1, v) σ2) : js_J E d 257 238 [(2, 83), (0, x1), (0, x2), (0, x3), (1, x4), (9, 0), (1, x6), (9, 0), (0, x8), (0, x9), ux10, ux11, ux12, ux13, (9, 0)] [(1, z0)] σ = js_J E d 257 241 [(2, 83), (0, x1), (0, x2), (0, x3), (1, x4), (9, 0), (1, x6), (9, 0), (0, x8), (0, x9), ux10, ux11, ux12, ux13, (9, 0)] [(1, v)] σ2 :=
  j_call (m := 0) (js_caS q_257_238 (js_Mo qy_257 qm_12_520)) (js_agS (av := [(1, z0)]) (st := []) rfl rfl) rfl rfl (by rw [ql_253]; exact Nat.le_of_ble_eq_true rfl) (Nat.le_of_ble_eq_true rfl) hd hz
theorem b_257_241 {E : js_E} {d : Nat} {σ : js_S} {x1 x2 x3 x4 x6 x8 x9 z0 : Int} {ux10 ux11 ux12 ux13 : js_v} : js_J E d 257 241 [(2, 83), (0, x1), (0, x2), (0, x3), (1, x4), (9, 0), (1, x6), (9, 0), (0, x8), (0, x9), ux10, ux11, ux12, ux13, (9, 0)] [(1, z0)] σ = js_J E d 257 243 [(2, 83), (0, x1), (0, x2), (0, x3), (1, z0), (9, 0), (1, x6), (9, 0), (0, x8), (0, x9), ux10, ux11, ux12, ux13, (9, 0)] [] σ :=
  (j_lstore (l2 := [(2, 83), (0, x1), (0, x2), (0, x3), (1, z0), (9, 0), (1, x6), (9, 0), (0, x8), (0, x9), ux10, ux11, ux12, ux13, (9, 0)]) q_257_241 rfl (Nat.le_of_ble_eq_true rfl)).trans <| rfl
theorem b_257_243 {E : js_E} {d : Nat} {σ : js_S} {x1 x2 x3 x4 x6 x8 x9 : Int} {ux10 ux11 ux12 ux13 : js_v} : js_J E d 257 243 [(2, 83), (0, x1), (0, x2), (0, x3), (1, x4), (9, 0), (1, x6), (9, 0), (0, x8), (0, x9), ux10, ux11, ux12, ux13, (9, 0)] [] σ = js_J E d 257 246 [(2, 83), (0, x1), (0, x2), (0, x3), (1, x4), (9, 0), (1, x6), (9, 0), (0, x8), (0, x9), ux10, ux11, ux12, ux13, (9, 0)] [(0, x8), (2, 83)] σ :=
  (j_aload_n q_257_243 rfl).trans <| (j_iload q_257_244 rfl).trans <| rfl
theorem k_257_246 {E : js_E} {d : Nat} {σ σ2 : js_S} {x1 x2 x3 x4 x6 x8 x9 z1 : Int} {ux10 ux11 ux12 ux13 : js_v} (hd : 1 ≤ d) (hz : js_J E (d - 1) 259 0 [(2, 83), (0, z1), (9, 0), (9, 0)] [] σ = js_r0 E σ2) : js_J E d 257 246 [(2, 83), (0, x1), (0, x2), (0, x3), (1, x4), (9, 0), (1, x6), (9, 0), (0, x8), (0, x9), ux10, ux11, ux12, ux13, (9, 0)] [(0, z1), (2, 83)] σ = js_J E d 257 249 [(2, 83), (0, x1), (0, x2), (0, x3), (1, x4), (9, 0), (1, x6), (9, 0), (0, x8), (0, x9), ux10, ux11, ux12, ux13, (9, 0)] [] σ2 :=
  j_call0 (m := 2) (js_caV q_257_246 (js_Mo qy_257 qm_12_553)) (js_agV (av := [(0, z1)]) (st := []) rfl rfl js_o83 rfl) rfl rfl (by rw [ql_259]; exact Nat.le_of_ble_eq_true rfl) (Nat.le_of_ble_eq_true rfl) hd hz
theorem b_257_249 {E : js_E} {d : Nat} {σ : js_S} {x1 x2 x3 x4 x6 x8 x9 : Int} {ux10 ux11 ux12 ux13 : js_v} (hd : 4 ≤ d) : js_J E d 257 249 [(2, 83), (0, x1), (0, x2), (0, x3), (1, x4), (9, 0), (1, x6), (9, 0), (0, x8), (0, x9), ux10, ux11, ux12, ux13, (9, 0)] [] σ = js_J E d 257 256 [(2, 83), (0, x1), (0, x2), (0, x3), (1, x4), (9, 0), (1, x6), (9, 0), (0, x8), (0, x9), ux10, ux11, ux12, ux13, (9, 0)] [(1, if js_l x4 < js_l x6 then x6 else x4)] σ :=
  (j_lload q_257_249 rfl).trans <| (j_lload q_257_251 rfl).trans <| (j_lmax (js_clS q_257_253 (js_Mo qy_257 qm_12_241)) (Nat.le_of_ble_eq_true rfl) hd).trans <| rfl
theorem k_257_256 {E : js_E} {d : Nat} {σ σ2 : js_S} {x1 x2 x3 x4 x6 x8 x9 z0 : Int} {ux10 ux11 ux12 ux13 : js_v} {v : Int} (hd : 1 ≤ d) (hz : js_J E (d - 1) 253 0 [(1, z0), (9, 0)] [] σ = js_r E (1, v) σ2) : js_J E d 257 256 [(2, 83), (0, x1), (0, x2), (0, x3), (1, x4), (9, 0), (1, x6), (9, 0), (0, x8), (0, x9), ux10, ux11, ux12, ux13, (9, 0)] [(1, z0)] σ = js_J E d 257 259 [(2, 83), (0, x1), (0, x2), (0, x3), (1, x4), (9, 0), (1, x6), (9, 0), (0, x8), (0, x9), ux10, ux11, ux12, ux13, (9, 0)] [(1, v)] σ2 :=
  j_call (m := 0) (js_caS q_257_256 (js_Mo qy_257 qm_12_520)) (js_agS (av := [(1, z0)]) (st := []) rfl rfl) rfl rfl (by rw [ql_253]; exact Nat.le_of_ble_eq_true rfl) (Nat.le_of_ble_eq_true rfl) hd hz
theorem b_257_259 {E : js_E} {d : Nat} {σ : js_S} {x1 x2 x3 x4 x6 x8 x9 z0 : Int} {ux10 ux11 ux12 ux13 : js_v} : js_J E d 257 259 [(2, 83), (0, x1), (0, x2), (0, x3), (1, x4), (9, 0), (1, x6), (9, 0), (0, x8), (0, x9), ux10, ux11, ux12, ux13, (9, 0)] [(1, z0)] σ = js_r E (1, z0) σ :=
  j_lreturn q_257_259 qr_257
-- 258: VitalTwinModel.test (IIIII)J
theorem b_258_0 {E : js_E} {d : Nat} {σ : js_S} {x1 x2 x3 x4 x5 : Int} : js_J E d 258 0 [(2, 83), (0, x1), (0, x2), (0, x3), (0, x4), (0, x5)] [] σ = js_J E d 258 8 [(2, 83), (0, x1), (0, x2), (0, x3), (0, x4), (0, x5)] [(1, js_w x1), (1, js_w x1), (0, 0), (0, x1), (0, 0), (2, 83)] σ :=
  (j_aload_n q_258_0 rfl).trans <| (j_iconst q_258_1).trans <| (j_iload_n q_258_2 rfl).trans <| (j_iconst q_258_3).trans <| (j_iload_n q_258_4 rfl).trans <| (j_i2l q_258_5).trans <| (j_iload_n q_258_6 rfl).trans <| (j_i2l q_258_7).trans <| rfl
theorem k_258_8 {E : js_E} {d : Nat} {σ σ2 : js_S} {x1 x2 x3 x4 x5 z1 z2 z3 z4 z5 : Int} {v : Int} (hd : 1 ≤ d) (hz : js_J E (d - 1) 250 0 [(2, 83), (0, z1), (0, z2), (0, z3), (1, z4), (9, 0), (1, z5), (9, 0)] [] σ = js_r E (0, v) σ2) : js_J E d 258 8 [(2, 83), (0, x1), (0, x2), (0, x3), (0, x4), (0, x5)] [(1, z5), (1, z4), (0, z3), (0, z2), (0, z1), (2, 83)] σ = js_J E d 258 11 [(2, 83), (0, x1), (0, x2), (0, x3), (0, x4), (0, x5)] [(0, v)] σ2 :=
  j_call (m := 0) (js_caV q_258_8 (js_Mo qy_258 qm_12_483)) (js_agV (av := [(0, z1), (0, z2), (0, z3), (1, z4), (1, z5)]) (st := []) rfl rfl js_o83 rfl) rfl rfl (by rw [ql_250]; exact Nat.le_of_ble_eq_true rfl) (Nat.le_of_ble_eq_true rfl) hd hz
theorem b_258_11 {E : js_E} {d : Nat} {σ : js_S} {x1 x2 x3 x4 x5 z0 : Int} : js_J E d 258 11 [(2, 83), (0, x1), (0, x2), (0, x3), (0, x4), (0, x5)] [(0, z0)] σ = js_J E d 258 16 [(2, 83), (0, x1), (0, x2), (0, x3), (0, x4), (0, x5)] [(0, 0), (0, 0), (0, 3), (2, 83)] σ :=
  (j_pop0 q_258_11).trans <| (j_aload_n q_258_12 rfl).trans <| (j_iconst q_258_13).trans <| (j_iconst q_258_14).trans <| (j_iconst q_258_15).trans <| rfl
theorem k_258_16 {E : js_E} {d : Nat} {σ σ2 : js_S} {x1 x2 x3 x4 x5 z1 z2 z3 : Int} {v : Int} (hd : 1 ≤ d) (hz : js_J E (d - 1) 251 0 [(2, 83), (0, z1), (0, z2), (0, z3)] [] σ = js_r E (0, v) σ2) : js_J E d 258 16 [(2, 83), (0, x1), (0, x2), (0, x3), (0, x4), (0, x5)] [(0, z3), (0, z2), (0, z1), (2, 83)] σ = js_J E d 258 19 [(2, 83), (0, x1), (0, x2), (0, x3), (0, x4), (0, x5)] [(0, v)] σ2 :=
  j_call (m := 0) (js_caV q_258_16 (js_Mo qy_258 qm_12_505)) (js_agV (av := [(0, z1), (0, z2), (0, z3)]) (st := []) rfl rfl js_o83 rfl) rfl rfl (by rw [ql_251]; exact Nat.le_of_ble_eq_true rfl) (Nat.le_of_ble_eq_true rfl) hd hz
theorem b_258_19 {E : js_E} {d : Nat} {σ : js_S} {x1 x2 x3 x4 x5 z0 : Int} : js_J E d 258 19 [(2, 83), (0, x1), (0, x2), (0, x3), (0, x4), (0, x5)] [(0, z0)] σ = js_J E d 258 24 [(2, 83), (0, x1), (0, x2), (0, x3), (0, x4), (0, x5)] [(0, x3), (0, x4), (2, 83)] σ :=
  (j_pop0 q_258_19).trans <| (j_aload_n q_258_20 rfl).trans <| (j_iload q_258_21 rfl).trans <| (j_iload_n q_258_23 rfl).trans <| rfl
theorem k_258_24 {E : js_E} {d : Nat} {σ σ2 : js_S} {x1 x2 x3 x4 x5 z1 z2 : Int} (hd : 1 ≤ d) (hz : js_J E (d - 1) 256 0 [(2, 83), (0, z1), (0, z2)] [] σ = js_r0 E σ2) : js_J E d 258 24 [(2, 83), (0, x1), (0, x2), (0, x3), (0, x4), (0, x5)] [(0, z2), (0, z1), (2, 83)] σ = js_J E d 258 27 [(2, 83), (0, x1), (0, x2), (0, x3), (0, x4), (0, x5)] [] σ2 :=
  j_call0 (m := 0) (js_caV q_258_24 (js_Mo qy_258 qm_12_514)) (js_agV (av := [(0, z1), (0, z2)]) (st := []) rfl rfl js_o83 rfl) rfl rfl (by rw [ql_256]; exact Nat.le_of_ble_eq_true rfl) (Nat.le_of_ble_eq_true rfl) hd hz
theorem b_258_27 {E : js_E} {d : Nat} {σ : js_S} {x1 x2 x3 x4 x5 : Int} : js_J E d 258 27 [(2, 83), (0, x1), (0, x2), (0, x3), (0, x4), (0, x5)] [] σ = js_J E d 258 33 [(2, 83), (0, x1), (0, x2), (0, x3), (0, x4), (0, x5)] [(1, 1), (1, 0), (0, 0), (0, 0), (0, x2), (2, 83)] σ :=
  (j_aload_n q_258_27 rfl).trans <| (j_iload_n q_258_28 rfl).trans <| (j_iconst q_258_29).trans <| (j_iconst q_258_30).trans <| (j_lconst0 q_258_31).trans <| (j_lconst1 q_258_32).trans <| rfl
theorem k_258_33 {E : js_E} {d : Nat} {σ σ2 : js_S} {x1 x2 x3 x4 x5 z1 z2 z3 z4 z5 : Int} {v : Int} (hd : 1 ≤ d) (hz : js_J E (d - 1) 250 0 [(2, 83), (0, z1), (0, z2), (0, z3), (1, z4), (9, 0), (1, z5), (9, 0)] [] σ = js_r E (0, v) σ2) : js_J E d 258 33 [(2, 83), (0, x1), (0, x2), (0, x3), (0, x4), (0, x5)] [(1, z5), (1, z4), (0, z3), (0, z2), (0, z1), (2, 83)] σ = js_J E d 258 36 [(2, 83), (0, x1), (0, x2), (0, x3), (0, x4), (0, x5)] [(0, v)] σ2 :=
  j_call (m := 0) (js_caV q_258_33 (js_Mo qy_258 qm_12_483)) (js_agV (av := [(0, z1), (0, z2), (0, z3), (1, z4), (1, z5)]) (st := []) rfl rfl js_o83 rfl) rfl rfl (by rw [ql_250]; exact Nat.le_of_ble_eq_true rfl) (Nat.le_of_ble_eq_true rfl) hd hz
theorem b_258_36 {E : js_E} {d : Nat} {σ : js_S} {x1 x2 x3 x4 x5 z0 : Int} : js_J E d 258 36 [(2, 83), (0, x1), (0, x2), (0, x3), (0, x4), (0, x5)] [(0, z0)] σ = js_J E d 258 43 [(2, 83), (0, x1), (0, x2), (0, x3), (0, x4), (0, x5)] [(0, 0), (0, x5), (0, 25), (2, 83)] σ :=
  (j_pop0 q_258_36).trans <| (j_aload_n q_258_37 rfl).trans <| (j_bi q_258_38 rfl).trans <| (j_iload q_258_40 rfl).trans <| (j_iconst q_258_42).trans <| rfl
theorem k_258_43 {E : js_E} {d : Nat} {σ σ2 : js_S} {x1 x2 x3 x4 x5 z1 z2 z3 : Int} {v : Int} (hd : 1 ≤ d) (hz : js_J E (d - 1) 251 0 [(2, 83), (0, z1), (0, z2), (0, z3)] [] σ = js_r E (0, v) σ2) : js_J E d 258 43 [(2, 83), (0, x1), (0, x2), (0, x3), (0, x4), (0, x5)] [(0, z3), (0, z2), (0, z1), (2, 83)] σ = js_J E d 258 46 [(2, 83), (0, x1), (0, x2), (0, x3), (0, x4), (0, x5)] [(0, v)] σ2 :=
  j_call (m := 0) (js_caV q_258_43 (js_Mo qy_258 qm_12_505)) (js_agV (av := [(0, z1), (0, z2), (0, z3)]) (st := []) rfl rfl js_o83 rfl) rfl rfl (by rw [ql_251]; exact Nat.le_of_ble_eq_true rfl) (Nat.le_of_ble_eq_true rfl) hd hz
theorem b_258_46 {E : js_E} {d : Nat} {σ : js_S} {x1 x2 x3 x4 x5 z0 : Int} : js_J E d 258 46 [(2, 83), (0, x1), (0, x2), (0, x3), (0, x4), (0, x5)] [(0, z0)] σ = js_r E (1, 5) σ :=
  (j_pop0 q_258_46).trans <| (j_ldc2 (v := (1, 5)) q_258_47 (js_Co qy_258 qc_12_544)).trans <| j_lreturn q_258_50 qr_258
-- 259: VitalTwinModel.landAll (I)V
theorem b_259_0 {E : js_E} {d : Nat} {σ : js_S} {x1 : Int} : js_J E d 259 0 [(2, 83), (0, x1), (9, 0), (9, 0)] [] σ = js_J E d 259 2 [(2, 83), (0, x1), (0, x1), (9, 0)] [] σ :=
  (j_iload_n q_259_0 rfl).trans <| (j_istore_n (l2 := [(2, 83), (0, x1), (0, x1), (9, 0)]) q_259_1 rfl (Nat.le_of_ble_eq_true rfl)).trans <| rfl
theorem b_259_2 {E : js_E} {d : Nat} {σ : js_S} {x1 x2 : Int} {ux3 : js_v} : js_J E d 259 2 [(2, 83), (0, x1), (0, x2), ux3] [] σ = (if js_w x2 < 0 then js_r0 E σ else (if js_w x2 < 8192 then (if 0 ≤ js_w x2 ∧ js_w x2 < 8192 then js_J E d 259 2 [(2, 83), (0, x1), (0, σ 112 (js_w x2)), (0, σ 112 (js_w x2))] [] (js_up σ 112 (js_w x2) (σ 83 49)) else none) else js_r0 E σ)) :=
  (j_iload_n q_259_2 rfl).trans <| (j_iflt (t := 35) q_259_3 rfl).trans (js_ite (j_return q_259_35 qr_259) ((j_iload_n q_259_6 rfl).trans <| (j_si q_259_7 rfl).trans <| (j_cmpgeB (t := 35) q_259_10 rfl ww_8192).trans (js_ite ((j_aload_n q_259_13 rfl).trans <| (j_get (ji := 60) (v := (2, 112)) q_259_14 (js_Fo qy_259 qf_12_349) js_o83 rfl rfl rfl rfl).trans <| (j_iload_n q_259_17 rfl).trans <| (j_iaload q_259_18 js_o112).trans <| js_itp fun g0 => (j_istore_n (l2 := [(2, 83), (0, x1), (0, x2), (0, σ 112 (js_w x2))]) q_259_19 rfl (Nat.le_of_ble_eq_true rfl)).trans <| (j_aload_n q_259_20 rfl).trans <| (j_get (ji := 60) (v := (2, 112)) q_259_21 (js_Fo qy_259 qf_12_349) js_o83 rfl rfl rfl rfl).trans <| (j_iload_n q_259_24 rfl).trans <| (j_aload_n q_259_25 rfl).trans <| (j_get (ji := 49) (v := (0, σ 83 49)) q_259_26 (js_Fo qy_259 qf_12_428) js_o83 rfl rfl rfl rfl).trans <| (j_iastore q_259_29 js_o112).trans <| (if_pos g0).trans <| (j_iload_n q_259_30 rfl).trans <| (j_istore_n (l2 := [(2, 83), (0, x1), (0, σ 112 (js_w x2)), (0, σ 112 (js_w x2))]) q_259_31 rfl (Nat.le_of_ble_eq_true rfl)).trans <| (j_goto (t := 2) q_259_32 rfl).trans <| rfl) (j_return q_259_35 qr_259))))
-- 260: VitalTwinModel.genIf (II)J
theorem b_260_0 {E : js_E} {d : Nat} {σ : js_S} {x1 x2 : Int} : js_J E d 260 0 [(2, 83), (0, x1), (0, x2), (9, 0), (9, 0), (9, 0), (9, 0), (9, 0), (9, 0), (9, 0), (9, 0), (9, 0), (9, 0)] [] σ = js_J E d 260 11 [(2, 83), (0, x1), (0, x2), (1, 0), (9, 0), (1, 0), (9, 0), (0, (-1)), (0, x1), (9, 0), (9, 0), (9, 0), (9, 0)] [] σ :=
  (j_lconst0 q_260_0).trans <| (j_lstore_n (l2 := [(2, 83), (0, x1), (0, x2), (1, 0), (9, 0), (9, 0), (9, 0), (9, 0), (9, 0), (9, 0), (9, 0), (9, 0), (9, 0)]) q_260_1 rfl (Nat.le_of_ble_eq_true rfl)).trans <| (j_lconst0 q_260_2).trans <| (j_lstore (l2 := [(2, 83), (0, x1), (0, x2), (1, 0), (9, 0), (1, 0), (9, 0), (9, 0), (9, 0), (9, 0), (9, 0), (9, 0), (9, 0)]) q_260_3 rfl (Nat.le_of_ble_eq_true rfl)).trans <| (j_iconst q_260_5).trans <| (j_istore (l2 := [(2, 83), (0, x1), (0, x2), (1, 0), (9, 0), (1, 0), (9, 0), (0, (-1)), (9, 0), (9, 0), (9, 0), (9, 0), (9, 0)]) q_260_6 rfl (Nat.le_of_ble_eq_true rfl)).trans <| (j_iload_n q_260_8 rfl).trans <| (j_istore (l2 := [(2, 83), (0, x1), (0, x2), (1, 0), (9, 0), (1, 0), (9, 0), (0, (-1)), (0, x1), (9, 0), (9, 0), (9, 0), (9, 0)]) q_260_9 rfl (Nat.le_of_ble_eq_true rfl)).trans <| rfl
theorem b_260_11 {E : js_E} {d : Nat} {σ : js_S} {x1 x2 x3 x5 x7 x8 : Int} {ux9 ux10 ux12 : js_v} : js_J E d 260 11 [(2, 83), (0, x1), (0, x2), (1, x3), (9, 0), (1, x5), (9, 0), (0, x7), (0, x8), ux9, ux10, (9, 0), ux12] [] σ = (if js_w x8 < 0 then js_J E d 260 174 [(2, 83), (0, x1), (0, x2), (1, x3), (9, 0), (1, x5), (9, 0), (0, x7), (0, x8), ux9, ux10, (9, 0), ux12] [(0, x7), (2, 83)] σ else (if 0 ≤ js_w x8 ∧ js_w x8 < 66000 then js_J E d 260 26 [(2, 83), (0, x1), (0, x2), (1, x3), (9, 0), (1, x5), (9, 0), (0, x7), (0, x8), ux9, ux10, (9, 0), ux12] [(0, x2), (0, σ 102 (js_w x8)), (2, 83), (1, x3)] σ else none)) :=
  (j_iload q_260_11 rfl).trans <| (j_iflt (t := 171) q_260_13 rfl).trans (js_ite ((j_aload_n q_260_171 rfl).trans <| (j_iload q_260_172 rfl).trans <| rfl) ((j_lload_n q_260_16 rfl).trans <| (j_aload_n q_260_17 rfl).trans <| (j_aload_n q_260_18 rfl).trans <| (j_get (ji := 36) (v := (2, 102)) q_260_19 (js_Fo qy_260 qf_12_181) js_o83 rfl rfl rfl rfl).trans <| (j_iload q_260_22 rfl).trans <| (j_iaload q_260_24 js_o102).trans <| js_itp fun g0 => (j_iload_n q_260_25 rfl).trans <| rfl))
theorem k_260_26 {E : js_E} {d : Nat} {σ σ2 : js_S} {x1 x2 x3 x5 x7 x8 z0 z2 z3 : Int} {ux9 ux10 ux12 : js_v} {v : Int} (hd : 1 ≤ d) (hz : js_J E (d - 1) 248 0 [(2, 83), (0, z2), (0, z3), (9, 0), (9, 0), (9, 0), (9, 0), (9, 0)] [] σ = js_r E (1, v) σ2) : js_J E d 260 26 [(2, 83), (0, x1), (0, x2), (1, x3), (9, 0), (1, x5), (9, 0), (0, x7), (0, x8), ux9, ux10, (9, 0), ux12] [(0, z3), (0, z2), (2, 83), (1, z0)] σ = js_J E d 260 29 [(2, 83), (0, x1), (0, x2), (1, x3), (9, 0), (1, x5), (9, 0), (0, x7), (0, x8), ux9, ux10, (9, 0), ux12] [(1, v), (1, z0)] σ2 :=
  j_call (m := 5) (js_caV q_260_26 (js_Mo qy_260 qm_12_511)) (js_agV (av := [(0, z2), (0, z3)]) (st := [(1, z0)]) rfl rfl js_o83 rfl) rfl rfl (by rw [ql_248]; exact Nat.le_of_ble_eq_true rfl) (Nat.le_of_ble_eq_true rfl) hd hz
theorem b_260_29 {E : js_E} {d : Nat} {σ : js_S} {x1 x2 x3 x5 x7 x8 z0 z1 : Int} {ux9 ux10 ux12 : js_v} : js_J E d 260 29 [(2, 83), (0, x1), (0, x2), (1, x3), (9, 0), (1, x5), (9, 0), (0, x7), (0, x8), ux9, ux10, (9, 0), ux12] [(1, z1), (1, z0)] σ = js_J E d 260 38 [(2, 83), (0, x1), (0, x2), (1, z0 + (z1 + 1)), (9, 0), (1, x5), (9, 0), (0, x7), (0, x8), ux9, ux10, (9, 0), ux12] [(0, 0), (0, 0), (0, 25), (2, 83)] σ :=
  (j_lconst1 q_260_29).trans <| (j_ladd q_260_30).trans <| (j_ladd q_260_31).trans <| (j_lstore_n (l2 := [(2, 83), (0, x1), (0, x2), (1, z0 + (z1 + 1)), (9, 0), (1, x5), (9, 0), (0, x7), (0, x8), ux9, ux10, (9, 0), ux12]) q_260_32 rfl (Nat.le_of_ble_eq_true rfl)).trans <| (j_aload_n q_260_33 rfl).trans <| (j_bi q_260_34 rfl).trans <| (j_iconst q_260_36).trans <| (j_iconst q_260_37).trans <| rfl
theorem k_260_38 {E : js_E} {d : Nat} {σ σ2 : js_S} {x1 x2 x3 x5 x7 x8 z1 z2 z3 : Int} {ux9 ux10 ux12 : js_v} {v : Int} (hd : 1 ≤ d) (hz : js_J E (d - 1) 251 0 [(2, 83), (0, z1), (0, z2), (0, z3)] [] σ = js_r E (0, v) σ2) : js_J E d 260 38 [(2, 83), (0, x1), (0, x2), (1, x3), (9, 0), (1, x5), (9, 0), (0, x7), (0, x8), ux9, ux10, (9, 0), ux12] [(0, z3), (0, z2), (0, z1), (2, 83)] σ = js_J E d 260 41 [(2, 83), (0, x1), (0, x2), (1, x3), (9, 0), (1, x5), (9, 0), (0, x7), (0, x8), ux9, ux10, (9, 0), ux12] [(0, v)] σ2 :=
  j_call (m := 0) (js_caV q_260_38 (js_Mo qy_260 qm_12_505)) (js_agV (av := [(0, z1), (0, z2), (0, z3)]) (st := []) rfl rfl js_o83 rfl) rfl rfl (by rw [ql_251]; exact Nat.le_of_ble_eq_true rfl) (Nat.le_of_ble_eq_true rfl) hd hz
theorem b_260_41 {E : js_E} {d : Nat} {σ : js_S} {x1 x2 x3 x5 x7 x8 z0 : Int} {ux9 ux10 ux12 : js_v} : js_J E d 260 41 [(2, 83), (0, x1), (0, x2), (1, x3), (9, 0), (1, x5), (9, 0), (0, x7), (0, x8), ux9, ux10, (9, 0), ux12] [(0, z0)] σ = (if 0 ≤ js_w x8 ∧ js_w x8 < 66000 then js_J E d 260 52 [(2, 83), (0, x1), (0, x2), (1, x3), (9, 0), (1, x5), (9, 0), (0, x7), (0, x8), (0, z0), ux10, (9, 0), ux12] [(0, x2), (0, σ 103 (js_w x8)), (2, 83)] σ else none) :=
  (j_istore (l2 := [(2, 83), (0, x1), (0, x2), (1, x3), (9, 0), (1, x5), (9, 0), (0, x7), (0, x8), (0, z0), ux10, (9, 0), ux12]) q_260_41 rfl (Nat.le_of_ble_eq_true rfl)).trans <| (j_aload_n q_260_43 rfl).trans <| (j_aload_n q_260_44 rfl).trans <| (j_get (ji := 37) (v := (2, 103)) q_260_45 (js_Fo qy_260 qf_12_184) js_o83 rfl rfl rfl rfl).trans <| (j_iload q_260_48 rfl).trans <| (j_iaload q_260_50 js_o103).trans <| js_itp fun g0 => (j_iload_n q_260_51 rfl).trans <| rfl
theorem k_260_52 {E : js_E} {d : Nat} {σ σ2 : js_S} {x1 x2 x3 x5 x7 x8 x9 z1 z2 : Int} {ux10 ux12 : js_v} {v : Int} (hd : 1 ≤ d) (hz : js_J E (d - 1) 246 0 [(2, 83), (0, z1), (0, z2), (9, 0), (9, 0), (9, 0)] [] σ = js_r E (1, v) σ2) : js_J E d 260 52 [(2, 83), (0, x1), (0, x2), (1, x3), (9, 0), (1, x5), (9, 0), (0, x7), (0, x8), (0, x9), ux10, (9, 0), ux12] [(0, z2), (0, z1), (2, 83)] σ = js_J E d 260 55 [(2, 83), (0, x1), (0, x2), (1, x3), (9, 0), (1, x5), (9, 0), (0, x7), (0, x8), (0, x9), ux10, (9, 0), ux12] [(1, v)] σ2 :=
  j_call (m := 3) (js_caV q_260_52 (js_Mo qy_260 qm_12_550)) (js_agV (av := [(0, z1), (0, z2)]) (st := []) rfl rfl js_o83 rfl) rfl rfl (by rw [ql_246]; exact Nat.le_of_ble_eq_true rfl) (Nat.le_of_ble_eq_true rfl) hd hz
theorem b_260_55 {E : js_E} {d : Nat} {σ : js_S} {x1 x2 x3 x5 x7 x8 x9 z0 : Int} {ux10 ux12 : js_v} : js_J E d 260 55 [(2, 83), (0, x1), (0, x2), (1, x3), (9, 0), (1, x5), (9, 0), (0, x7), (0, x8), (0, x9), ux10, (9, 0), ux12] [(1, z0)] σ = (if 0 ≤ js_w x8 ∧ js_w x8 < 66000 then (if 0 < js_w (σ 106 (js_w x8)) then js_J E d 260 72 [(2, 83), (0, x1), (0, x2), (1, x3), (9, 0), (1, x5), (9, 0), (0, x7), (0, x8), (0, x9), (1, z0), (9, 0), ux12] [(0, 1)] σ else js_J E d 260 72 [(2, 83), (0, x1), (0, x2), (1, x3), (9, 0), (1, x5), (9, 0), (0, x7), (0, x8), (0, x9), (1, z0), (9, 0), ux12] [(0, 0)] σ) else none) :=
  (j_lstore (l2 := [(2, 83), (0, x1), (0, x2), (1, x3), (9, 0), (1, x5), (9, 0), (0, x7), (0, x8), (0, x9), (1, z0), (9, 0), ux12]) q_260_55 rfl (Nat.le_of_ble_eq_true rfl)).trans <| (j_aload_n q_260_57 rfl).trans <| (j_get (ji := 40) (v := (2, 106)) q_260_58 (js_Fo qy_260 qf_12_178) js_o83 rfl rfl rfl rfl).trans <| (j_iload q_260_61 rfl).trans <| (j_iaload q_260_63 js_o106).trans <| js_itp fun g0 => (j_ifle (t := 71) q_260_64 rfl).trans (js_ite ((j_iconst q_260_67).trans <| (j_goto (t := 72) q_260_68 rfl).trans <| rfl) ((j_iconst q_260_71).trans <| rfl))
theorem b_260_72 {E : js_E} {d : Nat} {σ : js_S} {x1 x2 x3 x5 x7 x8 x9 x10 z0 : Int} {ux12 : js_v} : js_J E d 260 72 [(2, 83), (0, x1), (0, x2), (1, x3), (9, 0), (1, x5), (9, 0), (0, x7), (0, x8), (0, x9), (1, x10), (9, 0), ux12] [(0, z0)] σ = (if js_w z0 = 0 then js_J E d 260 90 [(2, 83), (0, x1), (0, x2), (1, x3), (9, 0), (1, x5), (9, 0), (0, x7), (0, x8), (0, x9), (1, x10), (9, 0), (0, z0)] [(1, 0), (1, x3 + x10), (1, x5)] σ else js_J E d 260 90 [(2, 83), (0, x1), (0, x2), (1, x3), (9, 0), (1, x5), (9, 0), (0, x7), (0, x8), (0, x9), (1, x10), (9, 0), (0, z0)] [(1, 1), (1, x3 + x10), (1, x5)] σ) :=
  (j_istore (l2 := [(2, 83), (0, x1), (0, x2), (1, x3), (9, 0), (1, x5), (9, 0), (0, x7), (0, x8), (0, x9), (1, x10), (9, 0), (0, z0)]) q_260_72 rfl (Nat.le_of_ble_eq_true rfl)).trans <| (j_lload q_260_74 rfl).trans <| (j_lload_n q_260_76 rfl).trans <| (j_lload q_260_77 rfl).trans <| (j_ladd q_260_79).trans <| (j_iload q_260_80 rfl).trans <| (j_ifeq (t := 89) q_260_82 rfl).trans (js_ite ((j_lconst0 q_260_89).trans <| rfl) ((j_lconst1 q_260_85).trans <| (j_goto (t := 90) q_260_86 rfl).trans <| rfl))
theorem b_260_90 {E : js_E} {d : Nat} {σ : js_S} {x1 x2 x3 x5 x7 x8 x9 x10 x12 z0 z1 z2 : Int} (hd : 4 ≤ d) : js_J E d 260 90 [(2, 83), (0, x1), (0, x2), (1, x3), (9, 0), (1, x5), (9, 0), (0, x7), (0, x8), (0, x9), (1, x10), (9, 0), (0, x12)] [(1, z2), (1, z1), (1, z0)] σ = (if js_w x12 = 0 then js_J E d 260 112 [(2, 83), (0, x1), (0, x2), (1, x3), (9, 0), (1, if js_l (z1 + z2) < js_l z0 then z0 else (z1 + z2)), (9, 0), (0, x7), (0, x8), (0, x9), (1, x10), (9, 0), (0, x12)] [] σ else js_J E d 260 107 [(2, 83), (0, x1), (0, x2), (1, x3), (9, 0), (1, if js_l (z1 + z2) < js_l z0 then z0 else (z1 + z2)), (9, 0), (0, x7), (0, x8), (0, x9), (1, x10), (9, 0), (0, x12)] [(0, 0), (0, x7), (0, 24), (2, 83)] σ) :=
  (j_ladd q_260_90).trans <| (j_lmax (js_clS q_260_91 (js_Mo qy_260 qm_12_241)) (Nat.le_of_ble_eq_true rfl) hd).trans <| (j_lstore (l2 := [(2, 83), (0, x1), (0, x2), (1, x3), (9, 0), (1, if js_l (z1 + z2) < js_l z0 then z0 else (z1 + z2)), (9, 0), (0, x7), (0, x8), (0, x9), (1, x10), (9, 0), (0, x12)]) q_260_94 rfl (Nat.le_of_ble_eq_true rfl)).trans <| (j_iload q_260_96 rfl).trans <| (j_ifeq (t := 112) q_260_98 rfl).trans (js_ite (rfl) ((j_aload_n q_260_101 rfl).trans <| (j_bi q_260_102 rfl).trans <| (j_iload q_260_104 rfl).trans <| (j_iconst q_260_106).trans <| rfl))
theorem k_260_107 {E : js_E} {d : Nat} {σ σ2 : js_S} {x1 x2 x3 x5 x7 x8 x9 x10 x12 z1 z2 z3 : Int} {v : Int} (hd : 1 ≤ d) (hz : js_J E (d - 1) 251 0 [(2, 83), (0, z1), (0, z2), (0, z3)] [] σ = js_r E (0, v) σ2) : js_J E d 260 107 [(2, 83), (0, x1), (0, x2), (1, x3), (9, 0), (1, x5), (9, 0), (0, x7), (0, x8), (0, x9), (1, x10), (9, 0), (0, x12)] [(0, z3), (0, z2), (0, z1), (2, 83)] σ = js_J E d 260 110 [(2, 83), (0, x1), (0, x2), (1, x3), (9, 0), (1, x5), (9, 0), (0, x7), (0, x8), (0, x9), (1, x10), (9, 0), (0, x12)] [(0, v)] σ2 :=
  j_call (m := 0) (js_caV q_260_107 (js_Mo qy_260 qm_12_505)) (js_agV (av := [(0, z1), (0, z2), (0, z3)]) (st := []) rfl rfl js_o83 rfl) rfl rfl (by rw [ql_251]; exact Nat.le_of_ble_eq_true rfl) (Nat.le_of_ble_eq_true rfl) hd hz
theorem b_260_110 {E : js_E} {d : Nat} {σ : js_S} {x1 x2 x3 x5 x7 x8 x9 x10 x12 z0 : Int} : js_J E d 260 110 [(2, 83), (0, x1), (0, x2), (1, x3), (9, 0), (1, x5), (9, 0), (0, x7), (0, x8), (0, x9), (1, x10), (9, 0), (0, x12)] [(0, z0)] σ = js_J E d 260 112 [(2, 83), (0, x1), (0, x2), (1, x3), (9, 0), (1, x5), (9, 0), (0, z0), (0, x8), (0, x9), (1, x10), (9, 0), (0, x12)] [] σ :=
  (j_istore (l2 := [(2, 83), (0, x1), (0, x2), (1, x3), (9, 0), (1, x5), (9, 0), (0, z0), (0, x8), (0, x9), (1, x10), (9, 0), (0, x12)]) q_260_110 rfl (Nat.le_of_ble_eq_true rfl)).trans <| rfl
theorem b_260_112 {E : js_E} {d : Nat} {σ : js_S} {x1 x2 x3 x5 x7 x8 x9 x10 x12 : Int} : js_J E d 260 112 [(2, 83), (0, x1), (0, x2), (1, x3), (9, 0), (1, x5), (9, 0), (0, x7), (0, x8), (0, x9), (1, x10), (9, 0), (0, x12)] [] σ = js_J E d 260 115 [(2, 83), (0, x1), (0, x2), (1, x3), (9, 0), (1, x5), (9, 0), (0, x7), (0, x8), (0, x9), (1, x10), (9, 0), (0, x12)] [(0, x9), (2, 83)] σ :=
  (j_aload_n q_260_112 rfl).trans <| (j_iload q_260_113 rfl).trans <| rfl
theorem k_260_115 {E : js_E} {d : Nat} {σ σ2 : js_S} {x1 x2 x3 x5 x7 x8 x9 x10 x12 z1 : Int} (hd : 1 ≤ d) (hz : js_J E (d - 1) 252 0 [(2, 83), (0, z1)] [] σ = js_r0 E σ2) : js_J E d 260 115 [(2, 83), (0, x1), (0, x2), (1, x3), (9, 0), (1, x5), (9, 0), (0, x7), (0, x8), (0, x9), (1, x10), (9, 0), (0, x12)] [(0, z1), (2, 83)] σ = js_J E d 260 118 [(2, 83), (0, x1), (0, x2), (1, x3), (9, 0), (1, x5), (9, 0), (0, x7), (0, x8), (0, x9), (1, x10), (9, 0), (0, x12)] [] σ2 :=
  j_call0 (m := 0) (js_caV q_260_115 (js_Mo qy_260 qm_12_517)) (js_agV (av := [(0, z1)]) (st := []) rfl rfl js_o83 rfl) rfl rfl (by rw [ql_252]; exact Nat.le_of_ble_eq_true rfl) (Nat.le_of_ble_eq_true rfl) hd hz
theorem b_260_118 {E : js_E} {d : Nat} {σ : js_S} {x1 x2 x3 x5 x7 x8 x9 x10 x12 : Int} : js_J E d 260 118 [(2, 83), (0, x1), (0, x2), (1, x3), (9, 0), (1, x5), (9, 0), (0, x7), (0, x8), (0, x9), (1, x10), (9, 0), (0, x12)] [] σ = (if 0 ≤ js_w x8 ∧ js_w x8 < 66000 then (if js_w (σ 106 (js_w x8)) = 1 then js_J E d 260 139 [(2, 83), (0, x1), (0, x2), (1, x3), (9, 0), (1, x5), (9, 0), (0, x7), (0, x8), (0, x9), (1, x10), (9, 0), (0, x12)] [(0, x2), (0, σ 104 (js_w x8)), (2, 83), (1, x3)] σ else js_J E d 260 144 [(2, 83), (0, x1), (0, x2), (1, x3), (9, 0), (1, x5), (9, 0), (0, x7), (0, x8), (0, x9), (1, x10), (9, 0), (0, x12)] [] σ) else none) :=
  (j_aload_n q_260_118 rfl).trans <| (j_get (ji := 40) (v := (2, 106)) q_260_119 (js_Fo qy_260 qf_12_178) js_o83 rfl rfl rfl rfl).trans <| (j_iload q_260_122 rfl).trans <| (j_iaload q_260_124 js_o106).trans <| js_itp fun g0 => (j_iconst q_260_125).trans <| (j_cmpneB (t := 144) q_260_126 rfl ww_1).trans (js_ite ((j_lload_n q_260_129 rfl).trans <| (j_aload_n q_260_130 rfl).trans <| (j_aload_n q_260_131 rfl).trans <| (j_get (ji := 38) (v := (2, 104)) q_260_132 (js_Fo qy_260 qf_12_187) js_o83 rfl rfl rfl rfl).trans <| (j_iload q_260_135 rfl).trans <| (j_iaload q_260_137 js_o104).trans <| (if_pos g0).trans <| (j_iload_n q_260_138 rfl).trans <| rfl) (rfl))
theorem k_260_139 {E : js_E} {d : Nat} {σ σ2 : js_S} {x1 x2 x3 x5 x7 x8 x9 x10 x12 z0 z2 z3 : Int} {v : Int} (hd : 1 ≤ d) (hz : js_J E (d - 1) 246 0 [(2, 83), (0, z2), (0, z3), (9, 0), (9, 0), (9, 0)] [] σ = js_r E (1, v) σ2) : js_J E d 260 139 [(2, 83), (0, x1), (0, x2), (1, x3), (9, 0), (1, x5), (9, 0), (0, x7), (0, x8), (0, x9), (1, x10), (9, 0), (0, x12)] [(0, z3), (0, z2), (2, 83), (1, z0)] σ = js_J E d 260 142 [(2, 83), (0, x1), (0, x2), (1, x3), (9, 0), (1, x5), (9, 0), (0, x7), (0, x8), (0, x9), (1, x10), (9, 0), (0, x12)] [(1, v), (1, z0)] σ2 :=
  j_call (m := 3) (js_caV q_260_139 (js_Mo qy_260 qm_12_550)) (js_agV (av := [(0, z2), (0, z3)]) (st := [(1, z0)]) rfl rfl js_o83 rfl) rfl rfl (by rw [ql_246]; exact Nat.le_of_ble_eq_true rfl) (Nat.le_of_ble_eq_true rfl) hd hz
theorem b_260_142 {E : js_E} {d : Nat} {σ : js_S} {x1 x2 x3 x5 x7 x8 x9 x10 x12 z0 z1 : Int} : js_J E d 260 142 [(2, 83), (0, x1), (0, x2), (1, x3), (9, 0), (1, x5), (9, 0), (0, x7), (0, x8), (0, x9), (1, x10), (9, 0), (0, x12)] [(1, z1), (1, z0)] σ = js_J E d 260 144 [(2, 83), (0, x1), (0, x2), (1, z0 + z1), (9, 0), (1, x5), (9, 0), (0, x7), (0, x8), (0, x9), (1, x10), (9, 0), (0, x12)] [] σ :=
  (j_ladd q_260_142).trans <| (j_lstore_n (l2 := [(2, 83), (0, x1), (0, x2), (1, z0 + z1), (9, 0), (1, x5), (9, 0), (0, x7), (0, x8), (0, x9), (1, x10), (9, 0), (0, x12)]) q_260_143 rfl (Nat.le_of_ble_eq_true rfl)).trans <| rfl
theorem b_260_144 {E : js_E} {d : Nat} {σ : js_S} {x1 x2 x3 x5 x7 x8 x9 x10 x12 : Int} : js_J E d 260 144 [(2, 83), (0, x1), (0, x2), (1, x3), (9, 0), (1, x5), (9, 0), (0, x7), (0, x8), (0, x9), (1, x10), (9, 0), (0, x12)] [] σ = (if 0 ≤ js_w x8 ∧ js_w x8 < 66000 then (if js_w (σ 106 (js_w x8)) = 2 then js_J E d 260 166 [(2, 83), (0, x1), (0, x2), (1, x3), (9, 0), (1, x5), (9, 0), (0, x7), (0, x8), (0, x9), (1, x10), (9, 0), (0, x12)] [(0, σ 104 (js_w x8))] σ else js_J E d 260 166 [(2, 83), (0, x1), (0, x2), (1, x3), (9, 0), (1, x5), (9, 0), (0, x7), (0, x8), (0, x9), (1, x10), (9, 0), (0, x12)] [(0, (-1))] σ) else none) :=
  (j_aload_n q_260_144 rfl).trans <| (j_get (ji := 40) (v := (2, 106)) q_260_145 (js_Fo qy_260 qf_12_178) js_o83 rfl rfl rfl rfl).trans <| (j_iload q_260_148 rfl).trans <| (j_iaload q_260_150 js_o106).trans <| js_itp fun g0 => (j_iconst q_260_151).trans <| (j_cmpneB (t := 165) q_260_152 rfl ww_2).trans (js_ite ((j_aload_n q_260_155 rfl).trans <| (j_get (ji := 38) (v := (2, 104)) q_260_156 (js_Fo qy_260 qf_12_187) js_o83 rfl rfl rfl rfl).trans <| (j_iload q_260_159 rfl).trans <| (j_iaload q_260_161 js_o104).trans <| (if_pos g0).trans <| (j_goto (t := 166) q_260_162 rfl).trans <| rfl) ((j_iconst q_260_165).trans <| rfl))
theorem b_260_166 {E : js_E} {d : Nat} {σ : js_S} {x1 x2 x3 x5 x7 x8 x9 x10 x12 z0 : Int} : js_J E d 260 166 [(2, 83), (0, x1), (0, x2), (1, x3), (9, 0), (1, x5), (9, 0), (0, x7), (0, x8), (0, x9), (1, x10), (9, 0), (0, x12)] [(0, z0)] σ = js_J E d 260 11 [(2, 83), (0, x1), (0, x2), (1, x3), (9, 0), (1, x5), (9, 0), (0, x7), (0, z0), (0, x9), (1, x10), (9, 0), (0, x12)] [] σ :=
  (j_istore (l2 := [(2, 83), (0, x1), (0, x2), (1, x3), (9, 0), (1, x5), (9, 0), (0, x7), (0, z0), (0, x9), (1, x10), (9, 0), (0, x12)]) q_260_166 rfl (Nat.le_of_ble_eq_true rfl)).trans <| (j_goto (t := 11) q_260_168 rfl).trans <| rfl
theorem k_260_174 {E : js_E} {d : Nat} {σ σ2 : js_S} {x1 x2 x3 x5 x7 x8 z1 : Int} {ux9 ux10 ux12 : js_v} (hd : 1 ≤ d) (hz : js_J E (d - 1) 259 0 [(2, 83), (0, z1), (9, 0), (9, 0)] [] σ = js_r0 E σ2) : js_J E d 260 174 [(2, 83), (0, x1), (0, x2), (1, x3), (9, 0), (1, x5), (9, 0), (0, x7), (0, x8), ux9, ux10, (9, 0), ux12] [(0, z1), (2, 83)] σ = js_J E d 260 177 [(2, 83), (0, x1), (0, x2), (1, x3), (9, 0), (1, x5), (9, 0), (0, x7), (0, x8), ux9, ux10, (9, 0), ux12] [] σ2 :=
  j_call0 (m := 2) (js_caV q_260_174 (js_Mo qy_260 qm_12_553)) (js_agV (av := [(0, z1)]) (st := []) rfl rfl js_o83 rfl) rfl rfl (by rw [ql_259]; exact Nat.le_of_ble_eq_true rfl) (Nat.le_of_ble_eq_true rfl) hd hz
theorem b_260_177 {E : js_E} {d : Nat} {σ : js_S} {x1 x2 x3 x5 x7 x8 : Int} {ux9 ux10 ux12 : js_v} (hd : 4 ≤ d) : js_J E d 260 177 [(2, 83), (0, x1), (0, x2), (1, x3), (9, 0), (1, x5), (9, 0), (0, x7), (0, x8), ux9, ux10, (9, 0), ux12] [] σ = js_J E d 260 183 [(2, 83), (0, x1), (0, x2), (1, x3), (9, 0), (1, x5), (9, 0), (0, x7), (0, x8), ux9, ux10, (9, 0), ux12] [(1, if js_l x3 < js_l x5 then x5 else x3)] σ :=
  (j_lload q_260_177 rfl).trans <| (j_lload_n q_260_179 rfl).trans <| (j_lmax (js_clS q_260_180 (js_Mo qy_260 qm_12_241)) (Nat.le_of_ble_eq_true rfl) hd).trans <| rfl
theorem k_260_183 {E : js_E} {d : Nat} {σ σ2 : js_S} {x1 x2 x3 x5 x7 x8 z0 : Int} {ux9 ux10 ux12 : js_v} {v : Int} (hd : 1 ≤ d) (hz : js_J E (d - 1) 253 0 [(1, z0), (9, 0)] [] σ = js_r E (1, v) σ2) : js_J E d 260 183 [(2, 83), (0, x1), (0, x2), (1, x3), (9, 0), (1, x5), (9, 0), (0, x7), (0, x8), ux9, ux10, (9, 0), ux12] [(1, z0)] σ = js_J E d 260 186 [(2, 83), (0, x1), (0, x2), (1, x3), (9, 0), (1, x5), (9, 0), (0, x7), (0, x8), ux9, ux10, (9, 0), ux12] [(1, v)] σ2 :=
  j_call (m := 0) (js_caS q_260_183 (js_Mo qy_260 qm_12_520)) (js_agS (av := [(1, z0)]) (st := []) rfl rfl) rfl rfl (by rw [ql_253]; exact Nat.le_of_ble_eq_true rfl) (Nat.le_of_ble_eq_true rfl) hd hz
theorem b_260_186 {E : js_E} {d : Nat} {σ : js_S} {x1 x2 x3 x5 x7 x8 z0 : Int} {ux9 ux10 ux12 : js_v} : js_J E d 260 186 [(2, 83), (0, x1), (0, x2), (1, x3), (9, 0), (1, x5), (9, 0), (0, x7), (0, x8), ux9, ux10, (9, 0), ux12] [(1, z0)] σ = js_r E (1, z0) σ :=
  j_lreturn q_260_186 qr_260
-- 261: VitalTwinModel.genFor (II)J
theorem b_261_0 {E : js_E} {d : Nat} {σ : js_S} {x1 x2 : Int} : js_J E d 261 0 [(2, 83), (0, x1), (0, x2), (9, 0), (9, 0), (9, 0), (9, 0), (9, 0), (9, 0), (9, 0), (9, 0), (9, 0)] [] σ = (if 0 ≤ js_w x1 ∧ js_w x1 < 66000 then (if 0 ≤ js_w (σ 102 (js_w x1)) ∧ js_w (σ 102 (js_w x1)) < 400 then js_J E d 261 30 [(2, 83), (0, x1), (0, x2), (0, σ 102 (js_w x1)), (9, 0), (9, 0), (9, 0), (9, 0), (9, 0), (9, 0), (9, 0), (9, 0)] [(1, js_w (σ 88 (js_w (σ 102 (js_w x1))))), (1, js_w (σ 88 (js_w (σ 102 (js_w x1))))), (0, 0), (0, σ 88 (js_w (σ 102 (js_w x1)))), (0, 0), (2, 83)] σ else none) else none) :=
  (j_aload_n q_261_0 rfl).trans <| (j_get (ji := 36) (v := (2, 102)) q_261_1 (js_Fo qy_261 qf_12_181) js_o83 rfl rfl rfl rfl).trans <| (j_iload_n q_261_4 rfl).trans <| (j_iaload q_261_5 js_o102).trans <| js_itp fun g0 => (j_istore_n (l2 := [(2, 83), (0, x1), (0, x2), (0, σ 102 (js_w x1)), (9, 0), (9, 0), (9, 0), (9, 0), (9, 0), (9, 0), (9, 0), (9, 0)]) q_261_6 rfl (Nat.le_of_ble_eq_true rfl)).trans <| (j_aload_n q_261_7 rfl).trans <| (j_iconst q_261_8).trans <| (j_aload_n q_261_9 rfl).trans <| (j_get (ji := 14) (v := (2, 88)) q_261_10 (js_Fo qy_261 qf_12_105) js_o83 rfl rfl rfl rfl).trans <| (j_iload_n q_261_13 rfl).trans <| (j_iaload q_261_14 js_o88).trans <| js_itp fun g1 => (j_iconst q_261_15).trans <| (j_aload_n q_261_16 rfl).trans <| (j_get (ji := 14) (v := (2, 88)) q_261_17 (js_Fo qy_261 qf_12_105) js_o83 rfl rfl rfl rfl).trans <| (j_iload_n q_261_20 rfl).trans <| (j_iaload q_261_21 js_o88).trans <| (if_pos g1).trans <| (j_i2l q_261_22).trans <| (j_aload_n q_261_23 rfl).trans <| (j_get (ji := 14) (v := (2, 88)) q_261_24 (js_Fo qy_261 qf_12_105) js_o83 rfl rfl rfl rfl).trans <| (j_iload_n q_261_27 rfl).trans <| (j_iaload q_261_28 js_o88).trans <| (if_pos g1).trans <| (j_i2l q_261_29).trans <| rfl
theorem k_261_30 {E : js_E} {d : Nat} {σ σ2 : js_S} {x1 x2 x3 z1 z2 z3 z4 z5 : Int} {v : Int} (hd : 1 ≤ d) (hz : js_J E (d - 1) 250 0 [(2, 83), (0, z1), (0, z2), (0, z3), (1, z4), (9, 0), (1, z5), (9, 0)] [] σ = js_r E (0, v) σ2) : js_J E d 261 30 [(2, 83), (0, x1), (0, x2), (0, x3), (9, 0), (9, 0), (9, 0), (9, 0), (9, 0), (9, 0), (9, 0), (9, 0)] [(1, z5), (1, z4), (0, z3), (0, z2), (0, z1), (2, 83)] σ = js_J E d 261 33 [(2, 83), (0, x1), (0, x2), (0, x3), (9, 0), (9, 0), (9, 0), (9, 0), (9, 0), (9, 0), (9, 0), (9, 0)] [(0, v)] σ2 :=
  j_call (m := 0) (js_caV q_261_30 (js_Mo qy_261 qm_12_483)) (js_agV (av := [(0, z1), (0, z2), (0, z3), (1, z4), (1, z5)]) (st := []) rfl rfl js_o83 rfl) rfl rfl (by rw [ql_250]; exact Nat.le_of_ble_eq_true rfl) (Nat.le_of_ble_eq_true rfl) hd hz
theorem b_261_33 {E : js_E} {d : Nat} {σ : js_S} {x1 x2 x3 z0 : Int} : js_J E d 261 33 [(2, 83), (0, x1), (0, x2), (0, x3), (9, 0), (9, 0), (9, 0), (9, 0), (9, 0), (9, 0), (9, 0), (9, 0)] [(0, z0)] σ = (if 0 ≤ js_w x3 ∧ js_w x3 < 400 then js_J E d 261 43 [(2, 83), (0, x1), (0, x2), (0, x3), (9, 0), (9, 0), (9, 0), (9, 0), (9, 0), (9, 0), (9, 0), (9, 0)] [(0, 0), (0, σ 90 (js_w x3)), (0, 2), (2, 83)] σ else none) :=
  (j_pop0 q_261_33).trans <| (j_aload_n q_261_34 rfl).trans <| (j_iconst q_261_35).trans <| (j_aload_n q_261_36 rfl).trans <| (j_get (ji := 16) (v := (2, 90)) q_261_37 (js_Fo qy_261 qf_12_111) js_o83 rfl rfl rfl rfl).trans <| (j_iload_n q_261_40 rfl).trans <| (j_iaload q_261_41 js_o90).trans <| js_itp fun g0 => (j_iconst q_261_42).trans <| rfl
theorem k_261_43 {E : js_E} {d : Nat} {σ σ2 : js_S} {x1 x2 x3 z1 z2 z3 : Int} {v : Int} (hd : 1 ≤ d) (hz : js_J E (d - 1) 251 0 [(2, 83), (0, z1), (0, z2), (0, z3)] [] σ = js_r E (0, v) σ2) : js_J E d 261 43 [(2, 83), (0, x1), (0, x2), (0, x3), (9, 0), (9, 0), (9, 0), (9, 0), (9, 0), (9, 0), (9, 0), (9, 0)] [(0, z3), (0, z2), (0, z1), (2, 83)] σ = js_J E d 261 46 [(2, 83), (0, x1), (0, x2), (0, x3), (9, 0), (9, 0), (9, 0), (9, 0), (9, 0), (9, 0), (9, 0), (9, 0)] [(0, v)] σ2 :=
  j_call (m := 0) (js_caV q_261_43 (js_Mo qy_261 qm_12_505)) (js_agV (av := [(0, z1), (0, z2), (0, z3)]) (st := []) rfl rfl js_o83 rfl) rfl rfl (by rw [ql_251]; exact Nat.le_of_ble_eq_true rfl) (Nat.le_of_ble_eq_true rfl) hd hz
theorem b_261_46 {E : js_E} {d : Nat} {σ : js_S} {x1 x2 x3 z0 : Int} : js_J E d 261 46 [(2, 83), (0, x1), (0, x2), (0, x3), (9, 0), (9, 0), (9, 0), (9, 0), (9, 0), (9, 0), (9, 0), (9, 0)] [(0, z0)] σ = (if 0 ≤ js_w x3 ∧ js_w x3 < 400 then js_J E d 261 76 [(2, 83), (0, x1), (0, x2), (0, x3), (0, σ 83 49), (9, 0), (9, 0), (9, 0), (9, 0), (9, 0), (9, 0), (9, 0)] [(1, js_w (σ 89 (js_w x3))), (1, js_w (σ 89 (js_w x3))), (0, 0), (0, σ 89 (js_w x3)), (0, 0), (2, 83)] σ else none) :=
  (j_pop0 q_261_46).trans <| (j_aload_n q_261_47 rfl).trans <| (j_get (ji := 49) (v := (0, σ 83 49)) q_261_48 (js_Fo qy_261 qf_12_428) js_o83 rfl rfl rfl rfl).trans <| (j_istore (l2 := [(2, 83), (0, x1), (0, x2), (0, x3), (0, σ 83 49), (9, 0), (9, 0), (9, 0), (9, 0), (9, 0), (9, 0), (9, 0)]) q_261_51 rfl (Nat.le_of_ble_eq_true rfl)).trans <| (j_aload_n q_261_53 rfl).trans <| (j_iconst q_261_54).trans <| (j_aload_n q_261_55 rfl).trans <| (j_get (ji := 15) (v := (2, 89)) q_261_56 (js_Fo qy_261 qf_12_108) js_o83 rfl rfl rfl rfl).trans <| (j_iload_n q_261_59 rfl).trans <| (j_iaload q_261_60 js_o89).trans <| js_itp fun g0 => (j_iconst q_261_61).trans <| (j_aload_n q_261_62 rfl).trans <| (j_get (ji := 15) (v := (2, 89)) q_261_63 (js_Fo qy_261 qf_12_108) js_o83 rfl rfl rfl rfl).trans <| (j_iload_n q_261_66 rfl).trans <| (j_iaload q_261_67 js_o89).trans <| (if_pos g0).trans <| (j_i2l q_261_68).trans <| (j_aload_n q_261_69 rfl).trans <| (j_get (ji := 15) (v := (2, 89)) q_261_70 (js_Fo qy_261 qf_12_108) js_o83 rfl rfl rfl rfl).trans <| (j_iload_n q_261_73 rfl).trans <| (j_iaload q_261_74 js_o89).trans <| (if_pos g0).trans <| (j_i2l q_261_75).trans <| rfl
theorem k_261_76 {E : js_E} {d : Nat} {σ σ2 : js_S} {x1 x2 x3 x4 z1 z2 z3 z4 z5 : Int} {v : Int} (hd : 1 ≤ d) (hz : js_J E (d - 1) 250 0 [(2, 83), (0, z1), (0, z2), (0, z3), (1, z4), (9, 0), (1, z5), (9, 0)] [] σ = js_r E (0, v) σ2) : js_J E d 261 76 [(2, 83), (0, x1), (0, x2), (0, x3), (0, x4), (9, 0), (9, 0), (9, 0), (9, 0), (9, 0), (9, 0), (9, 0)] [(1, z5), (1, z4), (0, z3), (0, z2), (0, z1), (2, 83)] σ = js_J E d 261 79 [(2, 83), (0, x1), (0, x2), (0, x3), (0, x4), (9, 0), (9, 0), (9, 0), (9, 0), (9, 0), (9, 0), (9, 0)] [(0, v)] σ2 :=
  j_call (m := 0) (js_caV q_261_76 (js_Mo qy_261 qm_12_483)) (js_agV (av := [(0, z1), (0, z2), (0, z3), (1, z4), (1, z5)]) (st := []) rfl rfl js_o83 rfl) rfl rfl (by rw [ql_250]; exact Nat.le_of_ble_eq_true rfl) (Nat.le_of_ble_eq_true rfl) hd hz
theorem b_261_79 {E : js_E} {d : Nat} {σ : js_S} {x1 x2 x3 x4 z0 : Int} : js_J E d 261 79 [(2, 83), (0, x1), (0, x2), (0, x3), (0, x4), (9, 0), (9, 0), (9, 0), (9, 0), (9, 0), (9, 0), (9, 0)] [(0, z0)] σ = js_J E d 261 84 [(2, 83), (0, x1), (0, x2), (0, x3), (0, x4), (9, 0), (9, 0), (9, 0), (9, 0), (9, 0), (9, 0), (9, 0)] [(0, 0), (0, 0), (0, 3), (2, 83)] σ :=
  (j_pop0 q_261_79).trans <| (j_aload_n q_261_80 rfl).trans <| (j_iconst q_261_81).trans <| (j_iconst q_261_82).trans <| (j_iconst q_261_83).trans <| rfl
theorem k_261_84 {E : js_E} {d : Nat} {σ σ2 : js_S} {x1 x2 x3 x4 z1 z2 z3 : Int} {v : Int} (hd : 1 ≤ d) (hz : js_J E (d - 1) 251 0 [(2, 83), (0, z1), (0, z2), (0, z3)] [] σ = js_r E (0, v) σ2) : js_J E d 261 84 [(2, 83), (0, x1), (0, x2), (0, x3), (0, x4), (9, 0), (9, 0), (9, 0), (9, 0), (9, 0), (9, 0), (9, 0)] [(0, z3), (0, z2), (0, z1), (2, 83)] σ = js_J E d 261 87 [(2, 83), (0, x1), (0, x2), (0, x3), (0, x4), (9, 0), (9, 0), (9, 0), (9, 0), (9, 0), (9, 0), (9, 0)] [(0, v)] σ2 :=
  j_call (m := 0) (js_caV q_261_84 (js_Mo qy_261 qm_12_505)) (js_agV (av := [(0, z1), (0, z2), (0, z3)]) (st := []) rfl rfl js_o83 rfl) rfl rfl (by rw [ql_251]; exact Nat.le_of_ble_eq_true rfl) (Nat.le_of_ble_eq_true rfl) hd hz
theorem b_261_87 {E : js_E} {d : Nat} {σ : js_S} {x1 x2 x3 x4 z0 : Int} : js_J E d 261 87 [(2, 83), (0, x1), (0, x2), (0, x3), (0, x4), (9, 0), (9, 0), (9, 0), (9, 0), (9, 0), (9, 0), (9, 0)] [(0, z0)] σ = (if 0 ≤ js_w x3 ∧ js_w x3 < 400 then js_J E d 261 113 [(2, 83), (0, x1), (0, x2), (0, x3), (0, x4), (9, 0), (9, 0), (9, 0), (9, 0), (9, 0), (9, 0), (9, 0)] [(1, (js_w (σ 89 (js_w x3))) + 1), (1, js_w (σ 88 (js_w x3))), (0, 0), (0, σ 90 (js_w x3)), (0, 1), (2, 83)] σ else none) :=
  (j_pop0 q_261_87).trans <| (j_aload_n q_261_88 rfl).trans <| (j_iconst q_261_89).trans <| (j_aload_n q_261_90 rfl).trans <| (j_get (ji := 16) (v := (2, 90)) q_261_91 (js_Fo qy_261 qf_12_111) js_o83 rfl rfl rfl rfl).trans <| (j_iload_n q_261_94 rfl).trans <| (j_iaload q_261_95 js_o90).trans <| js_itp fun g0 => (j_iconst q_261_96).trans <| (j_aload_n q_261_97 rfl).trans <| (j_get (ji := 14) (v := (2, 88)) q_261_98 (js_Fo qy_261 qf_12_105) js_o83 rfl rfl rfl rfl).trans <| (j_iload_n q_261_101 rfl).trans <| (j_iaload q_261_102 js_o88).trans <| (if_pos g0).trans <| (j_i2l q_261_103).trans <| (j_aload_n q_261_104 rfl).trans <| (j_get (ji := 15) (v := (2, 89)) q_261_105 (js_Fo qy_261 qf_12_108) js_o83 rfl rfl rfl rfl).trans <| (j_iload_n q_261_108 rfl).trans <| (j_iaload q_261_109 js_o89).trans <| (if_pos g0).trans <| (j_i2l q_261_110).trans <| (j_lconst1 q_261_111).trans <| (j_ladd q_261_112).trans <| rfl
theorem k_261_113 {E : js_E} {d : Nat} {σ σ2 : js_S} {x1 x2 x3 x4 z1 z2 z3 z4 z5 : Int} {v : Int} (hd : 1 ≤ d) (hz : js_J E (d - 1) 250 0 [(2, 83), (0, z1), (0, z2), (0, z3), (1, z4), (9, 0), (1, z5), (9, 0)] [] σ = js_r E (0, v) σ2) : js_J E d 261 113 [(2, 83), (0, x1), (0, x2), (0, x3), (0, x4), (9, 0), (9, 0), (9, 0), (9, 0), (9, 0), (9, 0), (9, 0)] [(1, z5), (1, z4), (0, z3), (0, z2), (0, z1), (2, 83)] σ = js_J E d 261 116 [(2, 83), (0, x1), (0, x2), (0, x3), (0, x4), (9, 0), (9, 0), (9, 0), (9, 0), (9, 0), (9, 0), (9, 0)] [(0, v)] σ2 :=
  j_call (m := 0) (js_caV q_261_113 (js_Mo qy_261 qm_12_483)) (js_agV (av := [(0, z1), (0, z2), (0, z3), (1, z4), (1, z5)]) (st := []) rfl rfl js_o83 rfl) rfl rfl (by rw [ql_250]; exact Nat.le_of_ble_eq_true rfl) (Nat.le_of_ble_eq_true rfl) hd hz
theorem b_261_116 {E : js_E} {d : Nat} {σ : js_S} {x1 x2 x3 x4 z0 : Int} : js_J E d 261 116 [(2, 83), (0, x1), (0, x2), (0, x3), (0, x4), (9, 0), (9, 0), (9, 0), (9, 0), (9, 0), (9, 0), (9, 0)] [(0, z0)] σ = js_J E d 261 124 [(2, 83), (0, x1), (0, x2), (0, x3), (0, x4), (9, 0), (9, 0), (9, 0), (9, 0), (9, 0), (9, 0), (9, 0)] [(1, 1), (1, 0), (0, 0), (0, 0), (0, 14), (2, 83)] σ :=
  (j_pop0 q_261_116).trans <| (j_aload_n q_261_117 rfl).trans <| (j_bi q_261_118 rfl).trans <| (j_iconst q_261_120).trans <| (j_iconst q_261_121).trans <| (j_lconst0 q_261_122).trans <| (j_lconst1 q_261_123).trans <| rfl
theorem k_261_124 {E : js_E} {d : Nat} {σ σ2 : js_S} {x1 x2 x3 x4 z1 z2 z3 z4 z5 : Int} {v : Int} (hd : 1 ≤ d) (hz : js_J E (d - 1) 250 0 [(2, 83), (0, z1), (0, z2), (0, z3), (1, z4), (9, 0), (1, z5), (9, 0)] [] σ = js_r E (0, v) σ2) : js_J E d 261 124 [(2, 83), (0, x1), (0, x2), (0, x3), (0, x4), (9, 0), (9, 0), (9, 0), (9, 0), (9, 0), (9, 0), (9, 0)] [(1, z5), (1, z4), (0, z3), (0, z2), (0, z1), (2, 83)] σ = js_J E d 261 127 [(2, 83), (0, x1), (0, x2), (0, x3), (0, x4), (9, 0), (9, 0), (9, 0), (9, 0), (9, 0), (9, 0), (9, 0)] [(0, v)] σ2 :=
  j_call (m := 0) (js_caV q_261_124 (js_Mo qy_261 qm_12_483)) (js_agV (av := [(0, z1), (0, z2), (0, z3), (1, z4), (1, z5)]) (st := []) rfl rfl js_o83 rfl) rfl rfl (by rw [ql_250]; exact Nat.le_of_ble_eq_true rfl) (Nat.le_of_ble_eq_true rfl) hd hz
theorem b_261_127 {E : js_E} {d : Nat} {σ : js_S} {x1 x2 x3 x4 z0 : Int} : js_J E d 261 127 [(2, 83), (0, x1), (0, x2), (0, x3), (0, x4), (9, 0), (9, 0), (9, 0), (9, 0), (9, 0), (9, 0), (9, 0)] [(0, z0)] σ = js_J E d 261 133 [(2, 83), (0, x1), (0, x2), (0, x3), (0, x4), (9, 0), (9, 0), (9, 0), (9, 0), (9, 0), (9, 0), (9, 0)] [(0, 0), (0, 0), (0, 25), (2, 83)] σ :=
  (j_pop0 q_261_127).trans <| (j_aload_n q_261_128 rfl).trans <| (j_bi q_261_129 rfl).trans <| (j_iconst q_261_131).trans <| (j_iconst q_261_132).trans <| rfl
theorem k_261_133 {E : js_E} {d : Nat} {σ σ2 : js_S} {x1 x2 x3 x4 z1 z2 z3 : Int} {v : Int} (hd : 1 ≤ d) (hz : js_J E (d - 1) 251 0 [(2, 83), (0, z1), (0, z2), (0, z3)] [] σ = js_r E (0, v) σ2) : js_J E d 261 133 [(2, 83), (0, x1), (0, x2), (0, x3), (0, x4), (9, 0), (9, 0), (9, 0), (9, 0), (9, 0), (9, 0), (9, 0)] [(0, z3), (0, z2), (0, z1), (2, 83)] σ = js_J E d 261 136 [(2, 83), (0, x1), (0, x2), (0, x3), (0, x4), (9, 0), (9, 0), (9, 0), (9, 0), (9, 0), (9, 0), (9, 0)] [(0, v)] σ2 :=
  j_call (m := 0) (js_caV q_261_133 (js_Mo qy_261 qm_12_505)) (js_agV (av := [(0, z1), (0, z2), (0, z3)]) (st := []) rfl rfl js_o83 rfl) rfl rfl (by rw [ql_251]; exact Nat.le_of_ble_eq_true rfl) (Nat.le_of_ble_eq_true rfl) hd hz
theorem b_261_136 {E : js_E} {d : Nat} {σ : js_S} {x1 x2 x3 x4 z0 : Int} : js_J E d 261 136 [(2, 83), (0, x1), (0, x2), (0, x3), (0, x4), (9, 0), (9, 0), (9, 0), (9, 0), (9, 0), (9, 0), (9, 0)] [(0, z0)] σ = (if 0 ≤ js_w x1 ∧ js_w x1 < 66000 then js_J E d 261 146 [(2, 83), (0, x1), (0, x2), (0, x3), (0, x4), (0, z0), (9, 0), (9, 0), (9, 0), (9, 0), (9, 0), (9, 0)] [(0, x2), (0, σ 103 (js_w x1)), (2, 83)] σ else none) :=
  (j_istore (l2 := [(2, 83), (0, x1), (0, x2), (0, x3), (0, x4), (0, z0), (9, 0), (9, 0), (9, 0), (9, 0), (9, 0), (9, 0)]) q_261_136 rfl (Nat.le_of_ble_eq_true rfl)).trans <| (j_aload_n q_261_138 rfl).trans <| (j_aload_n q_261_139 rfl).trans <| (j_get (ji := 37) (v := (2, 103)) q_261_140 (js_Fo qy_261 qf_12_184) js_o83 rfl rfl rfl rfl).trans <| (j_iload_n q_261_143 rfl).trans <| (j_iaload q_261_144 js_o103).trans <| js_itp fun g0 => (j_iload_n q_261_145 rfl).trans <| rfl
theorem k_261_146 {E : js_E} {d : Nat} {σ σ2 : js_S} {x1 x2 x3 x4 x5 z1 z2 : Int} {v : Int} (hd : 1 ≤ d) (hz : js_J E (d - 1) 246 0 [(2, 83), (0, z1), (0, z2), (9, 0), (9, 0), (9, 0)] [] σ = js_r E (1, v) σ2) : js_J E d 261 146 [(2, 83), (0, x1), (0, x2), (0, x3), (0, x4), (0, x5), (9, 0), (9, 0), (9, 0), (9, 0), (9, 0), (9, 0)] [(0, z2), (0, z1), (2, 83)] σ = js_J E d 261 149 [(2, 83), (0, x1), (0, x2), (0, x3), (0, x4), (0, x5), (9, 0), (9, 0), (9, 0), (9, 0), (9, 0), (9, 0)] [(1, v)] σ2 :=
  j_call (m := 3) (js_caV q_261_146 (js_Mo qy_261 qm_12_550)) (js_agV (av := [(0, z1), (0, z2)]) (st := []) rfl rfl js_o83 rfl) rfl rfl (by rw [ql_246]; exact Nat.le_of_ble_eq_true rfl) (Nat.le_of_ble_eq_true rfl) hd hz
theorem b_261_149 {E : js_E} {d : Nat} {σ : js_S} {x1 x2 x3 x4 x5 z0 : Int} : js_J E d 261 149 [(2, 83), (0, x1), (0, x2), (0, x3), (0, x4), (0, x5), (9, 0), (9, 0), (9, 0), (9, 0), (9, 0), (9, 0)] [(1, z0)] σ = js_J E d 261 157 [(2, 83), (0, x1), (0, x2), (0, x3), (0, x4), (0, x5), (1, z0), (9, 0), (9, 0), (9, 0), (9, 0), (9, 0)] [(1, 1), (1, 1), (0, 0), (0, 1), (0, 0), (2, 83)] σ :=
  (j_lstore (l2 := [(2, 83), (0, x1), (0, x2), (0, x3), (0, x4), (0, x5), (1, z0), (9, 0), (9, 0), (9, 0), (9, 0), (9, 0)]) q_261_149 rfl (Nat.le_of_ble_eq_true rfl)).trans <| (j_aload_n q_261_151 rfl).trans <| (j_iconst q_261_152).trans <| (j_iconst q_261_153).trans <| (j_iconst q_261_154).trans <| (j_lconst1 q_261_155).trans <| (j_lconst1 q_261_156).trans <| rfl
theorem k_261_157 {E : js_E} {d : Nat} {σ σ2 : js_S} {x1 x2 x3 x4 x5 x6 z1 z2 z3 z4 z5 : Int} {v : Int} (hd : 1 ≤ d) (hz : js_J E (d - 1) 250 0 [(2, 83), (0, z1), (0, z2), (0, z3), (1, z4), (9, 0), (1, z5), (9, 0)] [] σ = js_r E (0, v) σ2) : js_J E d 261 157 [(2, 83), (0, x1), (0, x2), (0, x3), (0, x4), (0, x5), (1, x6), (9, 0), (9, 0), (9, 0), (9, 0), (9, 0)] [(1, z5), (1, z4), (0, z3), (0, z2), (0, z1), (2, 83)] σ = js_J E d 261 160 [(2, 83), (0, x1), (0, x2), (0, x3), (0, x4), (0, x5), (1, x6), (9, 0), (9, 0), (9, 0), (9, 0), (9, 0)] [(0, v)] σ2 :=
  j_call (m := 0) (js_caV q_261_157 (js_Mo qy_261 qm_12_483)) (js_agV (av := [(0, z1), (0, z2), (0, z3), (1, z4), (1, z5)]) (st := []) rfl rfl js_o83 rfl) rfl rfl (by rw [ql_250]; exact Nat.le_of_ble_eq_true rfl) (Nat.le_of_ble_eq_true rfl) hd hz
theorem b_261_160 {E : js_E} {d : Nat} {σ : js_S} {x1 x2 x3 x4 x5 x6 z0 : Int} : js_J E d 261 160 [(2, 83), (0, x1), (0, x2), (0, x3), (0, x4), (0, x5), (1, x6), (9, 0), (9, 0), (9, 0), (9, 0), (9, 0)] [(0, z0)] σ = js_J E d 261 165 [(2, 83), (0, x1), (0, x2), (0, x3), (0, x4), (0, x5), (1, x6), (9, 0), (9, 0), (9, 0), (9, 0), (9, 0)] [(0, 0), (0, 0), (0, 3), (2, 83)] σ :=
  (j_pop0 q_261_160).trans <| (j_aload_n q_261_161 rfl).trans <| (j_iconst q_261_162).trans <| (j_iconst q_261_163).trans <| (j_iconst q_261_164).trans <| rfl
theorem k_261_165 {E : js_E} {d : Nat} {σ σ2 : js_S} {x1 x2 x3 x4 x5 x6 z1 z2 z3 : Int} {v : Int} (hd : 1 ≤ d) (hz : js_J E (d - 1) 251 0 [(2, 83), (0, z1), (0, z2), (0, z3)] [] σ = js_r E (0, v) σ2) : js_J E d 261 165 [(2, 83), (0, x1), (0, x2), (0, x3), (0, x4), (0, x5), (1, x6), (9, 0), (9, 0), (9, 0), (9, 0), (9, 0)] [(0, z3), (0, z2), (0, z1), (2, 83)] σ = js_J E d 261 168 [(2, 83), (0, x1), (0, x2), (0, x3), (0, x4), (0, x5), (1, x6), (9, 0), (9, 0), (9, 0), (9, 0), (9, 0)] [(0, v)] σ2 :=
  j_call (m := 0) (js_caV q_261_165 (js_Mo qy_261 qm_12_505)) (js_agV (av := [(0, z1), (0, z2), (0, z3)]) (st := []) rfl rfl js_o83 rfl) rfl rfl (by rw [ql_251]; exact Nat.le_of_ble_eq_true rfl) (Nat.le_of_ble_eq_true rfl) hd hz
theorem b_261_168 {E : js_E} {d : Nat} {σ : js_S} {x1 x2 x3 x4 x5 x6 z0 : Int} : js_J E d 261 168 [(2, 83), (0, x1), (0, x2), (0, x3), (0, x4), (0, x5), (1, x6), (9, 0), (9, 0), (9, 0), (9, 0), (9, 0)] [(0, z0)] σ = (if 0 ≤ js_w x3 ∧ js_w x3 < 400 then js_J E d 261 192 [(2, 83), (0, x1), (0, x2), (0, x3), (0, x4), (0, x5), (1, x6), (9, 0), (9, 0), (9, 0), (9, 0), (9, 0)] [(1, js_w (σ 89 (js_w x3))), (1, js_w (σ 88 (js_w x3))), (0, 0), (0, σ 90 (js_w x3)), (0, 1), (2, 83)] σ else none) :=
  (j_pop0 q_261_168).trans <| (j_aload_n q_261_169 rfl).trans <| (j_iconst q_261_170).trans <| (j_aload_n q_261_171 rfl).trans <| (j_get (ji := 16) (v := (2, 90)) q_261_172 (js_Fo qy_261 qf_12_111) js_o83 rfl rfl rfl rfl).trans <| (j_iload_n q_261_175 rfl).trans <| (j_iaload q_261_176 js_o90).trans <| js_itp fun g0 => (j_iconst q_261_177).trans <| (j_aload_n q_261_178 rfl).trans <| (j_get (ji := 14) (v := (2, 88)) q_261_179 (js_Fo qy_261 qf_12_105) js_o83 rfl rfl rfl rfl).trans <| (j_iload_n q_261_182 rfl).trans <| (j_iaload q_261_183 js_o88).trans <| (if_pos g0).trans <| (j_i2l q_261_184).trans <| (j_aload_n q_261_185 rfl).trans <| (j_get (ji := 15) (v := (2, 89)) q_261_186 (js_Fo qy_261 qf_12_108) js_o83 rfl rfl rfl rfl).trans <| (j_iload_n q_261_189 rfl).trans <| (j_iaload q_261_190 js_o89).trans <| (if_pos g0).trans <| (j_i2l q_261_191).trans <| rfl
theorem k_261_192 {E : js_E} {d : Nat} {σ σ2 : js_S} {x1 x2 x3 x4 x5 x6 z1 z2 z3 z4 z5 : Int} {v : Int} (hd : 1 ≤ d) (hz : js_J E (d - 1) 250 0 [(2, 83), (0, z1), (0, z2), (0, z3), (1, z4), (9, 0), (1, z5), (9, 0)] [] σ = js_r E (0, v) σ2) : js_J E d 261 192 [(2, 83), (0, x1), (0, x2), (0, x3), (0, x4), (0, x5), (1, x6), (9, 0), (9, 0), (9, 0), (9, 0), (9, 0)] [(1, z5), (1, z4), (0, z3), (0, z2), (0, z1), (2, 83)] σ = js_J E d 261 195 [(2, 83), (0, x1), (0, x2), (0, x3), (0, x4), (0, x5), (1, x6), (9, 0), (9, 0), (9, 0), (9, 0), (9, 0)] [(0, v)] σ2 :=
  j_call (m := 0) (js_caV q_261_192 (js_Mo qy_261 qm_12_483)) (js_agV (av := [(0, z1), (0, z2), (0, z3), (1, z4), (1, z5)]) (st := []) rfl rfl js_o83 rfl) rfl rfl (by rw [ql_250]; exact Nat.le_of_ble_eq_true rfl) (Nat.le_of_ble_eq_true rfl) hd hz
theorem b_261_195 {E : js_E} {d : Nat} {σ : js_S} {x1 x2 x3 x4 x5 x6 z0 : Int} : js_J E d 261 195 [(2, 83), (0, x1), (0, x2), (0, x3), (0, x4), (0, x5), (1, x6), (9, 0), (9, 0), (9, 0), (9, 0), (9, 0)] [(0, z0)] σ = (if 0 ≤ js_w x3 ∧ js_w x3 < 400 then js_J E d 261 219 [(2, 83), (0, x1), (0, x2), (0, x3), (0, x4), (0, x5), (1, x6), (9, 0), (9, 0), (9, 0), (9, 0), (9, 0)] [(1, (js_w (σ 89 (js_w x3))) + 1), (1, (js_w (σ 88 (js_w x3))) + 1), (0, 0), (0, 0), (0, 6), (2, 83)] σ else none) :=
  (j_pop0 q_261_195).trans <| (j_aload_n q_261_196 rfl).trans <| (j_bi q_261_197 rfl).trans <| (j_iconst q_261_199).trans <| (j_iconst q_261_200).trans <| (j_aload_n q_261_201 rfl).trans <| (j_get (ji := 14) (v := (2, 88)) q_261_202 (js_Fo qy_261 qf_12_105) js_o83 rfl rfl rfl rfl).trans <| (j_iload_n q_261_205 rfl).trans <| (j_iaload q_261_206 js_o88).trans <| js_itp fun g0 => (j_i2l q_261_207).trans <| (j_lconst1 q_261_208).trans <| (j_ladd q_261_209).trans <| (j_aload_n q_261_210 rfl).trans <| (j_get (ji := 15) (v := (2, 89)) q_261_211 (js_Fo qy_261 qf_12_108) js_o83 rfl rfl rfl rfl).trans <| (j_iload_n q_261_214 rfl).trans <| (j_iaload q_261_215 js_o89).trans <| (if_pos g0).trans <| (j_i2l q_261_216).trans <| (j_lconst1 q_261_217).trans <| (j_ladd q_261_218).trans <| rfl
theorem k_261_219 {E : js_E} {d : Nat} {σ σ2 : js_S} {x1 x2 x3 x4 x5 x6 z1 z2 z3 z4 z5 : Int} {v : Int} (hd : 1 ≤ d) (hz : js_J E (d - 1) 250 0 [(2, 83), (0, z1), (0, z2), (0, z3), (1, z4), (9, 0), (1, z5), (9, 0)] [] σ = js_r E (0, v) σ2) : js_J E d 261 219 [(2, 83), (0, x1), (0, x2), (0, x3), (0, x4), (0, x5), (1, x6), (9, 0), (9, 0), (9, 0), (9, 0), (9, 0)] [(1, z5), (1, z4), (0, z3), (0, z2), (0, z1), (2, 83)] σ = js_J E d 261 222 [(2, 83), (0, x1), (0, x2), (0, x3), (0, x4), (0, x5), (1, x6), (9, 0), (9, 0), (9, 0), (9, 0), (9, 0)] [(0, v)] σ2 :=
  j_call (m := 0) (js_caV q_261_219 (js_Mo qy_261 qm_12_483)) (js_agV (av := [(0, z1), (0, z2), (0, z3), (1, z4), (1, z5)]) (st := []) rfl rfl js_o83 rfl) rfl rfl (by rw [ql_250]; exact Nat.le_of_ble_eq_true rfl) (Nat.le_of_ble_eq_true rfl) hd hz
theorem b_261_222 {E : js_E} {d : Nat} {σ : js_S} {x1 x2 x3 x4 x5 x6 z0 : Int} : js_J E d 261 222 [(2, 83), (0, x1), (0, x2), (0, x3), (0, x4), (0, x5), (1, x6), (9, 0), (9, 0), (9, 0), (9, 0), (9, 0)] [(0, z0)] σ = (if 0 ≤ js_w x3 ∧ js_w x3 < 400 then js_J E d 261 232 [(2, 83), (0, x1), (0, x2), (0, x3), (0, x4), (0, x5), (1, x6), (9, 0), (9, 0), (9, 0), (9, 0), (9, 0)] [(0, 0), (0, σ 90 (js_w x3)), (0, 2), (2, 83)] σ else none) :=
  (j_pop0 q_261_222).trans <| (j_aload_n q_261_223 rfl).trans <| (j_iconst q_261_224).trans <| (j_aload_n q_261_225 rfl).trans <| (j_get (ji := 16) (v := (2, 90)) q_261_226 (js_Fo qy_261 qf_12_111) js_o83 rfl rfl rfl rfl).trans <| (j_iload_n q_261_229 rfl).trans <| (j_iaload q_261_230 js_o90).trans <| js_itp fun g0 => (j_iconst q_261_231).trans <| rfl
theorem k_261_232 {E : js_E} {d : Nat} {σ σ2 : js_S} {x1 x2 x3 x4 x5 x6 z1 z2 z3 : Int} {v : Int} (hd : 1 ≤ d) (hz : js_J E (d - 1) 251 0 [(2, 83), (0, z1), (0, z2), (0, z3)] [] σ = js_r E (0, v) σ2) : js_J E d 261 232 [(2, 83), (0, x1), (0, x2), (0, x3), (0, x4), (0, x5), (1, x6), (9, 0), (9, 0), (9, 0), (9, 0), (9, 0)] [(0, z3), (0, z2), (0, z1), (2, 83)] σ = js_J E d 261 235 [(2, 83), (0, x1), (0, x2), (0, x3), (0, x4), (0, x5), (1, x6), (9, 0), (9, 0), (9, 0), (9, 0), (9, 0)] [(0, v)] σ2 :=
  j_call (m := 0) (js_caV q_261_232 (js_Mo qy_261 qm_12_505)) (js_agV (av := [(0, z1), (0, z2), (0, z3)]) (st := []) rfl rfl js_o83 rfl) rfl rfl (by rw [ql_251]; exact Nat.le_of_ble_eq_true rfl) (Nat.le_of_ble_eq_true rfl) hd hz
theorem b_261_235 {E : js_E} {d : Nat} {σ : js_S} {x1 x2 x3 x4 x5 x6 z0 : Int} : js_J E d 261 235 [(2, 83), (0, x1), (0, x2), (0, x3), (0, x4), (0, x5), (1, x6), (9, 0), (9, 0), (9, 0), (9, 0), (9, 0)] [(0, z0)] σ = js_J E d 261 242 [(2, 83), (0, x1), (0, x2), (0, x3), (0, x4), (0, x5), (1, x6), (9, 0), (9, 0), (9, 0), (9, 0), (9, 0)] [(0, 0), (0, x4), (0, 24), (2, 83)] σ :=
  (j_pop0 q_261_235).trans <| (j_aload_n q_261_236 rfl).trans <| (j_bi q_261_237 rfl).trans <| (j_iload q_261_239 rfl).trans <| (j_iconst q_261_241).trans <| rfl
theorem k_261_242 {E : js_E} {d : Nat} {σ σ2 : js_S} {x1 x2 x3 x4 x5 x6 z1 z2 z3 : Int} {v : Int} (hd : 1 ≤ d) (hz : js_J E (d - 1) 251 0 [(2, 83), (0, z1), (0, z2), (0, z3)] [] σ = js_r E (0, v) σ2) : js_J E d 261 242 [(2, 83), (0, x1), (0, x2), (0, x3), (0, x4), (0, x5), (1, x6), (9, 0), (9, 0), (9, 0), (9, 0), (9, 0)] [(0, z3), (0, z2), (0, z1), (2, 83)] σ = js_J E d 261 245 [(2, 83), (0, x1), (0, x2), (0, x3), (0, x4), (0, x5), (1, x6), (9, 0), (9, 0), (9, 0), (9, 0), (9, 0)] [(0, v)] σ2 :=
  j_call (m := 0) (js_caV q_261_242 (js_Mo qy_261 qm_12_505)) (js_agV (av := [(0, z1), (0, z2), (0, z3)]) (st := []) rfl rfl js_o83 rfl) rfl rfl (by rw [ql_251]; exact Nat.le_of_ble_eq_true rfl) (Nat.le_of_ble_eq_true rfl) hd hz
theorem b_261_245 {E : js_E} {d : Nat} {σ : js_S} {x1 x2 x3 x4 x5 x6 z0 : Int} : js_J E d 261 245 [(2, 83), (0, x1), (0, x2), (0, x3), (0, x4), (0, x5), (1, x6), (9, 0), (9, 0), (9, 0), (9, 0), (9, 0)] [(0, z0)] σ = js_J E d 261 249 [(2, 83), (0, x1), (0, x2), (0, x3), (0, x4), (0, x5), (1, x6), (9, 0), (9, 0), (9, 0), (9, 0), (9, 0)] [(0, x5), (2, 83)] σ :=
  (j_pop0 q_261_245).trans <| (j_aload_n q_261_246 rfl).trans <| (j_iload q_261_247 rfl).trans <| rfl
theorem k_261_249 {E : js_E} {d : Nat} {σ σ2 : js_S} {x1 x2 x3 x4 x5 x6 z1 : Int} (hd : 1 ≤ d) (hz : js_J E (d - 1) 252 0 [(2, 83), (0, z1)] [] σ = js_r0 E σ2) : js_J E d 261 249 [(2, 83), (0, x1), (0, x2), (0, x3), (0, x4), (0, x5), (1, x6), (9, 0), (9, 0), (9, 0), (9, 0), (9, 0)] [(0, z1), (2, 83)] σ = js_J E d 261 252 [(2, 83), (0, x1), (0, x2), (0, x3), (0, x4), (0, x5), (1, x6), (9, 0), (9, 0), (9, 0), (9, 0), (9, 0)] [] σ2 :=
  j_call0 (m := 0) (js_caV q_261_249 (js_Mo qy_261 qm_12_517)) (js_agV (av := [(0, z1)]) (st := []) rfl rfl js_o83 rfl) rfl rfl (by rw [ql_252]; exact Nat.le_of_ble_eq_true rfl) (Nat.le_of_ble_eq_true rfl) hd hz
theorem b_261_252 {E : js_E} {d : Nat} {σ : js_S} {x1 x2 x3 x4 x5 x6 : Int} : js_J E d 261 252 [(2, 83), (0, x1), (0, x2), (0, x3), (0, x4), (0, x5), (1, x6), (9, 0), (9, 0), (9, 0), (9, 0), (9, 0)] [] σ = (if 0 ≤ js_w x3 ∧ js_w x3 < 400 then (if js_l (x6 + 11) = 0 then none else (if js_l ((js_l 1000000000000000).tdiv (js_l (x6 + 11))) < js_l (((js_w (σ 89 (js_w x3))) - (js_w (σ 88 (js_w x3)))) + 1) then js_J E d 261 309 [(2, 83), (0, x1), (0, x2), (0, x3), (0, x4), (0, x5), (1, x6), (9, 0), (1, ((js_w (σ 89 (js_w x3))) - (js_w (σ 88 (js_w x3)))) + 1), (9, 0), (1, x6 + 11), (9, 0)] [(1, 1000000000000000)] σ else js_J E d 261 306 [(2, 83), (0, x1), (0, x2), (0, x3), (0, x4), (0, x5), (1, x6), (9, 0), (1, ((js_w (σ 89 (js_w x3))) - (js_w (σ 88 (js_w x3)))) + 1), (9, 0), (1, x6 + 11), (9, 0)] [(1, 7 + ((((js_w (σ 89 (js_w x3))) - (js_w (σ 88 (js_w x3)))) + 1) * (x6 + 11)))] σ)) else none) :=
  (j_aload_n q_261_252 rfl).trans <| (j_get (ji := 15) (v := (2, 89)) q_261_253 (js_Fo qy_261 qf_12_108) js_o83 rfl rfl rfl rfl).trans <| (j_iload_n q_261_256 rfl).trans <| (j_iaload q_261_257 js_o89).trans <| js_itp fun g0 => (j_i2l q_261_258).trans <| (j_aload_n q_261_259 rfl).trans <| (j_get (ji := 14) (v := (2, 88)) q_261_260 (js_Fo qy_261 qf_12_105) js_o83 rfl rfl rfl rfl).trans <| (j_iload_n q_261_263 rfl).trans <| (j_iaload q_261_264 js_o88).trans <| (if_pos g0).trans <| (j_i2l q_261_265).trans <| (j_lsub q_261_266).trans <| (j_lconst1 q_261_267).trans <| (j_ladd q_261_268).trans <| (j_lstore (l2 := [(2, 83), (0, x1), (0, x2), (0, x3), (0, x4), (0, x5), (1, x6), (9, 0), (1, ((js_w (σ 89 (js_w x3))) - (js_w (σ 88 (js_w x3)))) + 1), (9, 0), (9, 0), (9, 0)]) q_261_269 rfl (Nat.le_of_ble_eq_true rfl)).trans <| (j_lload q_261_271 rfl).trans <| (j_ldc2 (v := (1, 11)) q_261_273 (js_Co qy_261 qc_12_556)).trans <| (j_ladd q_261_276).trans <| (j_lstore (l2 := [(2, 83), (0, x1), (0, x2), (0, x3), (0, x4), (0, x5), (1, x6), (9, 0), (1, ((js_w (σ 89 (js_w x3))) - (js_w (σ 88 (js_w x3)))) + 1), (9, 0), (1, x6 + 11), (9, 0)]) q_261_277 rfl (Nat.le_of_ble_eq_true rfl)).trans <| (j_lload q_261_279 rfl).trans <| (j_ldc2 (v := (1, 1000000000000000)) q_261_281 (js_Co qy_261 qc_12_496)).trans <| (j_lload q_261_284 rfl).trans <| (j_ldiv q_261_286).trans <| js_ite rfl <| (j_lle (t := 297) q_261_287 q_261_288 rfl).trans (js_ite ((j_ldc2 (v := (1, 1000000000000000)) q_261_291 (js_Co qy_261 qc_12_496)).trans <| (j_goto (t := 309) q_261_294 rfl).trans <| rfl) ((j_ldc2 (v := (1, 7)) q_261_297 (js_Co qy_261 qc_12_558)).trans <| (j_lload q_261_300 rfl).trans <| (j_lload q_261_302 rfl).trans <| (j_lmul q_261_304).trans <| (j_ladd q_261_305).trans <| rfl))
theorem k_261_306 {E : js_E} {d : Nat} {σ σ2 : js_S} {x1 x2 x3 x4 x5 x6 x8 x10 z0 : Int} {v : Int} (hd : 1 ≤ d) (hz : js_J E (d - 1) 253 0 [(1, z0), (9, 0)] [] σ = js_r E (1, v) σ2) : js_J E d 261 306 [(2, 83), (0, x1), (0, x2), (0, x3), (0, x4), (0, x5), (1, x6), (9, 0), (1, x8), (9, 0), (1, x10), (9, 0)] [(1, z0)] σ = js_J E d 261 309 [(2, 83), (0, x1), (0, x2), (0, x3), (0, x4), (0, x5), (1, x6), (9, 0), (1, x8), (9, 0), (1, x10), (9, 0)] [(1, v)] σ2 :=
  j_call (m := 0) (js_caS q_261_306 (js_Mo qy_261 qm_12_520)) (js_agS (av := [(1, z0)]) (st := []) rfl rfl) rfl rfl (by rw [ql_253]; exact Nat.le_of_ble_eq_true rfl) (Nat.le_of_ble_eq_true rfl) hd hz
theorem b_261_309 {E : js_E} {d : Nat} {σ : js_S} {x1 x2 x3 x4 x5 x6 x8 x10 z0 : Int} : js_J E d 261 309 [(2, 83), (0, x1), (0, x2), (0, x3), (0, x4), (0, x5), (1, x6), (9, 0), (1, x8), (9, 0), (1, x10), (9, 0)] [(1, z0)] σ = js_r E (1, z0) σ :=
  j_lreturn q_261_309 qr_261
