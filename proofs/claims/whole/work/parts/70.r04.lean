/-! part 70.r04: block equations of the reference's methods 225 to 231 (printed by wip/whole/tools/gen71.py) -/
theorem qy_226 : vt_O 226 = 12 := by decide +kernel
theorem qr_226 : vt_rc.getD 226 0 = 1 := by decide +kernel
theorem ql_226 : vt_ml.getD 226 0 = 2 := by decide +kernel
theorem qy_227 : vt_O 227 = 12 := by decide +kernel
theorem qr_227 : vt_rc.getD 227 0 = 1 := by decide +kernel
theorem ql_227 : vt_ml.getD 227 0 = 9 := by decide +kernel
theorem qy_228 : vt_O 228 = 12 := by decide +kernel
theorem qr_228 : vt_rc.getD 228 0 = 1 := by decide +kernel
theorem ql_228 : vt_ml.getD 228 0 = 9 := by decide +kernel
theorem qy_229 : vt_O 229 = 12 := by decide +kernel
theorem qr_229 : vt_rc.getD 229 0 = 1 := by decide +kernel
theorem ql_229 : vt_ml.getD 229 0 = 9 := by decide +kernel
theorem qy_230 : vt_O 230 = 12 := by decide +kernel
theorem qr_230 : vt_rc.getD 230 0 = 1 := by decide +kernel
theorem ql_230 : vt_ml.getD 230 0 = 4 := by decide +kernel
theorem qy_231 : vt_O 231 = 12 := by decide +kernel
theorem qr_231 : vt_rc.getD 231 0 = 1 := by decide +kernel
theorem ql_231 : vt_ml.getD 231 0 = 3 := by decide +kernel
theorem qy_232 : vt_O 232 = 12 := by decide +kernel
theorem qr_232 : vt_rc.getD 232 0 = 1 := by decide +kernel
theorem ql_232 : vt_ml.getD 232 0 = 8 := by decide +kernel
theorem qy_233 : vt_O 233 = 12 := by decide +kernel
theorem qr_233 : vt_rc.getD 233 0 = 1 := by decide +kernel
theorem ql_233 : vt_ml.getD 233 0 = 3 := by decide +kernel
theorem q_225_0 : js_I 225 0 = some (.aload_n 0, 1) := by decide +kernel
theorem q_225_1 : js_I 225 1 = some (.getfield 25, 3) := by decide +kernel
theorem q_225_4 : js_I 225 4 = some (.bipush 45, 2) := by decide +kernel
theorem q_225_6 : js_I 225 6 = some (.if_icmp .eq 17, 3) := by decide +kernel
theorem q_225_9 : js_I 225 9 = some (.aload_n 0, 1) := by decide +kernel
theorem q_225_10 : js_I 225 10 = some (.getfield 25, 3) := by decide +kernel
theorem q_225_13 : js_I 225 13 = some (.bipush 33, 2) := by decide +kernel
theorem q_225_15 : js_I 225 15 = some (.if_icmp .eq 8, 3) := by decide +kernel
theorem q_225_18 : js_I 225 18 = some (.aload_n 0, 1) := by decide +kernel
theorem q_225_19 : js_I 225 19 = some (.invokevirtual 256, 3) := by decide +kernel
theorem q_225_22 : js_I 225 22 = some (.ireturn, 1) := by decide +kernel
theorem q_225_23 : js_I 225 23 = some (.aload_n 0, 1) := by decide +kernel
theorem q_225_24 : js_I 225 24 = some (.getfield 25, 3) := by decide +kernel
theorem q_225_27 : js_I 225 27 = some (.bipush 45, 2) := by decide +kernel
theorem q_225_29 : js_I 225 29 = some (.if_icmp .ne 7, 3) := by decide +kernel
theorem q_225_32 : js_I 225 32 = some (.iconst 1, 1) := by decide +kernel
theorem q_225_33 : js_I 225 33 = some (.goto 4, 3) := by decide +kernel
theorem q_225_36 : js_I 225 36 = some (.iconst 0, 1) := by decide +kernel
theorem q_225_37 : js_I 225 37 = some (.istore_n 1, 1) := by decide +kernel
theorem q_225_38 : js_I 225 38 = some (.aload_n 0, 1) := by decide +kernel
theorem q_225_39 : js_I 225 39 = some (.getfield 35, 3) := by decide +kernel
theorem q_225_42 : js_I 225 42 = some (.istore_n 2, 1) := by decide +kernel
theorem q_225_43 : js_I 225 43 = some (.aload_n 0, 1) := by decide +kernel
theorem q_225_44 : js_I 225 44 = some (.aload_n 0, 1) := by decide +kernel
theorem q_225_45 : js_I 225 45 = some (.getfield 25, 3) := by decide +kernel
theorem q_225_48 : js_I 225 48 = some (.invokevirtual 159, 3) := by decide +kernel
theorem q_225_51 : js_I 225 51 = some (.aload_n 0, 1) := by decide +kernel
theorem q_225_52 : js_I 225 52 = some (.invokevirtual 231, 3) := by decide +kernel
theorem q_225_55 : js_I 225 55 = some (.istore_n 3, 1) := by decide +kernel
theorem q_225_56 : js_I 225 56 = some (.aload_n 0, 1) := by decide +kernel
theorem q_225_57 : js_I 225 57 = some (.dup, 1) := by decide +kernel
theorem q_225_58 : js_I 225 58 = some (.getfield 72, 3) := by decide +kernel
theorem q_225_61 : js_I 225 61 = some (.iconst 1, 1) := by decide +kernel
theorem q_225_62 : js_I 225 62 = some (.isub, 1) := by decide +kernel
theorem q_225_63 : js_I 225 63 = some (.putfield 72, 3) := by decide +kernel
theorem q_225_66 : js_I 225 66 = some (.aload_n 0, 1) := by decide +kernel
theorem q_225_67 : js_I 225 67 = some (.getfield 22, 3) := by decide +kernel
theorem q_225_70 : js_I 225 70 = some (.ifCond .le 5, 3) := by decide +kernel
theorem q_225_73 : js_I 225 73 = some (.iconst 0, 1) := by decide +kernel
theorem q_225_74 : js_I 225 74 = some (.ireturn, 1) := by decide +kernel
theorem q_225_75 : js_I 225 75 = some (.aload_n 0, 1) := by decide +kernel
theorem q_225_76 : js_I 225 76 = some (.getfield 172, 3) := by decide +kernel
theorem q_225_79 : js_I 225 79 = some (.iload_n 3, 1) := by decide +kernel
theorem q_225_80 : js_I 225 80 = some (.iaload, 1) := by decide +kernel
theorem q_225_81 : js_I 225 81 = some (.iload_n 1, 1) := by decide +kernel
theorem q_225_82 : js_I 225 82 = some (.ifCond .eq 7, 3) := by decide +kernel
theorem q_225_89 : js_I 225 89 = some (.iconst 1, 1) := by decide +kernel
theorem q_225_85 : js_I 225 85 = some (.iconst 0, 1) := by decide +kernel
theorem q_225_86 : js_I 225 86 = some (.goto 4, 3) := by decide +kernel
theorem q_225_90 : js_I 225 90 = some (.if_icmp .eq 9, 3) := by decide +kernel
theorem q_225_93 : js_I 225 93 = some (.aload_n 0, 1) := by decide +kernel
theorem q_225_94 : js_I 225 94 = some (.iconst 5, 1) := by decide +kernel
theorem q_225_95 : js_I 225 95 = some (.iload_n 2, 1) := by decide +kernel
theorem q_225_96 : js_I 225 96 = some (.invokevirtual 65, 3) := by decide +kernel
theorem q_225_99 : js_I 225 99 = some (.iload_n 1, 1) := by decide +kernel
theorem q_225_100 : js_I 225 100 = some (.ifCond .eq 32, 3) := by decide +kernel
theorem q_225_132 : js_I 225 132 = some (.aload_n 0, 1) := by decide +kernel
theorem q_225_133 : js_I 225 133 = some (.iconst 5, 1) := by decide +kernel
theorem q_225_134 : js_I 225 134 = some (.iconst 1, 1) := by decide +kernel
theorem q_225_135 : js_I 225 135 = some (.lconst 0, 1) := by decide +kernel
theorem q_225_136 : js_I 225 136 = some (.lconst 1, 1) := by decide +kernel
theorem q_225_137 : js_I 225 137 = some (.iload_n 3, 1) := by decide +kernel
theorem q_225_138 : js_I 225 138 = some (.iconst 0, 1) := by decide +kernel
theorem q_225_139 : js_I 225 139 = some (.bipush 21, 2) := by decide +kernel
theorem q_225_141 : js_I 225 141 = some (.invokevirtual 208, 3) := by decide +kernel
theorem q_225_103 : js_I 225 103 = some (.aload_n 0, 1) := by decide +kernel
theorem q_225_104 : js_I 225 104 = some (.iconst 5, 1) := by decide +kernel
theorem q_225_105 : js_I 225 105 = some (.iconst 0, 1) := by decide +kernel
theorem q_225_106 : js_I 225 106 = some (.aload_n 0, 1) := by decide +kernel
theorem q_225_107 : js_I 225 107 = some (.getfield 178, 3) := by decide +kernel
theorem q_225_110 : js_I 225 110 = some (.iload_n 3, 1) := by decide +kernel
theorem q_225_111 : js_I 225 111 = some (.iaload, 1) := by decide +kernel
theorem q_225_112 : js_I 225 112 = some (.i2l, 1) := by decide +kernel
theorem q_225_113 : js_I 225 113 = some (.lneg, 1) := by decide +kernel
theorem q_225_114 : js_I 225 114 = some (.aload_n 0, 1) := by decide +kernel
theorem q_225_115 : js_I 225 115 = some (.getfield 175, 3) := by decide +kernel
theorem q_225_118 : js_I 225 118 = some (.iload_n 3, 1) := by decide +kernel
theorem q_225_119 : js_I 225 119 = some (.iaload, 1) := by decide +kernel
theorem q_225_120 : js_I 225 120 = some (.i2l, 1) := by decide +kernel
theorem q_225_121 : js_I 225 121 = some (.lneg, 1) := by decide +kernel
theorem q_225_122 : js_I 225 122 = some (.iload_n 3, 1) := by decide +kernel
theorem q_225_123 : js_I 225 123 = some (.iconst 0, 1) := by decide +kernel
theorem q_225_124 : js_I 225 124 = some (.bipush 19, 2) := by decide +kernel
theorem q_225_126 : js_I 225 126 = some (.invokevirtual 208, 3) := by decide +kernel
theorem q_225_129 : js_I 225 129 = some (.goto 15, 3) := by decide +kernel
theorem q_225_144 : js_I 225 144 = some (.ireturn, 1) := by decide +kernel
theorem q_226_0 : js_I 226 0 = some (.aload_n 0, 1) := by decide +kernel
theorem q_226_1 : js_I 226 1 = some (.getfield 25, 3) := by decide +kernel
theorem q_226_4 : js_I 226 4 = some (.lookupswitch 184 #[(2, 179), (3, 84), (40, 145), (316, 113), (317, 113), (318, 164), (319, 164), (320, 169), (321, 174)], 84) := by decide +kernel
theorem q_226_88 : js_I 226 88 = some (.aload_n 0, 1) := by decide +kernel
theorem q_226_89 : js_I 226 89 = some (.iconst 1, 1) := by decide +kernel
theorem q_226_90 : js_I 226 90 = some (.iconst 0, 1) := by decide +kernel
theorem q_226_91 : js_I 226 91 = some (.aload_n 0, 1) := by decide +kernel
theorem q_226_92 : js_I 226 92 = some (.getfield 53, 3) := by decide +kernel
theorem q_226_95 : js_I 226 95 = some (.i2l, 1) := by decide +kernel
theorem q_226_96 : js_I 226 96 = some (.aload_n 0, 1) := by decide +kernel
theorem q_226_97 : js_I 226 97 = some (.getfield 53, 3) := by decide +kernel
theorem q_226_100 : js_I 226 100 = some (.i2l, 1) := by decide +kernel
theorem q_226_101 : js_I 226 101 = some (.aload_n 0, 1) := by decide +kernel
theorem q_226_102 : js_I 226 102 = some (.getfield 53, 3) := by decide +kernel
theorem q_226_105 : js_I 226 105 = some (.iconst 0, 1) := by decide +kernel
theorem q_226_106 : js_I 226 106 = some (.iconst 0, 1) := by decide +kernel
theorem q_226_107 : js_I 226 107 = some (.invokevirtual 208, 3) := by decide +kernel
theorem q_226_110 : js_I 226 110 = some (.istore_n 1, 1) := by decide +kernel
theorem q_226_111 : js_I 226 111 = some (.aload_n 0, 1) := by decide +kernel
theorem q_226_112 : js_I 226 112 = some (.invokevirtual 68, 3) := by decide +kernel
theorem q_226_115 : js_I 226 115 = some (.iload_n 1, 1) := by decide +kernel
theorem q_226_116 : js_I 226 116 = some (.ireturn, 1) := by decide +kernel
theorem q_226_117 : js_I 226 117 = some (.aload_n 0, 1) := by decide +kernel
theorem q_226_118 : js_I 226 118 = some (.iconst 1, 1) := by decide +kernel
theorem q_226_119 : js_I 226 119 = some (.iconst 1, 1) := by decide +kernel
theorem q_226_120 : js_I 226 120 = some (.lconst 0, 1) := by decide +kernel
theorem q_226_121 : js_I 226 121 = some (.lconst 1, 1) := by decide +kernel
theorem q_226_122 : js_I 226 122 = some (.aload_n 0, 1) := by decide +kernel
theorem q_226_123 : js_I 226 123 = some (.getfield 25, 3) := by decide +kernel
theorem q_226_126 : js_I 226 126 = some (.sipush 316, 3) := by decide +kernel
theorem q_226_129 : js_I 226 129 = some (.if_icmp .ne 7, 3) := by decide +kernel
theorem q_226_132 : js_I 226 132 = some (.iconst 1, 1) := by decide +kernel
theorem q_226_133 : js_I 226 133 = some (.goto 4, 3) := by decide +kernel
theorem q_226_136 : js_I 226 136 = some (.iconst 0, 1) := by decide +kernel
theorem q_226_137 : js_I 226 137 = some (.iconst 0, 1) := by decide +kernel
theorem q_226_138 : js_I 226 138 = some (.iconst 0, 1) := by decide +kernel
theorem q_226_139 : js_I 226 139 = some (.invokevirtual 208, 3) := by decide +kernel
theorem q_226_142 : js_I 226 142 = some (.istore_n 1, 1) := by decide +kernel
theorem q_226_143 : js_I 226 143 = some (.aload_n 0, 1) := by decide +kernel
theorem q_226_144 : js_I 226 144 = some (.invokevirtual 68, 3) := by decide +kernel
theorem q_226_147 : js_I 226 147 = some (.iload_n 1, 1) := by decide +kernel
theorem q_226_148 : js_I 226 148 = some (.ireturn, 1) := by decide +kernel
theorem q_226_149 : js_I 226 149 = some (.aload_n 0, 1) := by decide +kernel
theorem q_226_150 : js_I 226 150 = some (.bipush 40, 2) := by decide +kernel
theorem q_226_152 : js_I 226 152 = some (.invokevirtual 159, 3) := by decide +kernel
theorem q_226_155 : js_I 226 155 = some (.aload_n 0, 1) := by decide +kernel
theorem q_226_156 : js_I 226 156 = some (.invokevirtual 193, 3) := by decide +kernel
theorem q_226_159 : js_I 226 159 = some (.istore_n 1, 1) := by decide +kernel
theorem q_226_160 : js_I 226 160 = some (.aload_n 0, 1) := by decide +kernel
theorem q_226_161 : js_I 226 161 = some (.bipush 41, 2) := by decide +kernel
theorem q_226_163 : js_I 226 163 = some (.invokevirtual 162, 3) := by decide +kernel
theorem q_226_166 : js_I 226 166 = some (.iload_n 1, 1) := by decide +kernel
theorem q_226_167 : js_I 226 167 = some (.ireturn, 1) := by decide +kernel
theorem q_226_168 : js_I 226 168 = some (.aload_n 0, 1) := by decide +kernel
theorem q_226_169 : js_I 226 169 = some (.invokevirtual 259, 3) := by decide +kernel
theorem q_226_172 : js_I 226 172 = some (.ireturn, 1) := by decide +kernel
theorem q_226_173 : js_I 226 173 = some (.aload_n 0, 1) := by decide +kernel
theorem q_226_174 : js_I 226 174 = some (.invokevirtual 262, 3) := by decide +kernel
theorem q_226_177 : js_I 226 177 = some (.ireturn, 1) := by decide +kernel
theorem q_226_178 : js_I 226 178 = some (.aload_n 0, 1) := by decide +kernel
theorem q_226_179 : js_I 226 179 = some (.invokevirtual 265, 3) := by decide +kernel
theorem q_226_182 : js_I 226 182 = some (.ireturn, 1) := by decide +kernel
theorem q_226_183 : js_I 226 183 = some (.aload_n 0, 1) := by decide +kernel
theorem q_226_184 : js_I 226 184 = some (.invokevirtual 268, 3) := by decide +kernel
theorem q_226_187 : js_I 226 187 = some (.ireturn, 1) := by decide +kernel
theorem q_226_188 : js_I 226 188 = some (.aload_n 0, 1) := by decide +kernel
theorem q_226_189 : js_I 226 189 = some (.iconst 1, 1) := by decide +kernel
theorem q_226_190 : js_I 226 190 = some (.aload_n 0, 1) := by decide +kernel
theorem q_226_191 : js_I 226 191 = some (.getfield 35, 3) := by decide +kernel
theorem q_226_194 : js_I 226 194 = some (.invokevirtual 65, 3) := by decide +kernel
theorem q_226_197 : js_I 226 197 = some (.iconst 0, 1) := by decide +kernel
theorem q_226_198 : js_I 226 198 = some (.ireturn, 1) := by decide +kernel
theorem q_227_0 : js_I 227 0 = some (.aload_n 0, 1) := by decide +kernel
theorem q_227_1 : js_I 227 1 = some (.getfield 35, 3) := by decide +kernel
theorem q_227_4 : js_I 227 4 = some (.istore_n 1, 1) := by decide +kernel
theorem q_227_5 : js_I 227 5 = some (.aload_n 0, 1) := by decide +kernel
theorem q_227_6 : js_I 227 6 = some (.getfield 25, 3) := by decide +kernel
theorem q_227_9 : js_I 227 9 = some (.sipush 318, 3) := by decide +kernel
theorem q_227_12 : js_I 227 12 = some (.if_icmp .ne 7, 3) := by decide +kernel
theorem q_227_15 : js_I 227 15 = some (.iconst 1, 1) := by decide +kernel
theorem q_227_16 : js_I 227 16 = some (.goto 4, 3) := by decide +kernel
theorem q_227_19 : js_I 227 19 = some (.iconst 0, 1) := by decide +kernel
theorem q_227_20 : js_I 227 20 = some (.istore_n 2, 1) := by decide +kernel
theorem q_227_21 : js_I 227 21 = some (.aload_n 0, 1) := by decide +kernel
theorem q_227_22 : js_I 227 22 = some (.invokevirtual 68, 3) := by decide +kernel
theorem q_227_25 : js_I 227 25 = some (.aload_n 0, 1) := by decide +kernel
theorem q_227_26 : js_I 227 26 = some (.bipush 40, 2) := by decide +kernel
theorem q_227_28 : js_I 227 28 = some (.invokevirtual 159, 3) := by decide +kernel
theorem q_227_31 : js_I 227 31 = some (.aload_n 0, 1) := by decide +kernel
theorem q_227_32 : js_I 227 32 = some (.invokevirtual 193, 3) := by decide +kernel
theorem q_227_35 : js_I 227 35 = some (.istore_n 3, 1) := by decide +kernel
theorem q_227_36 : js_I 227 36 = some (.aload_n 0, 1) := by decide +kernel
theorem q_227_37 : js_I 227 37 = some (.bipush 44, 2) := by decide +kernel
theorem q_227_39 : js_I 227 39 = some (.invokevirtual 75, 3) := by decide +kernel
theorem q_227_42 : js_I 227 42 = some (.aload_n 0, 1) := by decide +kernel
theorem q_227_43 : js_I 227 43 = some (.invokevirtual 193, 3) := by decide +kernel
theorem q_227_46 : js_I 227 46 = some (.istore 4, 2) := by decide +kernel
theorem q_227_48 : js_I 227 48 = some (.aload_n 0, 1) := by decide +kernel
theorem q_227_49 : js_I 227 49 = some (.getfield 22, 3) := by decide +kernel
theorem q_227_52 : js_I 227 52 = some (.ifCond .ne 28, 3) := by decide +kernel
theorem q_227_55 : js_I 227 55 = some (.aload_n 0, 1) := by decide +kernel
theorem q_227_56 : js_I 227 56 = some (.getfield 172, 3) := by decide +kernel
theorem q_227_59 : js_I 227 59 = some (.iload_n 3, 1) := by decide +kernel
theorem q_227_60 : js_I 227 60 = some (.iaload, 1) := by decide +kernel
theorem q_227_61 : js_I 227 61 = some (.ifCond .ne 13, 3) := by decide +kernel
theorem q_227_64 : js_I 227 64 = some (.aload_n 0, 1) := by decide +kernel
theorem q_227_65 : js_I 227 65 = some (.getfield 172, 3) := by decide +kernel
theorem q_227_68 : js_I 227 68 = some (.iload 4, 2) := by decide +kernel
theorem q_227_70 : js_I 227 70 = some (.iaload, 1) := by decide +kernel
theorem q_227_71 : js_I 227 71 = some (.ifCond .eq 9, 3) := by decide +kernel
theorem q_227_74 : js_I 227 74 = some (.aload_n 0, 1) := by decide +kernel
theorem q_227_75 : js_I 227 75 = some (.iconst 5, 1) := by decide +kernel
theorem q_227_76 : js_I 227 76 = some (.iload_n 1, 1) := by decide +kernel
theorem q_227_77 : js_I 227 77 = some (.invokevirtual 65, 3) := by decide +kernel
theorem q_227_80 : js_I 227 80 = some (.aload_n 0, 1) := by decide +kernel
theorem q_227_81 : js_I 227 81 = some (.bipush 41, 2) := by decide +kernel
theorem q_227_83 : js_I 227 83 = some (.invokevirtual 162, 3) := by decide +kernel
theorem q_227_86 : js_I 227 86 = some (.aload_n 0, 1) := by decide +kernel
theorem q_227_87 : js_I 227 87 = some (.getfield 22, 3) := by decide +kernel
theorem q_227_90 : js_I 227 90 = some (.ifCond .le 5, 3) := by decide +kernel
theorem q_227_93 : js_I 227 93 = some (.iconst 0, 1) := by decide +kernel
theorem q_227_94 : js_I 227 94 = some (.ireturn, 1) := by decide +kernel
theorem q_227_95 : js_I 227 95 = some (.iload_n 2, 1) := by decide +kernel
theorem q_227_96 : js_I 227 96 = some (.ifCond .eq 23, 3) := by decide +kernel
theorem q_227_119 : js_I 227 119 = some (.aload_n 0, 1) := by decide +kernel
theorem q_227_120 : js_I 227 120 = some (.getfield 175, 3) := by decide +kernel
theorem q_227_123 : js_I 227 123 = some (.iload_n 3, 1) := by decide +kernel
theorem q_227_124 : js_I 227 124 = some (.iaload, 1) := by decide +kernel
theorem q_227_125 : js_I 227 125 = some (.aload_n 0, 1) := by decide +kernel
theorem q_227_126 : js_I 227 126 = some (.getfield 175, 3) := by decide +kernel
theorem q_227_129 : js_I 227 129 = some (.iload 4, 2) := by decide +kernel
theorem q_227_131 : js_I 227 131 = some (.iaload, 1) := by decide +kernel
theorem q_227_132 : js_I 227 132 = some (.invokestatic 205, 3) := by decide +kernel
theorem q_227_135 : js_I 227 135 = some (.i2l, 1) := by decide +kernel
theorem q_227_99 : js_I 227 99 = some (.aload_n 0, 1) := by decide +kernel
theorem q_227_100 : js_I 227 100 = some (.getfield 175, 3) := by decide +kernel
theorem q_227_103 : js_I 227 103 = some (.iload_n 3, 1) := by decide +kernel
theorem q_227_104 : js_I 227 104 = some (.iaload, 1) := by decide +kernel
theorem q_227_105 : js_I 227 105 = some (.aload_n 0, 1) := by decide +kernel
theorem q_227_106 : js_I 227 106 = some (.getfield 175, 3) := by decide +kernel
theorem q_227_109 : js_I 227 109 = some (.iload 4, 2) := by decide +kernel
theorem q_227_111 : js_I 227 111 = some (.iaload, 1) := by decide +kernel
theorem q_227_112 : js_I 227 112 = some (.invokestatic 199, 3) := by decide +kernel
theorem q_227_115 : js_I 227 115 = some (.i2l, 1) := by decide +kernel
theorem q_227_116 : js_I 227 116 = some (.goto 20, 3) := by decide +kernel
theorem q_227_136 : js_I 227 136 = some (.lstore 5, 2) := by decide +kernel
theorem q_227_138 : js_I 227 138 = some (.iload_n 2, 1) := by decide +kernel
theorem q_227_139 : js_I 227 139 = some (.ifCond .eq 23, 3) := by decide +kernel
theorem q_227_162 : js_I 227 162 = some (.aload_n 0, 1) := by decide +kernel
theorem q_227_163 : js_I 227 163 = some (.getfield 178, 3) := by decide +kernel
theorem q_227_166 : js_I 227 166 = some (.iload_n 3, 1) := by decide +kernel
theorem q_227_167 : js_I 227 167 = some (.iaload, 1) := by decide +kernel
theorem q_227_168 : js_I 227 168 = some (.aload_n 0, 1) := by decide +kernel
theorem q_227_169 : js_I 227 169 = some (.getfield 178, 3) := by decide +kernel
theorem q_227_172 : js_I 227 172 = some (.iload 4, 2) := by decide +kernel
theorem q_227_174 : js_I 227 174 = some (.iaload, 1) := by decide +kernel
theorem q_227_175 : js_I 227 175 = some (.invokestatic 205, 3) := by decide +kernel
theorem q_227_178 : js_I 227 178 = some (.i2l, 1) := by decide +kernel
theorem q_227_142 : js_I 227 142 = some (.aload_n 0, 1) := by decide +kernel
theorem q_227_143 : js_I 227 143 = some (.getfield 178, 3) := by decide +kernel
theorem q_227_146 : js_I 227 146 = some (.iload_n 3, 1) := by decide +kernel
theorem q_227_147 : js_I 227 147 = some (.iaload, 1) := by decide +kernel
theorem q_227_148 : js_I 227 148 = some (.aload_n 0, 1) := by decide +kernel
theorem q_227_149 : js_I 227 149 = some (.getfield 178, 3) := by decide +kernel
theorem q_227_152 : js_I 227 152 = some (.iload 4, 2) := by decide +kernel
theorem q_227_154 : js_I 227 154 = some (.iaload, 1) := by decide +kernel
theorem q_227_155 : js_I 227 155 = some (.invokestatic 199, 3) := by decide +kernel
theorem q_227_158 : js_I 227 158 = some (.i2l, 1) := by decide +kernel
theorem q_227_159 : js_I 227 159 = some (.goto 20, 3) := by decide +kernel
theorem q_227_179 : js_I 227 179 = some (.lstore 7, 2) := by decide +kernel
theorem q_227_181 : js_I 227 181 = some (.aload_n 0, 1) := by decide +kernel
theorem q_227_182 : js_I 227 182 = some (.iconst 4, 1) := by decide +kernel
theorem q_227_183 : js_I 227 183 = some (.iconst 0, 1) := by decide +kernel
theorem q_227_184 : js_I 227 184 = some (.lload 5, 2) := by decide +kernel
theorem q_227_186 : js_I 227 186 = some (.lload 7, 2) := by decide +kernel
theorem q_227_188 : js_I 227 188 = some (.iload_n 3, 1) := by decide +kernel
theorem q_227_189 : js_I 227 189 = some (.iload 4, 2) := by decide +kernel
theorem q_227_191 : js_I 227 191 = some (.iload_n 2, 1) := by decide +kernel
theorem q_227_192 : js_I 227 192 = some (.ifCond .eq 8, 3) := by decide +kernel
theorem q_227_200 : js_I 227 200 = some (.bipush 12, 2) := by decide +kernel
theorem q_227_195 : js_I 227 195 = some (.bipush 11, 2) := by decide +kernel
theorem q_227_197 : js_I 227 197 = some (.goto 5, 3) := by decide +kernel
theorem q_227_202 : js_I 227 202 = some (.invokevirtual 208, 3) := by decide +kernel
theorem q_227_205 : js_I 227 205 = some (.ireturn, 1) := by decide +kernel
theorem q_228_0 : js_I 228 0 = some (.aload_n 0, 1) := by decide +kernel
theorem q_228_1 : js_I 228 1 = some (.getfield 35, 3) := by decide +kernel
theorem q_228_4 : js_I 228 4 = some (.istore_n 1, 1) := by decide +kernel
theorem q_228_5 : js_I 228 5 = some (.aload_n 0, 1) := by decide +kernel
theorem q_228_6 : js_I 228 6 = some (.invokevirtual 68, 3) := by decide +kernel
theorem q_228_9 : js_I 228 9 = some (.aload_n 0, 1) := by decide +kernel
theorem q_228_10 : js_I 228 10 = some (.bipush 40, 2) := by decide +kernel
theorem q_228_12 : js_I 228 12 = some (.invokevirtual 159, 3) := by decide +kernel
theorem q_228_15 : js_I 228 15 = some (.aload_n 0, 1) := by decide +kernel
theorem q_228_16 : js_I 228 16 = some (.invokevirtual 193, 3) := by decide +kernel
theorem q_228_19 : js_I 228 19 = some (.istore_n 2, 1) := by decide +kernel
theorem q_228_20 : js_I 228 20 = some (.aload_n 0, 1) := by decide +kernel
theorem q_228_21 : js_I 228 21 = some (.getfield 22, 3) := by decide +kernel
theorem q_228_24 : js_I 228 24 = some (.ifCond .ne 18, 3) := by decide +kernel
theorem q_228_27 : js_I 228 27 = some (.aload_n 0, 1) := by decide +kernel
theorem q_228_28 : js_I 228 28 = some (.getfield 172, 3) := by decide +kernel
theorem q_228_31 : js_I 228 31 = some (.iload_n 2, 1) := by decide +kernel
theorem q_228_32 : js_I 228 32 = some (.iaload, 1) := by decide +kernel
theorem q_228_33 : js_I 228 33 = some (.ifCond .eq 9, 3) := by decide +kernel
theorem q_228_36 : js_I 228 36 = some (.aload_n 0, 1) := by decide +kernel
theorem q_228_37 : js_I 228 37 = some (.iconst 5, 1) := by decide +kernel
theorem q_228_38 : js_I 228 38 = some (.iload_n 1, 1) := by decide +kernel
theorem q_228_39 : js_I 228 39 = some (.invokevirtual 65, 3) := by decide +kernel
theorem q_228_42 : js_I 228 42 = some (.aload_n 0, 1) := by decide +kernel
theorem q_228_43 : js_I 228 43 = some (.bipush 41, 2) := by decide +kernel
theorem q_228_45 : js_I 228 45 = some (.invokevirtual 162, 3) := by decide +kernel
theorem q_228_48 : js_I 228 48 = some (.aload_n 0, 1) := by decide +kernel
theorem q_228_49 : js_I 228 49 = some (.getfield 22, 3) := by decide +kernel
theorem q_228_52 : js_I 228 52 = some (.ifCond .le 5, 3) := by decide +kernel
theorem q_228_55 : js_I 228 55 = some (.iconst 0, 1) := by decide +kernel
theorem q_228_56 : js_I 228 56 = some (.ireturn, 1) := by decide +kernel
theorem q_228_57 : js_I 228 57 = some (.aload_n 0, 1) := by decide +kernel
theorem q_228_58 : js_I 228 58 = some (.getfield 175, 3) := by decide +kernel
theorem q_228_61 : js_I 228 61 = some (.iload_n 2, 1) := by decide +kernel
theorem q_228_62 : js_I 228 62 = some (.iaload, 1) := by decide +kernel
theorem q_228_63 : js_I 228 63 = some (.i2l, 1) := by decide +kernel
theorem q_228_64 : js_I 228 64 = some (.lstore_n 3, 1) := by decide +kernel
theorem q_228_65 : js_I 228 65 = some (.aload_n 0, 1) := by decide +kernel
theorem q_228_66 : js_I 228 66 = some (.getfield 178, 3) := by decide +kernel
theorem q_228_69 : js_I 228 69 = some (.iload_n 2, 1) := by decide +kernel
theorem q_228_70 : js_I 228 70 = some (.iaload, 1) := by decide +kernel
theorem q_228_71 : js_I 228 71 = some (.i2l, 1) := by decide +kernel
theorem q_228_72 : js_I 228 72 = some (.lstore 5, 2) := by decide +kernel
theorem q_228_74 : js_I 228 74 = some (.lload_n 3, 1) := by decide +kernel
theorem q_228_75 : js_I 228 75 = some (.lconst 0, 1) := by decide +kernel
theorem q_228_76 : js_I 228 76 = some (.lcmp, 1) := by decide +kernel
theorem q_228_77 : js_I 228 77 = some (.ifCond .le 7, 3) := by decide +kernel
theorem q_228_80 : js_I 228 80 = some (.lload_n 3, 1) := by decide +kernel
theorem q_228_81 : js_I 228 81 = some (.goto 17, 3) := by decide +kernel
theorem q_228_84 : js_I 228 84 = some (.lload 5, 2) := by decide +kernel
theorem q_228_86 : js_I 228 86 = some (.lconst 0, 1) := by decide +kernel
theorem q_228_87 : js_I 228 87 = some (.lcmp, 1) := by decide +kernel
theorem q_228_88 : js_I 228 88 = some (.ifCond .ge 9, 3) := by decide +kernel
theorem q_228_91 : js_I 228 91 = some (.lload 5, 2) := by decide +kernel
theorem q_228_93 : js_I 228 93 = some (.lneg, 1) := by decide +kernel
theorem q_228_94 : js_I 228 94 = some (.goto 4, 3) := by decide +kernel
theorem q_228_97 : js_I 228 97 = some (.lconst 0, 1) := by decide +kernel
theorem q_228_98 : js_I 228 98 = some (.lstore 7, 2) := by decide +kernel
theorem q_228_100 : js_I 228 100 = some (.aload_n 0, 1) := by decide +kernel
theorem q_228_101 : js_I 228 101 = some (.iconst 5, 1) := by decide +kernel
theorem q_228_102 : js_I 228 102 = some (.iconst 0, 1) := by decide +kernel
theorem q_228_103 : js_I 228 103 = some (.lload 7, 2) := by decide +kernel
theorem q_228_105 : js_I 228 105 = some (.lload_n 3, 1) := by decide +kernel
theorem q_228_106 : js_I 228 106 = some (.invokestatic 250, 3) := by decide +kernel
theorem q_228_109 : js_I 228 109 = some (.lload 5, 2) := by decide +kernel
theorem q_228_111 : js_I 228 111 = some (.invokestatic 250, 3) := by decide +kernel
theorem q_228_114 : js_I 228 114 = some (.invokestatic 241, 3) := by decide +kernel
theorem q_228_117 : js_I 228 117 = some (.iload_n 2, 1) := by decide +kernel
theorem q_228_118 : js_I 228 118 = some (.iconst 0, 1) := by decide +kernel
theorem q_228_119 : js_I 228 119 = some (.bipush 20, 2) := by decide +kernel
theorem q_228_121 : js_I 228 121 = some (.invokevirtual 208, 3) := by decide +kernel
theorem q_228_124 : js_I 228 124 = some (.ireturn, 1) := by decide +kernel
theorem q_229_0 : js_I 229 0 = some (.aload_n 0, 1) := by decide +kernel
theorem q_229_1 : js_I 229 1 = some (.getfield 35, 3) := by decide +kernel
theorem q_229_4 : js_I 229 4 = some (.istore_n 1, 1) := by decide +kernel
theorem q_229_5 : js_I 229 5 = some (.aload_n 0, 1) := by decide +kernel
theorem q_229_6 : js_I 229 6 = some (.invokevirtual 68, 3) := by decide +kernel
theorem q_229_9 : js_I 229 9 = some (.aload_n 0, 1) := by decide +kernel
theorem q_229_10 : js_I 229 10 = some (.bipush 40, 2) := by decide +kernel
theorem q_229_12 : js_I 229 12 = some (.invokevirtual 159, 3) := by decide +kernel
theorem q_229_15 : js_I 229 15 = some (.aload_n 0, 1) := by decide +kernel
theorem q_229_16 : js_I 229 16 = some (.invokevirtual 193, 3) := by decide +kernel
theorem q_229_19 : js_I 229 19 = some (.istore_n 2, 1) := by decide +kernel
theorem q_229_20 : js_I 229 20 = some (.aload_n 0, 1) := by decide +kernel
theorem q_229_21 : js_I 229 21 = some (.getfield 22, 3) := by decide +kernel
theorem q_229_24 : js_I 229 24 = some (.ifCond .ne 18, 3) := by decide +kernel
theorem q_229_27 : js_I 229 27 = some (.aload_n 0, 1) := by decide +kernel
theorem q_229_28 : js_I 229 28 = some (.getfield 172, 3) := by decide +kernel
theorem q_229_31 : js_I 229 31 = some (.iload_n 2, 1) := by decide +kernel
theorem q_229_32 : js_I 229 32 = some (.iaload, 1) := by decide +kernel
theorem q_229_33 : js_I 229 33 = some (.ifCond .eq 9, 3) := by decide +kernel
theorem q_229_36 : js_I 229 36 = some (.aload_n 0, 1) := by decide +kernel
theorem q_229_37 : js_I 229 37 = some (.iconst 5, 1) := by decide +kernel
theorem q_229_38 : js_I 229 38 = some (.iload_n 1, 1) := by decide +kernel
theorem q_229_39 : js_I 229 39 = some (.invokevirtual 65, 3) := by decide +kernel
theorem q_229_42 : js_I 229 42 = some (.aload_n 0, 1) := by decide +kernel
theorem q_229_43 : js_I 229 43 = some (.bipush 44, 2) := by decide +kernel
theorem q_229_45 : js_I 229 45 = some (.invokevirtual 75, 3) := by decide +kernel
theorem q_229_48 : js_I 229 48 = some (.aload_n 0, 1) := by decide +kernel
theorem q_229_49 : js_I 229 49 = some (.iconst 0, 1) := by decide +kernel
theorem q_229_50 : js_I 229 50 = some (.invokevirtual 156, 3) := by decide +kernel
theorem q_229_53 : js_I 229 53 = some (.aload_n 0, 1) := by decide +kernel
theorem q_229_54 : js_I 229 54 = some (.getfield 141, 3) := by decide +kernel
theorem q_229_57 : js_I 229 57 = some (.istore_n 3, 1) := by decide +kernel
theorem q_229_58 : js_I 229 58 = some (.aload_n 0, 1) := by decide +kernel
theorem q_229_59 : js_I 229 59 = some (.invokevirtual 68, 3) := by decide +kernel
theorem q_229_62 : js_I 229 62 = some (.aload_n 0, 1) := by decide +kernel
theorem q_229_63 : js_I 229 63 = some (.bipush 44, 2) := by decide +kernel
theorem q_229_65 : js_I 229 65 = some (.invokevirtual 75, 3) := by decide +kernel
theorem q_229_68 : js_I 229 68 = some (.aload_n 0, 1) := by decide +kernel
theorem q_229_69 : js_I 229 69 = some (.iconst 0, 1) := by decide +kernel
theorem q_229_70 : js_I 229 70 = some (.invokevirtual 156, 3) := by decide +kernel
theorem q_229_73 : js_I 229 73 = some (.aload_n 0, 1) := by decide +kernel
theorem q_229_74 : js_I 229 74 = some (.getfield 141, 3) := by decide +kernel
theorem q_229_77 : js_I 229 77 = some (.istore 4, 2) := by decide +kernel
theorem q_229_79 : js_I 229 79 = some (.aload_n 0, 1) := by decide +kernel
theorem q_229_80 : js_I 229 80 = some (.getfield 22, 3) := by decide +kernel
theorem q_229_83 : js_I 229 83 = some (.ifCond .ne 18, 3) := by decide +kernel
theorem q_229_86 : js_I 229 86 = some (.iload 4, 2) := by decide +kernel
theorem q_229_88 : js_I 229 88 = some (.iload_n 3, 1) := by decide +kernel
theorem q_229_89 : js_I 229 89 = some (.if_icmp .ge 12, 3) := by decide +kernel
theorem q_229_92 : js_I 229 92 = some (.aload_n 0, 1) := by decide +kernel
theorem q_229_93 : js_I 229 93 = some (.iconst 4, 1) := by decide +kernel
theorem q_229_94 : js_I 229 94 = some (.aload_n 0, 1) := by decide +kernel
theorem q_229_95 : js_I 229 95 = some (.getfield 135, 3) := by decide +kernel
theorem q_229_98 : js_I 229 98 = some (.invokevirtual 65, 3) := by decide +kernel
theorem q_229_101 : js_I 229 101 = some (.aload_n 0, 1) := by decide +kernel
theorem q_229_102 : js_I 229 102 = some (.invokevirtual 68, 3) := by decide +kernel
theorem q_229_105 : js_I 229 105 = some (.aload_n 0, 1) := by decide +kernel
theorem q_229_106 : js_I 229 106 = some (.bipush 41, 2) := by decide +kernel
theorem q_229_108 : js_I 229 108 = some (.invokevirtual 162, 3) := by decide +kernel
theorem q_229_111 : js_I 229 111 = some (.aload_n 0, 1) := by decide +kernel
theorem q_229_112 : js_I 229 112 = some (.getfield 22, 3) := by decide +kernel
theorem q_229_115 : js_I 229 115 = some (.ifCond .le 5, 3) := by decide +kernel
theorem q_229_118 : js_I 229 118 = some (.iconst 0, 1) := by decide +kernel
theorem q_229_119 : js_I 229 119 = some (.ireturn, 1) := by decide +kernel
theorem q_229_120 : js_I 229 120 = some (.iload 4, 2) := by decide +kernel
theorem q_229_122 : js_I 229 122 = some (.iload_n 3, 1) := by decide +kernel
theorem q_229_123 : js_I 229 123 = some (.aload_n 0, 1) := by decide +kernel
theorem q_229_124 : js_I 229 124 = some (.getfield 175, 3) := by decide +kernel
theorem q_229_127 : js_I 229 127 = some (.iload_n 2, 1) := by decide +kernel
theorem q_229_128 : js_I 229 128 = some (.iaload, 1) := by decide +kernel
theorem q_229_129 : js_I 229 129 = some (.invokestatic 205, 3) := by decide +kernel
theorem q_229_132 : js_I 229 132 = some (.invokestatic 199, 3) := by decide +kernel
theorem q_229_135 : js_I 229 135 = some (.i2l, 1) := by decide +kernel
theorem q_229_136 : js_I 229 136 = some (.lstore 5, 2) := by decide +kernel
theorem q_229_138 : js_I 229 138 = some (.iload 4, 2) := by decide +kernel
theorem q_229_140 : js_I 229 140 = some (.iload_n 3, 1) := by decide +kernel
theorem q_229_141 : js_I 229 141 = some (.aload_n 0, 1) := by decide +kernel
theorem q_229_142 : js_I 229 142 = some (.getfield 178, 3) := by decide +kernel
theorem q_229_145 : js_I 229 145 = some (.iload_n 2, 1) := by decide +kernel
theorem q_229_146 : js_I 229 146 = some (.iaload, 1) := by decide +kernel
theorem q_229_147 : js_I 229 147 = some (.invokestatic 205, 3) := by decide +kernel
theorem q_229_150 : js_I 229 150 = some (.invokestatic 199, 3) := by decide +kernel
theorem q_229_153 : js_I 229 153 = some (.i2l, 1) := by decide +kernel
theorem q_229_154 : js_I 229 154 = some (.lstore 7, 2) := by decide +kernel
theorem q_229_156 : js_I 229 156 = some (.aload_n 0, 1) := by decide +kernel
theorem q_229_157 : js_I 229 157 = some (.bipush 9, 2) := by decide +kernel
theorem q_229_159 : js_I 229 159 = some (.iconst 0, 1) := by decide +kernel
theorem q_229_160 : js_I 229 160 = some (.lload 5, 2) := by decide +kernel
theorem q_229_162 : js_I 229 162 = some (.lload 7, 2) := by decide +kernel
theorem q_229_164 : js_I 229 164 = some (.iload_n 2, 1) := by decide +kernel
theorem q_229_165 : js_I 229 165 = some (.iload_n 3, 1) := by decide +kernel
theorem q_229_166 : js_I 229 166 = some (.iload 4, 2) := by decide +kernel
theorem q_229_168 : js_I 229 168 = some (.invokevirtual 208, 3) := by decide +kernel
theorem q_229_171 : js_I 229 171 = some (.ireturn, 1) := by decide +kernel
theorem q_230_0 : js_I 230 0 = some (.aload_n 0, 1) := by decide +kernel
theorem q_230_1 : js_I 230 1 = some (.invokevirtual 96, 3) := by decide +kernel
theorem q_230_4 : js_I 230 4 = some (.istore_n 1, 1) := by decide +kernel
theorem q_230_5 : js_I 230 5 = some (.aload_n 0, 1) := by decide +kernel
theorem q_230_6 : js_I 230 6 = some (.invokevirtual 271, 3) := by decide +kernel
theorem q_230_9 : js_I 230 9 = some (.istore_n 2, 1) := by decide +kernel
theorem q_230_10 : js_I 230 10 = some (.iload_n 1, 1) := by decide +kernel
theorem q_230_11 : js_I 230 11 = some (.ifCond .lt 63, 3) := by decide +kernel
theorem q_230_14 : js_I 230 14 = some (.aload_n 0, 1) := by decide +kernel
theorem q_230_15 : js_I 230 15 = some (.getfield 99, 3) := by decide +kernel
theorem q_230_18 : js_I 230 18 = some (.iload_n 1, 1) := by decide +kernel
theorem q_230_19 : js_I 230 19 = some (.iaload, 1) := by decide +kernel
theorem q_230_20 : js_I 230 20 = some (.bipush 8, 2) := by decide +kernel
theorem q_230_22 : js_I 230 22 = some (.if_icmp .eq 52, 3) := by decide +kernel
theorem q_230_25 : js_I 230 25 = some (.aload_n 0, 1) := by decide +kernel
theorem q_230_26 : js_I 230 26 = some (.getfield 99, 3) := by decide +kernel
theorem q_230_29 : js_I 230 29 = some (.iload_n 1, 1) := by decide +kernel
theorem q_230_30 : js_I 230 30 = some (.iaload, 1) := by decide +kernel
theorem q_230_31 : js_I 230 31 = some (.iconst 4, 1) := by decide +kernel
theorem q_230_32 : js_I 230 32 = some (.if_icmp .ne 7, 3) := by decide +kernel
theorem q_230_35 : js_I 230 35 = some (.iconst 1, 1) := by decide +kernel
theorem q_230_36 : js_I 230 36 = some (.goto 4, 3) := by decide +kernel
theorem q_230_39 : js_I 230 39 = some (.iconst 0, 1) := by decide +kernel
theorem q_230_40 : js_I 230 40 = some (.iload_n 2, 1) := by decide +kernel
theorem q_230_41 : js_I 230 41 = some (.bipush 40, 2) := by decide +kernel
theorem q_230_43 : js_I 230 43 = some (.if_icmp .ne 7, 3) := by decide +kernel
theorem q_230_46 : js_I 230 46 = some (.iconst 1, 1) := by decide +kernel
theorem q_230_47 : js_I 230 47 = some (.goto 4, 3) := by decide +kernel
theorem q_230_50 : js_I 230 50 = some (.iconst 0, 1) := by decide +kernel
theorem q_230_51 : js_I 230 51 = some (.if_icmp .ne 23, 3) := by decide +kernel
theorem q_230_54 : js_I 230 54 = some (.aload_n 0, 1) := by decide +kernel
theorem q_230_55 : js_I 230 55 = some (.getfield 117, 3) := by decide +kernel
theorem q_230_58 : js_I 230 58 = some (.iload_n 1, 1) := by decide +kernel
theorem q_230_59 : js_I 230 59 = some (.baload, 1) := by decide +kernel
theorem q_230_60 : js_I 230 60 = some (.iload_n 2, 1) := by decide +kernel
theorem q_230_61 : js_I 230 61 = some (.bipush 91, 2) := by decide +kernel
theorem q_230_63 : js_I 230 63 = some (.if_icmp .ne 7, 3) := by decide +kernel
theorem q_230_66 : js_I 230 66 = some (.iconst 1, 1) := by decide +kernel
theorem q_230_67 : js_I 230 67 = some (.goto 4, 3) := by decide +kernel
theorem q_230_70 : js_I 230 70 = some (.iconst 0, 1) := by decide +kernel
theorem q_230_71 : js_I 230 71 = some (.if_icmp .eq 14, 3) := by decide +kernel
theorem q_230_85 : js_I 230 85 = some (.aload_n 0, 1) := by decide +kernel
theorem q_230_86 : js_I 230 86 = some (.getfield 99, 3) := by decide +kernel
theorem q_230_89 : js_I 230 89 = some (.iload_n 1, 1) := by decide +kernel
theorem q_230_90 : js_I 230 90 = some (.iaload, 1) := by decide +kernel
theorem q_230_91 : js_I 230 91 = some (.iconst 4, 1) := by decide +kernel
theorem q_230_92 : js_I 230 92 = some (.if_icmp .ne 30, 3) := by decide +kernel
theorem q_230_95 : js_I 230 95 = some (.aload_n 0, 1) := by decide +kernel
theorem q_230_96 : js_I 230 96 = some (.getfield 102, 3) := by decide +kernel
theorem q_230_99 : js_I 230 99 = some (.iload_n 1, 1) := by decide +kernel
theorem q_230_100 : js_I 230 100 = some (.iaload, 1) := by decide +kernel
theorem q_230_101 : js_I 230 101 = some (.iconst 2, 1) := by decide +kernel
theorem q_230_102 : js_I 230 102 = some (.if_icmp .ne 14, 3) := by decide +kernel
theorem q_230_105 : js_I 230 105 = some (.aload_n 0, 1) := by decide +kernel
theorem q_230_106 : js_I 230 106 = some (.iconst 5, 1) := by decide +kernel
theorem q_230_107 : js_I 230 107 = some (.aload_n 0, 1) := by decide +kernel
theorem q_230_108 : js_I 230 108 = some (.getfield 35, 3) := by decide +kernel
theorem q_230_111 : js_I 230 111 = some (.invokevirtual 65, 3) := by decide +kernel
theorem q_230_116 : js_I 230 116 = some (.aload_n 0, 1) := by decide +kernel
theorem q_230_117 : js_I 230 117 = some (.iload_n 1, 1) := by decide +kernel
theorem q_230_118 : js_I 230 118 = some (.invokevirtual 274, 3) := by decide +kernel
theorem q_230_122 : js_I 230 122 = some (.aload_n 0, 1) := by decide +kernel
theorem q_230_123 : js_I 230 123 = some (.invokevirtual 68, 3) := by decide +kernel
theorem q_230_74 : js_I 230 74 = some (.aload_n 0, 1) := by decide +kernel
theorem q_230_75 : js_I 230 75 = some (.iconst 3, 1) := by decide +kernel
theorem q_230_76 : js_I 230 76 = some (.aload_n 0, 1) := by decide +kernel
theorem q_230_77 : js_I 230 77 = some (.getfield 35, 3) := by decide +kernel
theorem q_230_80 : js_I 230 80 = some (.invokevirtual 65, 3) := by decide +kernel
theorem q_230_83 : js_I 230 83 = some (.iconst 0, 1) := by decide +kernel
theorem q_230_84 : js_I 230 84 = some (.ireturn, 1) := by decide +kernel
theorem q_230_114 : js_I 230 114 = some (.iconst 0, 1) := by decide +kernel
theorem q_230_115 : js_I 230 115 = some (.ireturn, 1) := by decide +kernel
theorem q_230_121 : js_I 230 121 = some (.ireturn, 1) := by decide +kernel
theorem q_230_126 : js_I 230 126 = some (.aload_n 0, 1) := by decide +kernel
theorem q_230_127 : js_I 230 127 = some (.getfield 99, 3) := by decide +kernel
theorem q_230_130 : js_I 230 130 = some (.iload_n 1, 1) := by decide +kernel
theorem q_230_131 : js_I 230 131 = some (.iaload, 1) := by decide +kernel
theorem q_230_132 : js_I 230 132 = some (.ifCond .eq 14, 3) := by decide +kernel
theorem q_230_135 : js_I 230 135 = some (.aload_n 0, 1) := by decide +kernel
theorem q_230_136 : js_I 230 136 = some (.getfield 99, 3) := by decide +kernel
theorem q_230_139 : js_I 230 139 = some (.iload_n 1, 1) := by decide +kernel
theorem q_230_140 : js_I 230 140 = some (.iaload, 1) := by decide +kernel
theorem q_230_141 : js_I 230 141 = some (.bipush 9, 2) := by decide +kernel
theorem q_230_143 : js_I 230 143 = some (.if_icmp .ne 97, 3) := by decide +kernel
theorem q_230_240 : js_I 230 240 = some (.aload_n 0, 1) := by decide +kernel
theorem q_230_241 : js_I 230 241 = some (.getfield 117, 3) := by decide +kernel
theorem q_230_244 : js_I 230 244 = some (.iload_n 1, 1) := by decide +kernel
theorem q_230_245 : js_I 230 245 = some (.baload, 1) := by decide +kernel
theorem q_230_246 : js_I 230 246 = some (.ifCond .ne 32, 3) := by decide +kernel
theorem q_230_249 : js_I 230 249 = some (.aload_n 0, 1) := by decide +kernel
theorem q_230_250 : js_I 230 250 = some (.iconst 2, 1) := by decide +kernel
theorem q_230_251 : js_I 230 251 = some (.aload_n 0, 1) := by decide +kernel
theorem q_230_252 : js_I 230 252 = some (.getfield 102, 3) := by decide +kernel
theorem q_230_255 : js_I 230 255 = some (.iload_n 1, 1) := by decide +kernel
theorem q_230_256 : js_I 230 256 = some (.iaload, 1) := by decide +kernel
theorem q_230_257 : js_I 230 257 = some (.aload_n 0, 1) := by decide +kernel
theorem q_230_258 : js_I 230 258 = some (.getfield 105, 3) := by decide +kernel
theorem q_230_261 : js_I 230 261 = some (.iload_n 1, 1) := by decide +kernel
theorem q_230_262 : js_I 230 262 = some (.iaload, 1) := by decide +kernel
theorem q_230_263 : js_I 230 263 = some (.i2l, 1) := by decide +kernel
theorem q_230_264 : js_I 230 264 = some (.aload_n 0, 1) := by decide +kernel
theorem q_230_265 : js_I 230 265 = some (.getfield 108, 3) := by decide +kernel
theorem q_230_268 : js_I 230 268 = some (.iload_n 1, 1) := by decide +kernel
theorem q_230_269 : js_I 230 269 = some (.iaload, 1) := by decide +kernel
theorem q_230_270 : js_I 230 270 = some (.i2l, 1) := by decide +kernel
theorem q_230_271 : js_I 230 271 = some (.iload_n 1, 1) := by decide +kernel
theorem q_230_272 : js_I 230 272 = some (.iconst 0, 1) := by decide +kernel
theorem q_230_273 : js_I 230 273 = some (.iconst 0, 1) := by decide +kernel
theorem q_230_274 : js_I 230 274 = some (.invokevirtual 208, 3) := by decide +kernel
theorem q_230_278 : js_I 230 278 = some (.aload_n 0, 1) := by decide +kernel
theorem q_230_279 : js_I 230 279 = some (.iconst 3, 1) := by decide +kernel
theorem q_230_280 : js_I 230 280 = some (.aload_n 0, 1) := by decide +kernel
theorem q_230_281 : js_I 230 281 = some (.getfield 102, 3) := by decide +kernel
theorem q_230_284 : js_I 230 284 = some (.iload_n 1, 1) := by decide +kernel
theorem q_230_285 : js_I 230 285 = some (.iaload, 1) := by decide +kernel
theorem q_230_286 : js_I 230 286 = some (.aload_n 0, 1) := by decide +kernel
theorem q_230_287 : js_I 230 287 = some (.getfield 105, 3) := by decide +kernel
theorem q_230_290 : js_I 230 290 = some (.iload_n 1, 1) := by decide +kernel
theorem q_230_291 : js_I 230 291 = some (.iaload, 1) := by decide +kernel
theorem q_230_292 : js_I 230 292 = some (.i2l, 1) := by decide +kernel
theorem q_230_293 : js_I 230 293 = some (.aload_n 0, 1) := by decide +kernel
theorem q_230_294 : js_I 230 294 = some (.getfield 108, 3) := by decide +kernel
theorem q_230_297 : js_I 230 297 = some (.iload_n 1, 1) := by decide +kernel
theorem q_230_298 : js_I 230 298 = some (.iaload, 1) := by decide +kernel
theorem q_230_299 : js_I 230 299 = some (.i2l, 1) := by decide +kernel
theorem q_230_300 : js_I 230 300 = some (.iload_n 1, 1) := by decide +kernel
theorem q_230_301 : js_I 230 301 = some (.aload_n 0, 1) := by decide +kernel
theorem q_230_302 : js_I 230 302 = some (.iload_n 1, 1) := by decide +kernel
theorem q_230_303 : js_I 230 303 = some (.invokevirtual 277, 3) := by decide +kernel
theorem q_230_146 : js_I 230 146 = some (.aload_n 0, 1) := by decide +kernel
theorem q_230_147 : js_I 230 147 = some (.getfield 102, 3) := by decide +kernel
theorem q_230_150 : js_I 230 150 = some (.iload_n 1, 1) := by decide +kernel
theorem q_230_151 : js_I 230 151 = some (.iaload, 1) := by decide +kernel
theorem q_230_152 : js_I 230 152 = some (.ifCond .ne 7, 3) := by decide +kernel
theorem q_230_155 : js_I 230 155 = some (.iconst 1, 1) := by decide +kernel
theorem q_230_156 : js_I 230 156 = some (.goto 4, 3) := by decide +kernel
theorem q_230_159 : js_I 230 159 = some (.iconst 0, 1) := by decide +kernel
theorem q_230_160 : js_I 230 160 = some (.istore_n 3, 1) := by decide +kernel
theorem q_230_161 : js_I 230 161 = some (.aload_n 0, 1) := by decide +kernel
theorem q_230_162 : js_I 230 162 = some (.iconst 1, 1) := by decide +kernel
theorem q_230_163 : js_I 230 163 = some (.aload_n 0, 1) := by decide +kernel
theorem q_230_164 : js_I 230 164 = some (.getfield 102, 3) := by decide +kernel
theorem q_230_167 : js_I 230 167 = some (.iload_n 1, 1) := by decide +kernel
theorem q_230_168 : js_I 230 168 = some (.iaload, 1) := by decide +kernel
theorem q_230_169 : js_I 230 169 = some (.iload_n 3, 1) := by decide +kernel
theorem q_230_170 : js_I 230 170 = some (.ifCond .eq 13, 3) := by decide +kernel
theorem q_230_183 : js_I 230 183 = some (.lconst 0, 1) := by decide +kernel
theorem q_230_173 : js_I 230 173 = some (.aload_n 0, 1) := by decide +kernel
theorem q_230_174 : js_I 230 174 = some (.getfield 126, 3) := by decide +kernel
theorem q_230_177 : js_I 230 177 = some (.iload_n 1, 1) := by decide +kernel
theorem q_230_178 : js_I 230 178 = some (.iaload, 1) := by decide +kernel
theorem q_230_179 : js_I 230 179 = some (.i2l, 1) := by decide +kernel
theorem q_230_180 : js_I 230 180 = some (.goto 4, 3) := by decide +kernel
theorem q_230_184 : js_I 230 184 = some (.iload_n 3, 1) := by decide +kernel
theorem q_230_185 : js_I 230 185 = some (.ifCond .eq 13, 3) := by decide +kernel
theorem q_230_198 : js_I 230 198 = some (.aload_n 0, 1) := by decide +kernel
theorem q_230_199 : js_I 230 199 = some (.getfield 102, 3) := by decide +kernel
theorem q_230_202 : js_I 230 202 = some (.iload_n 1, 1) := by decide +kernel
theorem q_230_203 : js_I 230 203 = some (.iaload, 1) := by decide +kernel
theorem q_230_204 : js_I 230 204 = some (.iconst 1, 1) := by decide +kernel
theorem q_230_205 : js_I 230 205 = some (.if_icmp .ne 7, 3) := by decide +kernel
theorem q_230_208 : js_I 230 208 = some (.lconst 1, 1) := by decide +kernel
theorem q_230_209 : js_I 230 209 = some (.goto 19, 3) := by decide +kernel
theorem q_230_212 : js_I 230 212 = some (.aload_n 0, 1) := by decide +kernel
theorem q_230_213 : js_I 230 213 = some (.getfield 114, 3) := by decide +kernel
theorem q_230_216 : js_I 230 216 = some (.aload_n 0, 1) := by decide +kernel
theorem q_230_217 : js_I 230 217 = some (.getfield 102, 3) := by decide +kernel
theorem q_230_220 : js_I 230 220 = some (.iload_n 1, 1) := by decide +kernel
theorem q_230_221 : js_I 230 221 = some (.iaload, 1) := by decide +kernel
theorem q_230_222 : js_I 230 222 = some (.iconst 3, 1) := by decide +kernel
theorem q_230_223 : js_I 230 223 = some (.isub, 1) := by decide +kernel
theorem q_230_224 : js_I 230 224 = some (.iaload, 1) := by decide +kernel
theorem q_230_225 : js_I 230 225 = some (.iconst 1, 1) := by decide +kernel
theorem q_230_226 : js_I 230 226 = some (.isub, 1) := by decide +kernel
theorem q_230_227 : js_I 230 227 = some (.i2l, 1) := by decide +kernel
theorem q_230_188 : js_I 230 188 = some (.aload_n 0, 1) := by decide +kernel
theorem q_230_189 : js_I 230 189 = some (.getfield 126, 3) := by decide +kernel
theorem q_230_192 : js_I 230 192 = some (.iload_n 1, 1) := by decide +kernel
theorem q_230_193 : js_I 230 193 = some (.iaload, 1) := by decide +kernel
theorem q_230_194 : js_I 230 194 = some (.i2l, 1) := by decide +kernel
theorem q_230_195 : js_I 230 195 = some (.goto 33, 3) := by decide +kernel
theorem q_230_228 : js_I 230 228 = some (.aload_n 0, 1) := by decide +kernel
theorem q_230_229 : js_I 230 229 = some (.getfield 126, 3) := by decide +kernel
theorem q_230_232 : js_I 230 232 = some (.iload_n 1, 1) := by decide +kernel
theorem q_230_233 : js_I 230 233 = some (.iaload, 1) := by decide +kernel
theorem q_230_234 : js_I 230 234 = some (.iconst 0, 1) := by decide +kernel
theorem q_230_235 : js_I 230 235 = some (.iconst 0, 1) := by decide +kernel
theorem q_230_236 : js_I 230 236 = some (.invokevirtual 208, 3) := by decide +kernel
theorem q_230_239 : js_I 230 239 = some (.ireturn, 1) := by decide +kernel
theorem q_230_277 : js_I 230 277 = some (.ireturn, 1) := by decide +kernel
theorem q_230_306 : js_I 230 306 = some (.iconst 0, 1) := by decide +kernel
theorem q_230_307 : js_I 230 307 = some (.invokevirtual 208, 3) := by decide +kernel
theorem q_230_310 : js_I 230 310 = some (.ireturn, 1) := by decide +kernel
theorem q_231_0 : js_I 231 0 = some (.aload_n 0, 1) := by decide +kernel
theorem q_231_1 : js_I 231 1 = some (.getfield 28, 3) := by decide +kernel
theorem q_231_4 : js_I 231 4 = some (.istore_n 1, 1) := by decide +kernel
theorem q_231_5 : js_I 231 5 = some (.iconst 1, 1) := by decide +kernel
theorem q_231_6 : js_I 231 6 = some (.istore_n 2, 1) := by decide +kernel
theorem q_231_7 : js_I 231 7 = some (.iload_n 2, 1) := by decide +kernel
theorem q_231_8 : js_I 231 8 = some (.ifCond .eq 93, 3) := by decide +kernel
theorem q_231_101 : js_I 231 101 = some (.aload_n 0, 1) := by decide +kernel
theorem q_231_102 : js_I 231 102 = some (.iload_n 1, 1) := by decide +kernel
theorem q_231_103 : js_I 231 103 = some (.invokevirtual 31, 3) := by decide +kernel
theorem q_231_11 : js_I 231 11 = some (.iload_n 1, 1) := by decide +kernel
theorem q_231_12 : js_I 231 12 = some (.aload_n 0, 1) := by decide +kernel
theorem q_231_13 : js_I 231 13 = some (.getfield 19, 3) := by decide +kernel
theorem q_231_16 : js_I 231 16 = some (.if_icmp .ge 29, 3) := by decide +kernel
theorem q_231_19 : js_I 231 19 = some (.aload_n 0, 1) := by decide +kernel
theorem q_231_20 : js_I 231 20 = some (.iload_n 1, 1) := by decide +kernel
theorem q_231_21 : js_I 231 21 = some (.invokevirtual 31, 3) := by decide +kernel
theorem q_231_24 : js_I 231 24 = some (.bipush 32, 2) := by decide +kernel
theorem q_231_26 : js_I 231 26 = some (.if_icmp .eq 13, 3) := by decide +kernel
theorem q_231_29 : js_I 231 29 = some (.aload_n 0, 1) := by decide +kernel
theorem q_231_30 : js_I 231 30 = some (.iload_n 1, 1) := by decide +kernel
theorem q_231_31 : js_I 231 31 = some (.invokevirtual 31, 3) := by decide +kernel
theorem q_231_34 : js_I 231 34 = some (.bipush 10, 2) := by decide +kernel
theorem q_231_36 : js_I 231 36 = some (.if_icmp .ne 9, 3) := by decide +kernel
theorem q_231_39 : js_I 231 39 = some (.iinc 1 1, 3) := by decide +kernel
theorem q_231_42 : js_I 231 42 = some (.goto (-31), 3) := by decide +kernel
theorem q_231_45 : js_I 231 45 = some (.aload_n 0, 1) := by decide +kernel
theorem q_231_46 : js_I 231 46 = some (.iload_n 1, 1) := by decide +kernel
theorem q_231_47 : js_I 231 47 = some (.invokevirtual 31, 3) := by decide +kernel
theorem q_231_50 : js_I 231 50 = some (.bipush 47, 2) := by decide +kernel
theorem q_231_52 : js_I 231 52 = some (.if_icmp .ne 19, 3) := by decide +kernel
theorem q_231_55 : js_I 231 55 = some (.aload_n 0, 1) := by decide +kernel
theorem q_231_56 : js_I 231 56 = some (.iload_n 1, 1) := by decide +kernel
theorem q_231_57 : js_I 231 57 = some (.iconst 1, 1) := by decide +kernel
theorem q_231_58 : js_I 231 58 = some (.iadd, 1) := by decide +kernel
theorem q_231_59 : js_I 231 59 = some (.invokevirtual 31, 3) := by decide +kernel
theorem q_231_62 : js_I 231 62 = some (.bipush 47, 2) := by decide +kernel
theorem q_231_64 : js_I 231 64 = some (.if_icmp .ne 7, 3) := by decide +kernel
theorem q_231_67 : js_I 231 67 = some (.iconst 1, 1) := by decide +kernel
theorem q_231_68 : js_I 231 68 = some (.goto 4, 3) := by decide +kernel
theorem q_231_71 : js_I 231 71 = some (.iconst 0, 1) := by decide +kernel
theorem q_231_72 : js_I 231 72 = some (.istore_n 2, 1) := by decide +kernel
theorem q_231_73 : js_I 231 73 = some (.iload_n 2, 1) := by decide +kernel
theorem q_231_74 : js_I 231 74 = some (.ifCond .eq (-67), 3) := by decide +kernel
theorem q_231_77 : js_I 231 77 = some (.iload_n 1, 1) := by decide +kernel
theorem q_231_78 : js_I 231 78 = some (.aload_n 0, 1) := by decide +kernel
theorem q_231_79 : js_I 231 79 = some (.getfield 19, 3) := by decide +kernel
theorem q_231_82 : js_I 231 82 = some (.if_icmp .ge (-75), 3) := by decide +kernel
theorem q_231_85 : js_I 231 85 = some (.aload_n 0, 1) := by decide +kernel
theorem q_231_86 : js_I 231 86 = some (.iload_n 1, 1) := by decide +kernel
theorem q_231_87 : js_I 231 87 = some (.invokevirtual 31, 3) := by decide +kernel
theorem q_231_90 : js_I 231 90 = some (.bipush 10, 2) := by decide +kernel
theorem q_231_92 : js_I 231 92 = some (.if_icmp .eq (-85), 3) := by decide +kernel
theorem q_231_95 : js_I 231 95 = some (.iinc 1 1, 3) := by decide +kernel
theorem q_231_98 : js_I 231 98 = some (.goto (-25), 3) := by decide +kernel
theorem q_231_106 : js_I 231 106 = some (.ireturn, 1) := by decide +kernel
theorem qm_12_256 : ip_lk (vt_ML.getD 12 []) 256 = some (226, 0, 1, 12) := by decide +kernel
theorem qm_12_259 : ip_lk (vt_ML.getD 12 []) 259 = some (227, 0, 1, 12) := by decide +kernel
theorem qm_12_262 : ip_lk (vt_ML.getD 12 []) 262 = some (228, 0, 1, 12) := by decide +kernel
theorem qm_12_265 : ip_lk (vt_ML.getD 12 []) 265 = some (229, 0, 1, 12) := by decide +kernel
theorem qm_12_268 : ip_lk (vt_ML.getD 12 []) 268 = some (230, 0, 1, 12) := by decide +kernel
theorem qm_12_250 : ip_lk (vt_ML.getD 12 []) 250 = some (5, 1, 4, 0) := by decide +kernel
theorem qm_12_241 : ip_lk (vt_ML.getD 12 []) 241 = some (4, 2, 4, 0) := by decide +kernel
theorem qm_12_271 : ip_lk (vt_ML.getD 12 []) 271 = some (231, 0, 1, 12) := by decide +kernel
theorem qm_12_274 : ip_lk (vt_ML.getD 12 []) 274 = some (232, 1, 1, 12) := by decide +kernel
theorem qm_12_277 : ip_lk (vt_ML.getD 12 []) 277 = some (233, 1, 1, 12) := by decide +kernel
theorem ww_318 : js_w 318 = 318 := by decide +kernel
theorem wl_0 : js_l 0 = 0 := by decide +kernel
theorem ww_4 : js_w 4 = 4 := by decide +kernel
-- 225: VitalTwinModel.front ()I
theorem b_225_0 {E : js_E} {d : Nat} {σ : js_S} : js_J E d 225 0 [(2, 83), (9, 0), (9, 0), (9, 0)] [] σ = (if js_w (σ 83 5) = 45 then js_J E d 225 23 [(2, 83), (9, 0), (9, 0), (9, 0)] [] σ else (if js_w (σ 83 5) = 33 then js_J E d 225 23 [(2, 83), (9, 0), (9, 0), (9, 0)] [] σ else js_J E d 225 19 [(2, 83), (9, 0), (9, 0), (9, 0)] [(2, 83)] σ)) :=
  (j_aload_n q_225_0 rfl).trans <| (j_get (ji := 5) (v := (0, σ 83 5)) q_225_1 (js_Fo qy_225 qf_12_25) js_o83 rfl rfl rfl rfl).trans <| (j_bi q_225_4 rfl).trans <| (j_cmpeqB (t := 23) q_225_6 rfl ww_45).trans (js_ite (rfl) ((j_aload_n q_225_9 rfl).trans <| (j_get (ji := 5) (v := (0, σ 83 5)) q_225_10 (js_Fo qy_225 qf_12_25) js_o83 rfl rfl rfl rfl).trans <| (j_bi q_225_13 rfl).trans <| (j_cmpeqB (t := 23) q_225_15 rfl ww_33).trans (js_ite (rfl) ((j_aload_n q_225_18 rfl).trans <| rfl))))
theorem k_225_19 {E : js_E} {d : Nat} {σ σ2 : js_S} {v : Int} (hd : 1 ≤ d) (hz : js_J E (d - 1) 226 0 [(2, 83), (9, 0)] [] σ = js_r E (0, v) σ2) : js_J E d 225 19 [(2, 83), (9, 0), (9, 0), (9, 0)] [(2, 83)] σ = js_J E d 225 22 [(2, 83), (9, 0), (9, 0), (9, 0)] [(0, v)] σ2 :=
  j_call (m := 1) (js_caV q_225_19 (js_Mo qy_225 qm_12_256)) (js_agV (av := []) (st := []) rfl rfl js_o83 rfl) rfl rfl (by rw [ql_226]; exact Nat.le_of_ble_eq_true rfl) (Nat.le_of_ble_eq_true rfl) hd hz
theorem b_225_22 {E : js_E} {d : Nat} {σ : js_S} {z0 : Int} : js_J E d 225 22 [(2, 83), (9, 0), (9, 0), (9, 0)] [(0, z0)] σ = js_r E (0, z0) σ :=
  j_ireturn q_225_22 qr_225
theorem b_225_23 {E : js_E} {d : Nat} {σ : js_S} : js_J E d 225 23 [(2, 83), (9, 0), (9, 0), (9, 0)] [] σ = (if js_w (σ 83 5) = 45 then js_J E d 225 37 [(2, 83), (9, 0), (9, 0), (9, 0)] [(0, 1)] σ else js_J E d 225 37 [(2, 83), (9, 0), (9, 0), (9, 0)] [(0, 0)] σ) :=
  (j_aload_n q_225_23 rfl).trans <| (j_get (ji := 5) (v := (0, σ 83 5)) q_225_24 (js_Fo qy_225 qf_12_25) js_o83 rfl rfl rfl rfl).trans <| (j_bi q_225_27 rfl).trans <| (j_cmpneB (t := 36) q_225_29 rfl ww_45).trans (js_ite ((j_iconst q_225_32).trans <| (j_goto (t := 37) q_225_33 rfl).trans <| rfl) ((j_iconst q_225_36).trans <| rfl))
theorem b_225_37 {E : js_E} {d : Nat} {σ : js_S} {z0 : Int} : js_J E d 225 37 [(2, 83), (9, 0), (9, 0), (9, 0)] [(0, z0)] σ = js_J E d 225 48 [(2, 83), (0, z0), (0, σ 83 6), (9, 0)] [(0, σ 83 5), (2, 83)] σ :=
  (j_istore_n (l2 := [(2, 83), (0, z0), (9, 0), (9, 0)]) q_225_37 rfl (Nat.le_of_ble_eq_true rfl)).trans <| (j_aload_n q_225_38 rfl).trans <| (j_get (ji := 6) (v := (0, σ 83 6)) q_225_39 (js_Fo qy_225 qf_12_35) js_o83 rfl rfl rfl rfl).trans <| (j_istore_n (l2 := [(2, 83), (0, z0), (0, σ 83 6), (9, 0)]) q_225_42 rfl (Nat.le_of_ble_eq_true rfl)).trans <| (j_aload_n q_225_43 rfl).trans <| (j_aload_n q_225_44 rfl).trans <| (j_get (ji := 5) (v := (0, σ 83 5)) q_225_45 (js_Fo qy_225 qf_12_25) js_o83 rfl rfl rfl rfl).trans <| rfl
theorem k_225_48 {E : js_E} {d : Nat} {σ σ2 : js_S} {x1 x2 z1 : Int} (hd : 1 ≤ d) (hz : js_J E (d - 1) 207 0 [(2, 83), (0, z1)] [] σ = js_r0 E σ2) : js_J E d 225 48 [(2, 83), (0, x1), (0, x2), (9, 0)] [(0, z1), (2, 83)] σ = js_J E d 225 51 [(2, 83), (0, x1), (0, x2), (9, 0)] [] σ2 :=
  j_call0 (m := 0) (js_caV q_225_48 (js_Mo qy_225 qm_12_159)) (js_agV (av := [(0, z1)]) (st := []) rfl rfl js_o83 rfl) rfl rfl (by rw [ql_207]; exact Nat.le_of_ble_eq_true rfl) (Nat.le_of_ble_eq_true rfl) hd hz
theorem b_225_51 {E : js_E} {d : Nat} {σ : js_S} {x1 x2 : Int} : js_J E d 225 51 [(2, 83), (0, x1), (0, x2), (9, 0)] [] σ = js_J E d 225 52 [(2, 83), (0, x1), (0, x2), (9, 0)] [(2, 83)] σ :=
  (j_aload_n q_225_51 rfl).trans <| rfl
theorem k_225_52 {E : js_E} {d : Nat} {σ σ2 : js_S} {x1 x2 : Int} {v : Int} (hd : 1 ≤ d) (hz : js_J E (d - 1) 225 0 [(2, 83), (9, 0), (9, 0), (9, 0)] [] σ = js_r E (0, v) σ2) : js_J E d 225 52 [(2, 83), (0, x1), (0, x2), (9, 0)] [(2, 83)] σ = js_J E d 225 55 [(2, 83), (0, x1), (0, x2), (9, 0)] [(0, v)] σ2 :=
  j_call (m := 3) (js_caV q_225_52 (js_Mo qy_225 qm_12_231)) (js_agV (av := []) (st := []) rfl rfl js_o83 rfl) rfl rfl (by rw [ql_225]; exact Nat.le_of_ble_eq_true rfl) (Nat.le_of_ble_eq_true rfl) hd hz
theorem b_225_55 {E : js_E} {d : Nat} {σ : js_S} {x1 x2 z0 : Int} : js_J E d 225 55 [(2, 83), (0, x1), (0, x2), (9, 0)] [(0, z0)] σ = (if 0 < js_w (σ 83 9) then js_r E (0, 0) (js_up σ 83 10 ((σ 83 10) - 1)) else (if 0 ≤ js_w z0 ∧ js_w z0 < 66000 then (if js_w x1 = 0 then js_J E d 225 90 [(2, 83), (0, x1), (0, x2), (0, z0)] [(0, 1), (0, σ 101 (js_w z0))] (js_up σ 83 10 ((σ 83 10) - 1)) else js_J E d 225 90 [(2, 83), (0, x1), (0, x2), (0, z0)] [(0, 0), (0, σ 101 (js_w z0))] (js_up σ 83 10 ((σ 83 10) - 1))) else none)) :=
  (j_istore_n (l2 := [(2, 83), (0, x1), (0, x2), (0, z0)]) q_225_55 rfl (Nat.le_of_ble_eq_true rfl)).trans <| (j_aload_n q_225_56 rfl).trans <| (j_dupr q_225_57).trans <| (j_get (ji := 10) (v := (0, σ 83 10)) q_225_58 (js_Fo qy_225 qf_12_72) js_o83 rfl rfl rfl rfl).trans <| (j_iconst q_225_61).trans <| (j_isub q_225_62).trans <| (j_putI (ji := 10) q_225_63 (js_Fo qy_225 qf_12_72) rfl js_o83 rfl rfl rfl).trans <| (j_aload_n q_225_66 rfl).trans <| (j_get (ji := 9) (v := (0, σ 83 9)) q_225_67 (js_Fo qy_225 qf_12_22) js_o83 rfl rfl rfl (congrArg (Prod.mk 0) ((js_up_ni _ (by decide))))).trans <| (j_ifle (t := 75) q_225_70 rfl).trans (js_ite ((j_iconst q_225_73).trans <| j_ireturn q_225_74 qr_225) ((j_aload_n q_225_75 rfl).trans <| (j_get (ji := 35) (v := (2, 101)) q_225_76 (js_Fo qy_225 qf_12_172) js_o83 rfl rfl rfl rfl).trans <| (j_iload_n q_225_79 rfl).trans <| (j_ialoadv q_225_80 js_o101 ((js_up_na _ (by decide)))).trans <| js_itp fun g0 => (j_iload_n q_225_81 rfl).trans <| (j_ifeq (t := 89) q_225_82 rfl).trans (js_ite ((j_iconst q_225_89).trans <| rfl) ((j_iconst q_225_85).trans <| (j_goto (t := 90) q_225_86 rfl).trans <| rfl))))
theorem b_225_90 {E : js_E} {d : Nat} {σ : js_S} {x1 x2 x3 z0 z1 : Int} : js_J E d 225 90 [(2, 83), (0, x1), (0, x2), (0, x3)] [(0, z1), (0, z0)] σ = (if js_w z0 = js_w z1 then js_J E d 225 99 [(2, 83), (0, x1), (0, x2), (0, x3)] [] σ else js_J E d 225 96 [(2, 83), (0, x1), (0, x2), (0, x3)] [(0, x2), (0, 5), (2, 83)] σ) :=
  (j_cmpeq (t := 99) q_225_90 rfl).trans (js_ite (rfl) ((j_aload_n q_225_93 rfl).trans <| (j_iconst q_225_94).trans <| (j_iload_n q_225_95 rfl).trans <| rfl))
theorem k_225_96 {E : js_E} {d : Nat} {σ σ2 : js_S} {x1 x2 x3 z1 z2 : Int} (hd : 1 ≤ d) (hz : js_J E (d - 1) 199 0 [(2, 83), (0, z1), (0, z2)] [] σ = js_r0 E σ2) : js_J E d 225 96 [(2, 83), (0, x1), (0, x2), (0, x3)] [(0, z2), (0, z1), (2, 83)] σ = js_J E d 225 99 [(2, 83), (0, x1), (0, x2), (0, x3)] [] σ2 :=
  j_call0 (m := 0) (js_caV q_225_96 (js_Mo qy_225 qm_12_65)) (js_agV (av := [(0, z1), (0, z2)]) (st := []) rfl rfl js_o83 rfl) rfl rfl (by rw [ql_199]; exact Nat.le_of_ble_eq_true rfl) (Nat.le_of_ble_eq_true rfl) hd hz
theorem b_225_99 {E : js_E} {d : Nat} {σ : js_S} {x1 x2 x3 : Int} : js_J E d 225 99 [(2, 83), (0, x1), (0, x2), (0, x3)] [] σ = (if js_w x1 = 0 then js_J E d 225 141 [(2, 83), (0, x1), (0, x2), (0, x3)] [(0, 21), (0, 0), (0, x3), (1, 1), (1, 0), (0, 1), (0, 5), (2, 83)] σ else (if 0 ≤ js_w x3 ∧ js_w x3 < 66000 then js_J E d 225 126 [(2, 83), (0, x1), (0, x2), (0, x3)] [(0, 19), (0, 0), (0, x3), (1, -(js_w (σ 105 (js_w x3)))), (1, -(js_w (σ 106 (js_w x3)))), (0, 0), (0, 5), (2, 83)] σ else none)) :=
  (j_iload_n q_225_99 rfl).trans <| (j_ifeq (t := 132) q_225_100 rfl).trans (js_ite ((j_aload_n q_225_132 rfl).trans <| (j_iconst q_225_133).trans <| (j_iconst q_225_134).trans <| (j_lconst0 q_225_135).trans <| (j_lconst1 q_225_136).trans <| (j_iload_n q_225_137 rfl).trans <| (j_iconst q_225_138).trans <| (j_bi q_225_139 rfl).trans <| rfl) ((j_aload_n q_225_103 rfl).trans <| (j_iconst q_225_104).trans <| (j_iconst q_225_105).trans <| (j_aload_n q_225_106 rfl).trans <| (j_get (ji := 40) (v := (2, 106)) q_225_107 (js_Fo qy_225 qf_12_178) js_o83 rfl rfl rfl rfl).trans <| (j_iload_n q_225_110 rfl).trans <| (j_iaload q_225_111 js_o106).trans <| js_itp fun g0 => (j_i2l q_225_112).trans <| (j_lneg q_225_113).trans <| (j_aload_n q_225_114 rfl).trans <| (j_get (ji := 39) (v := (2, 105)) q_225_115 (js_Fo qy_225 qf_12_175) js_o83 rfl rfl rfl rfl).trans <| (j_iload_n q_225_118 rfl).trans <| (j_iaload q_225_119 js_o105).trans <| (if_pos g0).trans <| (j_i2l q_225_120).trans <| (j_lneg q_225_121).trans <| (j_iload_n q_225_122 rfl).trans <| (j_iconst q_225_123).trans <| (j_bi q_225_124 rfl).trans <| rfl))
theorem k_225_126 {E : js_E} {d : Nat} {σ σ2 : js_S} {x1 x2 x3 z1 z2 z3 z4 z5 z6 z7 : Int} {v : Int} (hd : 1 ≤ d) (hz : js_J E (d - 1) 217 0 [(2, 83), (0, z1), (0, z2), (1, z3), (9, 0), (1, z4), (9, 0), (0, z5), (0, z6), (0, z7), (9, 0)] [] σ = js_r E (0, v) σ2) : js_J E d 225 126 [(2, 83), (0, x1), (0, x2), (0, x3)] [(0, z7), (0, z6), (0, z5), (1, z4), (1, z3), (0, z2), (0, z1), (2, 83)] σ = js_J E d 225 129 [(2, 83), (0, x1), (0, x2), (0, x3)] [(0, v)] σ2 :=
  j_call (m := 1) (js_caV q_225_126 (js_Mo qy_225 qm_12_208)) (js_agV (av := [(0, z1), (0, z2), (1, z3), (1, z4), (0, z5), (0, z6), (0, z7)]) (st := []) rfl rfl js_o83 rfl) rfl rfl (by rw [ql_217]; exact Nat.le_of_ble_eq_true rfl) (Nat.le_of_ble_eq_true rfl) hd hz
theorem b_225_129 {E : js_E} {d : Nat} {σ : js_S} {x1 x2 x3 z0 : Int} : js_J E d 225 129 [(2, 83), (0, x1), (0, x2), (0, x3)] [(0, z0)] σ = js_J E d 225 144 [(2, 83), (0, x1), (0, x2), (0, x3)] [(0, z0)] σ :=
  (j_goto (t := 144) q_225_129 rfl).trans <| rfl
theorem k_225_141 {E : js_E} {d : Nat} {σ σ2 : js_S} {x1 x2 x3 z1 z2 z3 z4 z5 z6 z7 : Int} {v : Int} (hd : 1 ≤ d) (hz : js_J E (d - 1) 217 0 [(2, 83), (0, z1), (0, z2), (1, z3), (9, 0), (1, z4), (9, 0), (0, z5), (0, z6), (0, z7), (9, 0)] [] σ = js_r E (0, v) σ2) : js_J E d 225 141 [(2, 83), (0, x1), (0, x2), (0, x3)] [(0, z7), (0, z6), (0, z5), (1, z4), (1, z3), (0, z2), (0, z1), (2, 83)] σ = js_J E d 225 144 [(2, 83), (0, x1), (0, x2), (0, x3)] [(0, v)] σ2 :=
  j_call (m := 1) (js_caV q_225_141 (js_Mo qy_225 qm_12_208)) (js_agV (av := [(0, z1), (0, z2), (1, z3), (1, z4), (0, z5), (0, z6), (0, z7)]) (st := []) rfl rfl js_o83 rfl) rfl rfl (by rw [ql_217]; exact Nat.le_of_ble_eq_true rfl) (Nat.le_of_ble_eq_true rfl) hd hz
theorem b_225_144 {E : js_E} {d : Nat} {σ : js_S} {x1 x2 x3 z0 : Int} : js_J E d 225 144 [(2, 83), (0, x1), (0, x2), (0, x3)] [(0, z0)] σ = js_r E (0, z0) σ :=
  j_ireturn q_225_144 qr_225
-- 226: VitalTwinModel.first ()I
theorem b_226_0 {E : js_E} {d : Nat} {σ : js_S} : js_J E d 226 0 [(2, 83), (9, 0)] [] σ = js_J E d 226 4 [(2, 83), (9, 0)] [(0, σ 83 5)] σ :=
  (j_aload_n q_226_0 rfl).trans <| (j_get (ji := 5) (v := (0, σ 83 5)) q_226_1 (js_Fo qy_226 qf_12_25) js_o83 rfl rfl rfl rfl).trans <| rfl
theorem s_226_4_2 {E : js_E} {d : Nat} {σ : js_S} {z0 : Int} (h : js_w z0 = 2) : js_J E d 226 4 [(2, 83), (9, 0)] [(0, z0)] σ = js_J E d 226 183 [(2, 83), (9, 0)] [] σ :=
  j_lsw (t := 183) q_226_4 (by rw [h]; rfl)
theorem s_226_4_3 {E : js_E} {d : Nat} {σ : js_S} {z0 : Int} (h : js_w z0 = 3) : js_J E d 226 4 [(2, 83), (9, 0)] [(0, z0)] σ = js_J E d 226 88 [(2, 83), (9, 0)] [] σ :=
  j_lsw (t := 88) q_226_4 (by rw [h]; rfl)
theorem s_226_4_40 {E : js_E} {d : Nat} {σ : js_S} {z0 : Int} (h : js_w z0 = 40) : js_J E d 226 4 [(2, 83), (9, 0)] [(0, z0)] σ = js_J E d 226 149 [(2, 83), (9, 0)] [] σ :=
  j_lsw (t := 149) q_226_4 (by rw [h]; rfl)
theorem s_226_4_316 {E : js_E} {d : Nat} {σ : js_S} {z0 : Int} (h : js_w z0 = 316) : js_J E d 226 4 [(2, 83), (9, 0)] [(0, z0)] σ = js_J E d 226 117 [(2, 83), (9, 0)] [] σ :=
  j_lsw (t := 117) q_226_4 (by rw [h]; rfl)
theorem s_226_4_317 {E : js_E} {d : Nat} {σ : js_S} {z0 : Int} (h : js_w z0 = 317) : js_J E d 226 4 [(2, 83), (9, 0)] [(0, z0)] σ = js_J E d 226 117 [(2, 83), (9, 0)] [] σ :=
  j_lsw (t := 117) q_226_4 (by rw [h]; rfl)
theorem s_226_4_318 {E : js_E} {d : Nat} {σ : js_S} {z0 : Int} (h : js_w z0 = 318) : js_J E d 226 4 [(2, 83), (9, 0)] [(0, z0)] σ = js_J E d 226 168 [(2, 83), (9, 0)] [] σ :=
  j_lsw (t := 168) q_226_4 (by rw [h]; rfl)
theorem s_226_4_319 {E : js_E} {d : Nat} {σ : js_S} {z0 : Int} (h : js_w z0 = 319) : js_J E d 226 4 [(2, 83), (9, 0)] [(0, z0)] σ = js_J E d 226 168 [(2, 83), (9, 0)] [] σ :=
  j_lsw (t := 168) q_226_4 (by rw [h]; rfl)
theorem s_226_4_320 {E : js_E} {d : Nat} {σ : js_S} {z0 : Int} (h : js_w z0 = 320) : js_J E d 226 4 [(2, 83), (9, 0)] [(0, z0)] σ = js_J E d 226 173 [(2, 83), (9, 0)] [] σ :=
  j_lsw (t := 173) q_226_4 (by rw [h]; rfl)
theorem s_226_4_321 {E : js_E} {d : Nat} {σ : js_S} {z0 : Int} (h : js_w z0 = 321) : js_J E d 226 4 [(2, 83), (9, 0)] [(0, z0)] σ = js_J E d 226 178 [(2, 83), (9, 0)] [] σ :=
  j_lsw (t := 178) q_226_4 (by rw [h]; rfl)
theorem s_226_4_d {E : js_E} {d : Nat} {σ : js_S} {z0 : Int} (h : js_w z0 ≠ 2 ∧ js_w z0 ≠ 3 ∧ js_w z0 ≠ 40 ∧ js_w z0 ≠ 316 ∧ js_w z0 ≠ 317 ∧ js_w z0 ≠ 318 ∧ js_w z0 ≠ 319 ∧ js_w z0 ≠ 320 ∧ js_w z0 ≠ 321) : js_J E d 226 4 [(2, 83), (9, 0)] [(0, z0)] σ = js_J E d 226 188 [(2, 83), (9, 0)] [] σ :=
  j_lsw (t := 188) q_226_4 (by obtain ⟨h0, h1, h2, h3, h4, h5, h6, h7, h8⟩ := h; simp [Op.lookupswitch.offset, Ne.symm h0, Ne.symm h1, Ne.symm h2, Ne.symm h3, Ne.symm h4, Ne.symm h5, Ne.symm h6, Ne.symm h7, Ne.symm h8]; rfl)
theorem b_226_88 {E : js_E} {d : Nat} {σ : js_S} : js_J E d 226 88 [(2, 83), (9, 0)] [] σ = js_J E d 226 107 [(2, 83), (9, 0)] [(0, 0), (0, 0), (0, σ 83 8), (1, js_w (σ 83 8)), (1, js_w (σ 83 8)), (0, 0), (0, 1), (2, 83)] σ :=
  (j_aload_n q_226_88 rfl).trans <| (j_iconst q_226_89).trans <| (j_iconst q_226_90).trans <| (j_aload_n q_226_91 rfl).trans <| (j_get (ji := 8) (v := (0, σ 83 8)) q_226_92 (js_Fo qy_226 qf_12_53) js_o83 rfl rfl rfl rfl).trans <| (j_i2l q_226_95).trans <| (j_aload_n q_226_96 rfl).trans <| (j_get (ji := 8) (v := (0, σ 83 8)) q_226_97 (js_Fo qy_226 qf_12_53) js_o83 rfl rfl rfl rfl).trans <| (j_i2l q_226_100).trans <| (j_aload_n q_226_101 rfl).trans <| (j_get (ji := 8) (v := (0, σ 83 8)) q_226_102 (js_Fo qy_226 qf_12_53) js_o83 rfl rfl rfl rfl).trans <| (j_iconst q_226_105).trans <| (j_iconst q_226_106).trans <| rfl
theorem k_226_107 {E : js_E} {d : Nat} {σ σ2 : js_S} {z1 z2 z3 z4 z5 z6 z7 : Int} {v : Int} (hd : 1 ≤ d) (hz : js_J E (d - 1) 217 0 [(2, 83), (0, z1), (0, z2), (1, z3), (9, 0), (1, z4), (9, 0), (0, z5), (0, z6), (0, z7), (9, 0)] [] σ = js_r E (0, v) σ2) : js_J E d 226 107 [(2, 83), (9, 0)] [(0, z7), (0, z6), (0, z5), (1, z4), (1, z3), (0, z2), (0, z1), (2, 83)] σ = js_J E d 226 110 [(2, 83), (9, 0)] [(0, v)] σ2 :=
  j_call (m := 1) (js_caV q_226_107 (js_Mo qy_226 qm_12_208)) (js_agV (av := [(0, z1), (0, z2), (1, z3), (1, z4), (0, z5), (0, z6), (0, z7)]) (st := []) rfl rfl js_o83 rfl) rfl rfl (by rw [ql_217]; exact Nat.le_of_ble_eq_true rfl) (Nat.le_of_ble_eq_true rfl) hd hz
theorem b_226_110 {E : js_E} {d : Nat} {σ : js_S} {z0 : Int} : js_J E d 226 110 [(2, 83), (9, 0)] [(0, z0)] σ = js_J E d 226 112 [(2, 83), (0, z0)] [(2, 83)] σ :=
  (j_istore_n (l2 := [(2, 83), (0, z0)]) q_226_110 rfl (Nat.le_of_ble_eq_true rfl)).trans <| (j_aload_n q_226_111 rfl).trans <| rfl
theorem k_226_112 {E : js_E} {d : Nat} {σ σ2 : js_S} {x1 : Int} (hd : 1 ≤ d) (hz : js_J E (d - 1) 191 0 [(2, 83), (9, 0), (9, 0), (9, 0), (9, 0), (9, 0)] [] σ = js_r0 E σ2) : js_J E d 226 112 [(2, 83), (0, x1)] [(2, 83)] σ = js_J E d 226 115 [(2, 83), (0, x1)] [] σ2 :=
  j_call0 (m := 5) (js_caV q_226_112 (js_Mo qy_226 qm_12_68)) (js_agV (av := []) (st := []) rfl rfl js_o83 rfl) rfl rfl (by rw [ql_191]; exact Nat.le_of_ble_eq_true rfl) (Nat.le_of_ble_eq_true rfl) hd hz
theorem b_226_115 {E : js_E} {d : Nat} {σ : js_S} {x1 : Int} : js_J E d 226 115 [(2, 83), (0, x1)] [] σ = js_r E (0, x1) σ :=
  (j_iload_n q_226_115 rfl).trans <| j_ireturn q_226_116 qr_226
theorem b_226_117 {E : js_E} {d : Nat} {σ : js_S} : js_J E d 226 117 [(2, 83), (9, 0)] [] σ = (if js_w (σ 83 5) = 316 then js_J E d 226 137 [(2, 83), (9, 0)] [(0, 1), (1, 1), (1, 0), (0, 1), (0, 1), (2, 83)] σ else js_J E d 226 137 [(2, 83), (9, 0)] [(0, 0), (1, 1), (1, 0), (0, 1), (0, 1), (2, 83)] σ) :=
  (j_aload_n q_226_117 rfl).trans <| (j_iconst q_226_118).trans <| (j_iconst q_226_119).trans <| (j_lconst0 q_226_120).trans <| (j_lconst1 q_226_121).trans <| (j_aload_n q_226_122 rfl).trans <| (j_get (ji := 5) (v := (0, σ 83 5)) q_226_123 (js_Fo qy_226 qf_12_25) js_o83 rfl rfl rfl rfl).trans <| (j_si q_226_126 rfl).trans <| (j_cmpneB (t := 136) q_226_129 rfl ww_316).trans (js_ite ((j_iconst q_226_132).trans <| (j_goto (t := 137) q_226_133 rfl).trans <| rfl) ((j_iconst q_226_136).trans <| rfl))
theorem b_226_137 {E : js_E} {d : Nat} {σ : js_S} {z1 z2 z3 z4 z5 : Int} : js_J E d 226 137 [(2, 83), (9, 0)] [(0, z5), (1, z4), (1, z3), (0, z2), (0, z1), (2, 83)] σ = js_J E d 226 139 [(2, 83), (9, 0)] [(0, 0), (0, 0), (0, z5), (1, z4), (1, z3), (0, z2), (0, z1), (2, 83)] σ :=
  (j_iconst q_226_137).trans <| (j_iconst q_226_138).trans <| rfl
theorem k_226_139 {E : js_E} {d : Nat} {σ σ2 : js_S} {z1 z2 z3 z4 z5 z6 z7 : Int} {v : Int} (hd : 1 ≤ d) (hz : js_J E (d - 1) 217 0 [(2, 83), (0, z1), (0, z2), (1, z3), (9, 0), (1, z4), (9, 0), (0, z5), (0, z6), (0, z7), (9, 0)] [] σ = js_r E (0, v) σ2) : js_J E d 226 139 [(2, 83), (9, 0)] [(0, z7), (0, z6), (0, z5), (1, z4), (1, z3), (0, z2), (0, z1), (2, 83)] σ = js_J E d 226 142 [(2, 83), (9, 0)] [(0, v)] σ2 :=
  j_call (m := 1) (js_caV q_226_139 (js_Mo qy_226 qm_12_208)) (js_agV (av := [(0, z1), (0, z2), (1, z3), (1, z4), (0, z5), (0, z6), (0, z7)]) (st := []) rfl rfl js_o83 rfl) rfl rfl (by rw [ql_217]; exact Nat.le_of_ble_eq_true rfl) (Nat.le_of_ble_eq_true rfl) hd hz
theorem b_226_142 {E : js_E} {d : Nat} {σ : js_S} {z0 : Int} : js_J E d 226 142 [(2, 83), (9, 0)] [(0, z0)] σ = js_J E d 226 144 [(2, 83), (0, z0)] [(2, 83)] σ :=
  (j_istore_n (l2 := [(2, 83), (0, z0)]) q_226_142 rfl (Nat.le_of_ble_eq_true rfl)).trans <| (j_aload_n q_226_143 rfl).trans <| rfl
theorem k_226_144 {E : js_E} {d : Nat} {σ σ2 : js_S} {x1 : Int} (hd : 1 ≤ d) (hz : js_J E (d - 1) 191 0 [(2, 83), (9, 0), (9, 0), (9, 0), (9, 0), (9, 0)] [] σ = js_r0 E σ2) : js_J E d 226 144 [(2, 83), (0, x1)] [(2, 83)] σ = js_J E d 226 147 [(2, 83), (0, x1)] [] σ2 :=
  j_call0 (m := 5) (js_caV q_226_144 (js_Mo qy_226 qm_12_68)) (js_agV (av := []) (st := []) rfl rfl js_o83 rfl) rfl rfl (by rw [ql_191]; exact Nat.le_of_ble_eq_true rfl) (Nat.le_of_ble_eq_true rfl) hd hz
theorem b_226_147 {E : js_E} {d : Nat} {σ : js_S} {x1 : Int} : js_J E d 226 147 [(2, 83), (0, x1)] [] σ = js_r E (0, x1) σ :=
  (j_iload_n q_226_147 rfl).trans <| j_ireturn q_226_148 qr_226
theorem b_226_149 {E : js_E} {d : Nat} {σ : js_S} : js_J E d 226 149 [(2, 83), (9, 0)] [] σ = js_J E d 226 152 [(2, 83), (9, 0)] [(0, 40), (2, 83)] σ :=
  (j_aload_n q_226_149 rfl).trans <| (j_bi q_226_150 rfl).trans <| rfl
theorem k_226_152 {E : js_E} {d : Nat} {σ σ2 : js_S} {z1 : Int} (hd : 1 ≤ d) (hz : js_J E (d - 1) 207 0 [(2, 83), (0, z1)] [] σ = js_r0 E σ2) : js_J E d 226 152 [(2, 83), (9, 0)] [(0, z1), (2, 83)] σ = js_J E d 226 155 [(2, 83), (9, 0)] [] σ2 :=
  j_call0 (m := 0) (js_caV q_226_152 (js_Mo qy_226 qm_12_159)) (js_agV (av := [(0, z1)]) (st := []) rfl rfl js_o83 rfl) rfl rfl (by rw [ql_207]; exact Nat.le_of_ble_eq_true rfl) (Nat.le_of_ble_eq_true rfl) hd hz
theorem b_226_155 {E : js_E} {d : Nat} {σ : js_S} : js_J E d 226 155 [(2, 83), (9, 0)] [] σ = js_J E d 226 156 [(2, 83), (9, 0)] [(2, 83)] σ :=
  (j_aload_n q_226_155 rfl).trans <| rfl
theorem k_226_156 {E : js_E} {d : Nat} {σ σ2 : js_S} {v : Int} (hd : 1 ≤ d) (hz : js_J E (d - 1) 219 0 [(2, 83), (9, 0), (9, 0), (9, 0), (9, 0)] [] σ = js_r E (0, v) σ2) : js_J E d 226 156 [(2, 83), (9, 0)] [(2, 83)] σ = js_J E d 226 159 [(2, 83), (9, 0)] [(0, v)] σ2 :=
  j_call (m := 4) (js_caV q_226_156 (js_Mo qy_226 qm_12_193)) (js_agV (av := []) (st := []) rfl rfl js_o83 rfl) rfl rfl (by rw [ql_219]; exact Nat.le_of_ble_eq_true rfl) (Nat.le_of_ble_eq_true rfl) hd hz
theorem b_226_159 {E : js_E} {d : Nat} {σ : js_S} {z0 : Int} : js_J E d 226 159 [(2, 83), (9, 0)] [(0, z0)] σ = js_J E d 226 163 [(2, 83), (0, z0)] [(0, 41), (2, 83)] σ :=
  (j_istore_n (l2 := [(2, 83), (0, z0)]) q_226_159 rfl (Nat.le_of_ble_eq_true rfl)).trans <| (j_aload_n q_226_160 rfl).trans <| (j_bi q_226_161 rfl).trans <| rfl
theorem k_226_163 {E : js_E} {d : Nat} {σ σ2 : js_S} {x1 z1 : Int} (hd : 1 ≤ d) (hz : js_J E (d - 1) 211 0 [(2, 83), (0, z1)] [] σ = js_r0 E σ2) : js_J E d 226 163 [(2, 83), (0, x1)] [(0, z1), (2, 83)] σ = js_J E d 226 166 [(2, 83), (0, x1)] [] σ2 :=
  j_call0 (m := 0) (js_caV q_226_163 (js_Mo qy_226 qm_12_162)) (js_agV (av := [(0, z1)]) (st := []) rfl rfl js_o83 rfl) rfl rfl (by rw [ql_211]; exact Nat.le_of_ble_eq_true rfl) (Nat.le_of_ble_eq_true rfl) hd hz
theorem b_226_166 {E : js_E} {d : Nat} {σ : js_S} {x1 : Int} : js_J E d 226 166 [(2, 83), (0, x1)] [] σ = js_r E (0, x1) σ :=
  (j_iload_n q_226_166 rfl).trans <| j_ireturn q_226_167 qr_226
theorem b_226_168 {E : js_E} {d : Nat} {σ : js_S} : js_J E d 226 168 [(2, 83), (9, 0)] [] σ = js_J E d 226 169 [(2, 83), (9, 0)] [(2, 83)] σ :=
  (j_aload_n q_226_168 rfl).trans <| rfl
theorem k_226_169 {E : js_E} {d : Nat} {σ σ2 : js_S} {v : Int} (hd : 1 ≤ d) (hz : js_J E (d - 1) 227 0 [(2, 83), (9, 0), (9, 0), (9, 0), (9, 0), (9, 0), (9, 0), (9, 0), (9, 0)] [] σ = js_r E (0, v) σ2) : js_J E d 226 169 [(2, 83), (9, 0)] [(2, 83)] σ = js_J E d 226 172 [(2, 83), (9, 0)] [(0, v)] σ2 :=
  j_call (m := 8) (js_caV q_226_169 (js_Mo qy_226 qm_12_259)) (js_agV (av := []) (st := []) rfl rfl js_o83 rfl) rfl rfl (by rw [ql_227]; exact Nat.le_of_ble_eq_true rfl) (Nat.le_of_ble_eq_true rfl) hd hz
theorem b_226_172 {E : js_E} {d : Nat} {σ : js_S} {z0 : Int} : js_J E d 226 172 [(2, 83), (9, 0)] [(0, z0)] σ = js_r E (0, z0) σ :=
  j_ireturn q_226_172 qr_226
theorem b_226_173 {E : js_E} {d : Nat} {σ : js_S} : js_J E d 226 173 [(2, 83), (9, 0)] [] σ = js_J E d 226 174 [(2, 83), (9, 0)] [(2, 83)] σ :=
  (j_aload_n q_226_173 rfl).trans <| rfl
theorem k_226_174 {E : js_E} {d : Nat} {σ σ2 : js_S} {v : Int} (hd : 1 ≤ d) (hz : js_J E (d - 1) 228 0 [(2, 83), (9, 0), (9, 0), (9, 0), (9, 0), (9, 0), (9, 0), (9, 0), (9, 0)] [] σ = js_r E (0, v) σ2) : js_J E d 226 174 [(2, 83), (9, 0)] [(2, 83)] σ = js_J E d 226 177 [(2, 83), (9, 0)] [(0, v)] σ2 :=
  j_call (m := 8) (js_caV q_226_174 (js_Mo qy_226 qm_12_262)) (js_agV (av := []) (st := []) rfl rfl js_o83 rfl) rfl rfl (by rw [ql_228]; exact Nat.le_of_ble_eq_true rfl) (Nat.le_of_ble_eq_true rfl) hd hz
theorem b_226_177 {E : js_E} {d : Nat} {σ : js_S} {z0 : Int} : js_J E d 226 177 [(2, 83), (9, 0)] [(0, z0)] σ = js_r E (0, z0) σ :=
  j_ireturn q_226_177 qr_226
theorem b_226_178 {E : js_E} {d : Nat} {σ : js_S} : js_J E d 226 178 [(2, 83), (9, 0)] [] σ = js_J E d 226 179 [(2, 83), (9, 0)] [(2, 83)] σ :=
  (j_aload_n q_226_178 rfl).trans <| rfl
theorem k_226_179 {E : js_E} {d : Nat} {σ σ2 : js_S} {v : Int} (hd : 1 ≤ d) (hz : js_J E (d - 1) 229 0 [(2, 83), (9, 0), (9, 0), (9, 0), (9, 0), (9, 0), (9, 0), (9, 0), (9, 0)] [] σ = js_r E (0, v) σ2) : js_J E d 226 179 [(2, 83), (9, 0)] [(2, 83)] σ = js_J E d 226 182 [(2, 83), (9, 0)] [(0, v)] σ2 :=
  j_call (m := 8) (js_caV q_226_179 (js_Mo qy_226 qm_12_265)) (js_agV (av := []) (st := []) rfl rfl js_o83 rfl) rfl rfl (by rw [ql_229]; exact Nat.le_of_ble_eq_true rfl) (Nat.le_of_ble_eq_true rfl) hd hz
theorem b_226_182 {E : js_E} {d : Nat} {σ : js_S} {z0 : Int} : js_J E d 226 182 [(2, 83), (9, 0)] [(0, z0)] σ = js_r E (0, z0) σ :=
  j_ireturn q_226_182 qr_226
theorem b_226_183 {E : js_E} {d : Nat} {σ : js_S} : js_J E d 226 183 [(2, 83), (9, 0)] [] σ = js_J E d 226 184 [(2, 83), (9, 0)] [(2, 83)] σ :=
  (j_aload_n q_226_183 rfl).trans <| rfl
theorem k_226_184 {E : js_E} {d : Nat} {σ σ2 : js_S} {v : Int} (hd : 1 ≤ d) (hz : js_J E (d - 1) 230 0 [(2, 83), (9, 0), (9, 0), (9, 0)] [] σ = js_r E (0, v) σ2) : js_J E d 226 184 [(2, 83), (9, 0)] [(2, 83)] σ = js_J E d 226 187 [(2, 83), (9, 0)] [(0, v)] σ2 :=
  j_call (m := 3) (js_caV q_226_184 (js_Mo qy_226 qm_12_268)) (js_agV (av := []) (st := []) rfl rfl js_o83 rfl) rfl rfl (by rw [ql_230]; exact Nat.le_of_ble_eq_true rfl) (Nat.le_of_ble_eq_true rfl) hd hz
theorem b_226_187 {E : js_E} {d : Nat} {σ : js_S} {z0 : Int} : js_J E d 226 187 [(2, 83), (9, 0)] [(0, z0)] σ = js_r E (0, z0) σ :=
  j_ireturn q_226_187 qr_226
theorem b_226_188 {E : js_E} {d : Nat} {σ : js_S} : js_J E d 226 188 [(2, 83), (9, 0)] [] σ = js_J E d 226 194 [(2, 83), (9, 0)] [(0, σ 83 6), (0, 1), (2, 83)] σ :=
  (j_aload_n q_226_188 rfl).trans <| (j_iconst q_226_189).trans <| (j_aload_n q_226_190 rfl).trans <| (j_get (ji := 6) (v := (0, σ 83 6)) q_226_191 (js_Fo qy_226 qf_12_35) js_o83 rfl rfl rfl rfl).trans <| rfl
theorem k_226_194 {E : js_E} {d : Nat} {σ σ2 : js_S} {z1 z2 : Int} (hd : 1 ≤ d) (hz : js_J E (d - 1) 199 0 [(2, 83), (0, z1), (0, z2)] [] σ = js_r0 E σ2) : js_J E d 226 194 [(2, 83), (9, 0)] [(0, z2), (0, z1), (2, 83)] σ = js_J E d 226 197 [(2, 83), (9, 0)] [] σ2 :=
  j_call0 (m := 0) (js_caV q_226_194 (js_Mo qy_226 qm_12_65)) (js_agV (av := [(0, z1), (0, z2)]) (st := []) rfl rfl js_o83 rfl) rfl rfl (by rw [ql_199]; exact Nat.le_of_ble_eq_true rfl) (Nat.le_of_ble_eq_true rfl) hd hz
theorem b_226_197 {E : js_E} {d : Nat} {σ : js_S} : js_J E d 226 197 [(2, 83), (9, 0)] [] σ = js_r E (0, 0) σ :=
  (j_iconst q_226_197).trans <| j_ireturn q_226_198 qr_226
-- 227: VitalTwinModel.leastOf ()I
theorem b_227_0 {E : js_E} {d : Nat} {σ : js_S} : js_J E d 227 0 [(2, 83), (9, 0), (9, 0), (9, 0), (9, 0), (9, 0), (9, 0), (9, 0), (9, 0)] [] σ = (if js_w (σ 83 5) = 318 then js_J E d 227 20 [(2, 83), (0, σ 83 6), (9, 0), (9, 0), (9, 0), (9, 0), (9, 0), (9, 0), (9, 0)] [(0, 1)] σ else js_J E d 227 20 [(2, 83), (0, σ 83 6), (9, 0), (9, 0), (9, 0), (9, 0), (9, 0), (9, 0), (9, 0)] [(0, 0)] σ) :=
  (j_aload_n q_227_0 rfl).trans <| (j_get (ji := 6) (v := (0, σ 83 6)) q_227_1 (js_Fo qy_227 qf_12_35) js_o83 rfl rfl rfl rfl).trans <| (j_istore_n (l2 := [(2, 83), (0, σ 83 6), (9, 0), (9, 0), (9, 0), (9, 0), (9, 0), (9, 0), (9, 0)]) q_227_4 rfl (Nat.le_of_ble_eq_true rfl)).trans <| (j_aload_n q_227_5 rfl).trans <| (j_get (ji := 5) (v := (0, σ 83 5)) q_227_6 (js_Fo qy_227 qf_12_25) js_o83 rfl rfl rfl rfl).trans <| (j_si q_227_9 rfl).trans <| (j_cmpneB (t := 19) q_227_12 rfl ww_318).trans (js_ite ((j_iconst q_227_15).trans <| (j_goto (t := 20) q_227_16 rfl).trans <| rfl) ((j_iconst q_227_19).trans <| rfl))
theorem b_227_20 {E : js_E} {d : Nat} {σ : js_S} {x1 z0 : Int} : js_J E d 227 20 [(2, 83), (0, x1), (9, 0), (9, 0), (9, 0), (9, 0), (9, 0), (9, 0), (9, 0)] [(0, z0)] σ = js_J E d 227 22 [(2, 83), (0, x1), (0, z0), (9, 0), (9, 0), (9, 0), (9, 0), (9, 0), (9, 0)] [(2, 83)] σ :=
  (j_istore_n (l2 := [(2, 83), (0, x1), (0, z0), (9, 0), (9, 0), (9, 0), (9, 0), (9, 0), (9, 0)]) q_227_20 rfl (Nat.le_of_ble_eq_true rfl)).trans <| (j_aload_n q_227_21 rfl).trans <| rfl
theorem k_227_22 {E : js_E} {d : Nat} {σ σ2 : js_S} {x1 x2 : Int} (hd : 1 ≤ d) (hz : js_J E (d - 1) 191 0 [(2, 83), (9, 0), (9, 0), (9, 0), (9, 0), (9, 0)] [] σ = js_r0 E σ2) : js_J E d 227 22 [(2, 83), (0, x1), (0, x2), (9, 0), (9, 0), (9, 0), (9, 0), (9, 0), (9, 0)] [(2, 83)] σ = js_J E d 227 25 [(2, 83), (0, x1), (0, x2), (9, 0), (9, 0), (9, 0), (9, 0), (9, 0), (9, 0)] [] σ2 :=
  j_call0 (m := 5) (js_caV q_227_22 (js_Mo qy_227 qm_12_68)) (js_agV (av := []) (st := []) rfl rfl js_o83 rfl) rfl rfl (by rw [ql_191]; exact Nat.le_of_ble_eq_true rfl) (Nat.le_of_ble_eq_true rfl) hd hz
theorem b_227_25 {E : js_E} {d : Nat} {σ : js_S} {x1 x2 : Int} : js_J E d 227 25 [(2, 83), (0, x1), (0, x2), (9, 0), (9, 0), (9, 0), (9, 0), (9, 0), (9, 0)] [] σ = js_J E d 227 28 [(2, 83), (0, x1), (0, x2), (9, 0), (9, 0), (9, 0), (9, 0), (9, 0), (9, 0)] [(0, 40), (2, 83)] σ :=
  (j_aload_n q_227_25 rfl).trans <| (j_bi q_227_26 rfl).trans <| rfl
theorem k_227_28 {E : js_E} {d : Nat} {σ σ2 : js_S} {x1 x2 z1 : Int} (hd : 1 ≤ d) (hz : js_J E (d - 1) 207 0 [(2, 83), (0, z1)] [] σ = js_r0 E σ2) : js_J E d 227 28 [(2, 83), (0, x1), (0, x2), (9, 0), (9, 0), (9, 0), (9, 0), (9, 0), (9, 0)] [(0, z1), (2, 83)] σ = js_J E d 227 31 [(2, 83), (0, x1), (0, x2), (9, 0), (9, 0), (9, 0), (9, 0), (9, 0), (9, 0)] [] σ2 :=
  j_call0 (m := 0) (js_caV q_227_28 (js_Mo qy_227 qm_12_159)) (js_agV (av := [(0, z1)]) (st := []) rfl rfl js_o83 rfl) rfl rfl (by rw [ql_207]; exact Nat.le_of_ble_eq_true rfl) (Nat.le_of_ble_eq_true rfl) hd hz
theorem b_227_31 {E : js_E} {d : Nat} {σ : js_S} {x1 x2 : Int} : js_J E d 227 31 [(2, 83), (0, x1), (0, x2), (9, 0), (9, 0), (9, 0), (9, 0), (9, 0), (9, 0)] [] σ = js_J E d 227 32 [(2, 83), (0, x1), (0, x2), (9, 0), (9, 0), (9, 0), (9, 0), (9, 0), (9, 0)] [(2, 83)] σ :=
  (j_aload_n q_227_31 rfl).trans <| rfl
theorem k_227_32 {E : js_E} {d : Nat} {σ σ2 : js_S} {x1 x2 : Int} {v : Int} (hd : 1 ≤ d) (hz : js_J E (d - 1) 219 0 [(2, 83), (9, 0), (9, 0), (9, 0), (9, 0)] [] σ = js_r E (0, v) σ2) : js_J E d 227 32 [(2, 83), (0, x1), (0, x2), (9, 0), (9, 0), (9, 0), (9, 0), (9, 0), (9, 0)] [(2, 83)] σ = js_J E d 227 35 [(2, 83), (0, x1), (0, x2), (9, 0), (9, 0), (9, 0), (9, 0), (9, 0), (9, 0)] [(0, v)] σ2 :=
  j_call (m := 4) (js_caV q_227_32 (js_Mo qy_227 qm_12_193)) (js_agV (av := []) (st := []) rfl rfl js_o83 rfl) rfl rfl (by rw [ql_219]; exact Nat.le_of_ble_eq_true rfl) (Nat.le_of_ble_eq_true rfl) hd hz
theorem b_227_35 {E : js_E} {d : Nat} {σ : js_S} {x1 x2 z0 : Int} : js_J E d 227 35 [(2, 83), (0, x1), (0, x2), (9, 0), (9, 0), (9, 0), (9, 0), (9, 0), (9, 0)] [(0, z0)] σ = js_J E d 227 39 [(2, 83), (0, x1), (0, x2), (0, z0), (9, 0), (9, 0), (9, 0), (9, 0), (9, 0)] [(0, 44), (2, 83)] σ :=
  (j_istore_n (l2 := [(2, 83), (0, x1), (0, x2), (0, z0), (9, 0), (9, 0), (9, 0), (9, 0), (9, 0)]) q_227_35 rfl (Nat.le_of_ble_eq_true rfl)).trans <| (j_aload_n q_227_36 rfl).trans <| (j_bi q_227_37 rfl).trans <| rfl
theorem k_227_39 {E : js_E} {d : Nat} {σ σ2 : js_S} {x1 x2 x3 z1 : Int} (hd : 1 ≤ d) (hz : js_J E (d - 1) 202 0 [(2, 83), (0, z1)] [] σ = js_r0 E σ2) : js_J E d 227 39 [(2, 83), (0, x1), (0, x2), (0, x3), (9, 0), (9, 0), (9, 0), (9, 0), (9, 0)] [(0, z1), (2, 83)] σ = js_J E d 227 42 [(2, 83), (0, x1), (0, x2), (0, x3), (9, 0), (9, 0), (9, 0), (9, 0), (9, 0)] [] σ2 :=
  j_call0 (m := 0) (js_caV q_227_39 (js_Mo qy_227 qm_12_75)) (js_agV (av := [(0, z1)]) (st := []) rfl rfl js_o83 rfl) rfl rfl (by rw [ql_202]; exact Nat.le_of_ble_eq_true rfl) (Nat.le_of_ble_eq_true rfl) hd hz
theorem b_227_42 {E : js_E} {d : Nat} {σ : js_S} {x1 x2 x3 : Int} : js_J E d 227 42 [(2, 83), (0, x1), (0, x2), (0, x3), (9, 0), (9, 0), (9, 0), (9, 0), (9, 0)] [] σ = js_J E d 227 43 [(2, 83), (0, x1), (0, x2), (0, x3), (9, 0), (9, 0), (9, 0), (9, 0), (9, 0)] [(2, 83)] σ :=
  (j_aload_n q_227_42 rfl).trans <| rfl
theorem k_227_43 {E : js_E} {d : Nat} {σ σ2 : js_S} {x1 x2 x3 : Int} {v : Int} (hd : 1 ≤ d) (hz : js_J E (d - 1) 219 0 [(2, 83), (9, 0), (9, 0), (9, 0), (9, 0)] [] σ = js_r E (0, v) σ2) : js_J E d 227 43 [(2, 83), (0, x1), (0, x2), (0, x3), (9, 0), (9, 0), (9, 0), (9, 0), (9, 0)] [(2, 83)] σ = js_J E d 227 46 [(2, 83), (0, x1), (0, x2), (0, x3), (9, 0), (9, 0), (9, 0), (9, 0), (9, 0)] [(0, v)] σ2 :=
  j_call (m := 4) (js_caV q_227_43 (js_Mo qy_227 qm_12_193)) (js_agV (av := []) (st := []) rfl rfl js_o83 rfl) rfl rfl (by rw [ql_219]; exact Nat.le_of_ble_eq_true rfl) (Nat.le_of_ble_eq_true rfl) hd hz
theorem b_227_46 {E : js_E} {d : Nat} {σ : js_S} {x1 x2 x3 z0 : Int} : js_J E d 227 46 [(2, 83), (0, x1), (0, x2), (0, x3), (9, 0), (9, 0), (9, 0), (9, 0), (9, 0)] [(0, z0)] σ = (if js_w (σ 83 9) = 0 then (if 0 ≤ js_w x3 ∧ js_w x3 < 66000 then (if js_w (σ 101 (js_w x3)) = 0 then (if 0 ≤ js_w z0 ∧ js_w z0 < 66000 then (if js_w (σ 101 (js_w z0)) = 0 then js_J E d 227 80 [(2, 83), (0, x1), (0, x2), (0, x3), (0, z0), (9, 0), (9, 0), (9, 0), (9, 0)] [] σ else js_J E d 227 74 [(2, 83), (0, x1), (0, x2), (0, x3), (0, z0), (9, 0), (9, 0), (9, 0), (9, 0)] [] σ) else none) else js_J E d 227 74 [(2, 83), (0, x1), (0, x2), (0, x3), (0, z0), (9, 0), (9, 0), (9, 0), (9, 0)] [] σ) else none) else js_J E d 227 80 [(2, 83), (0, x1), (0, x2), (0, x3), (0, z0), (9, 0), (9, 0), (9, 0), (9, 0)] [] σ) :=
  (j_istore (l2 := [(2, 83), (0, x1), (0, x2), (0, x3), (0, z0), (9, 0), (9, 0), (9, 0), (9, 0)]) q_227_46 rfl (Nat.le_of_ble_eq_true rfl)).trans <| (j_aload_n q_227_48 rfl).trans <| (j_get (ji := 9) (v := (0, σ 83 9)) q_227_49 (js_Fo qy_227 qf_12_22) js_o83 rfl rfl rfl rfl).trans <| (j_ifne (t := 80) q_227_52 rfl).trans (js_ite ((j_aload_n q_227_55 rfl).trans <| (j_get (ji := 35) (v := (2, 101)) q_227_56 (js_Fo qy_227 qf_12_172) js_o83 rfl rfl rfl rfl).trans <| (j_iload_n q_227_59 rfl).trans <| (j_iaload q_227_60 js_o101).trans <| js_itp fun g0 => (j_ifne (t := 74) q_227_61 rfl).trans (js_ite ((j_aload_n q_227_64 rfl).trans <| (j_get (ji := 35) (v := (2, 101)) q_227_65 (js_Fo qy_227 qf_12_172) js_o83 rfl rfl rfl rfl).trans <| (j_iload q_227_68 rfl).trans <| (j_iaload q_227_70 js_o101).trans <| js_itp fun g1 => (j_ifeq (t := 80) q_227_71 rfl).trans (js_ite (rfl) (rfl))) (rfl))) (rfl))
theorem b_227_74 {E : js_E} {d : Nat} {σ : js_S} {x1 x2 x3 x4 : Int} : js_J E d 227 74 [(2, 83), (0, x1), (0, x2), (0, x3), (0, x4), (9, 0), (9, 0), (9, 0), (9, 0)] [] σ = js_J E d 227 77 [(2, 83), (0, x1), (0, x2), (0, x3), (0, x4), (9, 0), (9, 0), (9, 0), (9, 0)] [(0, x1), (0, 5), (2, 83)] σ :=
  (j_aload_n q_227_74 rfl).trans <| (j_iconst q_227_75).trans <| (j_iload_n q_227_76 rfl).trans <| rfl
theorem k_227_77 {E : js_E} {d : Nat} {σ σ2 : js_S} {x1 x2 x3 x4 z1 z2 : Int} (hd : 1 ≤ d) (hz : js_J E (d - 1) 199 0 [(2, 83), (0, z1), (0, z2)] [] σ = js_r0 E σ2) : js_J E d 227 77 [(2, 83), (0, x1), (0, x2), (0, x3), (0, x4), (9, 0), (9, 0), (9, 0), (9, 0)] [(0, z2), (0, z1), (2, 83)] σ = js_J E d 227 80 [(2, 83), (0, x1), (0, x2), (0, x3), (0, x4), (9, 0), (9, 0), (9, 0), (9, 0)] [] σ2 :=
  j_call0 (m := 0) (js_caV q_227_77 (js_Mo qy_227 qm_12_65)) (js_agV (av := [(0, z1), (0, z2)]) (st := []) rfl rfl js_o83 rfl) rfl rfl (by rw [ql_199]; exact Nat.le_of_ble_eq_true rfl) (Nat.le_of_ble_eq_true rfl) hd hz
theorem b_227_80 {E : js_E} {d : Nat} {σ : js_S} {x1 x2 x3 x4 : Int} : js_J E d 227 80 [(2, 83), (0, x1), (0, x2), (0, x3), (0, x4), (9, 0), (9, 0), (9, 0), (9, 0)] [] σ = js_J E d 227 83 [(2, 83), (0, x1), (0, x2), (0, x3), (0, x4), (9, 0), (9, 0), (9, 0), (9, 0)] [(0, 41), (2, 83)] σ :=
  (j_aload_n q_227_80 rfl).trans <| (j_bi q_227_81 rfl).trans <| rfl
theorem k_227_83 {E : js_E} {d : Nat} {σ σ2 : js_S} {x1 x2 x3 x4 z1 : Int} (hd : 1 ≤ d) (hz : js_J E (d - 1) 211 0 [(2, 83), (0, z1)] [] σ = js_r0 E σ2) : js_J E d 227 83 [(2, 83), (0, x1), (0, x2), (0, x3), (0, x4), (9, 0), (9, 0), (9, 0), (9, 0)] [(0, z1), (2, 83)] σ = js_J E d 227 86 [(2, 83), (0, x1), (0, x2), (0, x3), (0, x4), (9, 0), (9, 0), (9, 0), (9, 0)] [] σ2 :=
  j_call0 (m := 0) (js_caV q_227_83 (js_Mo qy_227 qm_12_162)) (js_agV (av := [(0, z1)]) (st := []) rfl rfl js_o83 rfl) rfl rfl (by rw [ql_211]; exact Nat.le_of_ble_eq_true rfl) (Nat.le_of_ble_eq_true rfl) hd hz
theorem b_227_86 {E : js_E} {d : Nat} {σ : js_S} {x1 x2 x3 x4 : Int} (hd : 4 ≤ d) : js_J E d 227 86 [(2, 83), (0, x1), (0, x2), (0, x3), (0, x4), (9, 0), (9, 0), (9, 0), (9, 0)] [] σ = (if 0 < js_w (σ 83 9) then js_r E (0, 0) σ else (if js_w x2 = 0 then (if 0 ≤ js_w x3 ∧ js_w x3 < 66000 then (if 0 ≤ js_w x4 ∧ js_w x4 < 66000 then js_J E d 227 136 [(2, 83), (0, x1), (0, x2), (0, x3), (0, x4), (9, 0), (9, 0), (9, 0), (9, 0)] [(1, js_w (if js_w (σ 105 (js_w x3)) < js_w (σ 105 (js_w x4)) then (σ 105 (js_w x4)) else (σ 105 (js_w x3))))] σ else none) else none) else (if 0 ≤ js_w x3 ∧ js_w x3 < 66000 then (if 0 ≤ js_w x4 ∧ js_w x4 < 66000 then js_J E d 227 136 [(2, 83), (0, x1), (0, x2), (0, x3), (0, x4), (9, 0), (9, 0), (9, 0), (9, 0)] [(1, js_w (if js_w (σ 105 (js_w x4)) < js_w (σ 105 (js_w x3)) then (σ 105 (js_w x4)) else (σ 105 (js_w x3))))] σ else none) else none))) :=
  (j_aload_n q_227_86 rfl).trans <| (j_get (ji := 9) (v := (0, σ 83 9)) q_227_87 (js_Fo qy_227 qf_12_22) js_o83 rfl rfl rfl rfl).trans <| (j_ifle (t := 95) q_227_90 rfl).trans (js_ite ((j_iconst q_227_93).trans <| j_ireturn q_227_94 qr_227) ((j_iload_n q_227_95 rfl).trans <| (j_ifeq (t := 119) q_227_96 rfl).trans (js_ite ((j_aload_n q_227_119 rfl).trans <| (j_get (ji := 39) (v := (2, 105)) q_227_120 (js_Fo qy_227 qf_12_175) js_o83 rfl rfl rfl rfl).trans <| (j_iload_n q_227_123 rfl).trans <| (j_iaload q_227_124 js_o105).trans <| js_itp fun g0 => (j_aload_n q_227_125 rfl).trans <| (j_get (ji := 39) (v := (2, 105)) q_227_126 (js_Fo qy_227 qf_12_175) js_o83 rfl rfl rfl rfl).trans <| (j_iload q_227_129 rfl).trans <| (j_iaload q_227_131 js_o105).trans <| js_itp fun g1 => (j_max (js_clS q_227_132 (js_Mo qy_227 qm_12_205)) (Nat.le_of_ble_eq_true rfl) hd).trans <| (j_i2l q_227_135).trans <| rfl) ((j_aload_n q_227_99 rfl).trans <| (j_get (ji := 39) (v := (2, 105)) q_227_100 (js_Fo qy_227 qf_12_175) js_o83 rfl rfl rfl rfl).trans <| (j_iload_n q_227_103 rfl).trans <| (j_iaload q_227_104 js_o105).trans <| js_itp fun g0 => (j_aload_n q_227_105 rfl).trans <| (j_get (ji := 39) (v := (2, 105)) q_227_106 (js_Fo qy_227 qf_12_175) js_o83 rfl rfl rfl rfl).trans <| (j_iload q_227_109 rfl).trans <| (j_iaload q_227_111 js_o105).trans <| js_itp fun g1 => (j_min (js_clS q_227_112 (js_Mo qy_227 qm_12_199)) (Nat.le_of_ble_eq_true rfl) hd).trans <| (j_i2l q_227_115).trans <| (j_goto (t := 136) q_227_116 rfl).trans <| rfl))))
theorem b_227_136 {E : js_E} {d : Nat} {σ : js_S} {x1 x2 x3 x4 z0 : Int} (hd : 4 ≤ d) : js_J E d 227 136 [(2, 83), (0, x1), (0, x2), (0, x3), (0, x4), (9, 0), (9, 0), (9, 0), (9, 0)] [(1, z0)] σ = (if js_w x2 = 0 then (if 0 ≤ js_w x3 ∧ js_w x3 < 66000 then (if 0 ≤ js_w x4 ∧ js_w x4 < 66000 then js_J E d 227 179 [(2, 83), (0, x1), (0, x2), (0, x3), (0, x4), (1, z0), (9, 0), (9, 0), (9, 0)] [(1, js_w (if js_w (σ 106 (js_w x3)) < js_w (σ 106 (js_w x4)) then (σ 106 (js_w x4)) else (σ 106 (js_w x3))))] σ else none) else none) else (if 0 ≤ js_w x3 ∧ js_w x3 < 66000 then (if 0 ≤ js_w x4 ∧ js_w x4 < 66000 then js_J E d 227 179 [(2, 83), (0, x1), (0, x2), (0, x3), (0, x4), (1, z0), (9, 0), (9, 0), (9, 0)] [(1, js_w (if js_w (σ 106 (js_w x4)) < js_w (σ 106 (js_w x3)) then (σ 106 (js_w x4)) else (σ 106 (js_w x3))))] σ else none) else none)) :=
  (j_lstore (l2 := [(2, 83), (0, x1), (0, x2), (0, x3), (0, x4), (1, z0), (9, 0), (9, 0), (9, 0)]) q_227_136 rfl (Nat.le_of_ble_eq_true rfl)).trans <| (j_iload_n q_227_138 rfl).trans <| (j_ifeq (t := 162) q_227_139 rfl).trans (js_ite ((j_aload_n q_227_162 rfl).trans <| (j_get (ji := 40) (v := (2, 106)) q_227_163 (js_Fo qy_227 qf_12_178) js_o83 rfl rfl rfl rfl).trans <| (j_iload_n q_227_166 rfl).trans <| (j_iaload q_227_167 js_o106).trans <| js_itp fun g0 => (j_aload_n q_227_168 rfl).trans <| (j_get (ji := 40) (v := (2, 106)) q_227_169 (js_Fo qy_227 qf_12_178) js_o83 rfl rfl rfl rfl).trans <| (j_iload q_227_172 rfl).trans <| (j_iaload q_227_174 js_o106).trans <| js_itp fun g1 => (j_max (js_clS q_227_175 (js_Mo qy_227 qm_12_205)) (Nat.le_of_ble_eq_true rfl) hd).trans <| (j_i2l q_227_178).trans <| rfl) ((j_aload_n q_227_142 rfl).trans <| (j_get (ji := 40) (v := (2, 106)) q_227_143 (js_Fo qy_227 qf_12_178) js_o83 rfl rfl rfl rfl).trans <| (j_iload_n q_227_146 rfl).trans <| (j_iaload q_227_147 js_o106).trans <| js_itp fun g0 => (j_aload_n q_227_148 rfl).trans <| (j_get (ji := 40) (v := (2, 106)) q_227_149 (js_Fo qy_227 qf_12_178) js_o83 rfl rfl rfl rfl).trans <| (j_iload q_227_152 rfl).trans <| (j_iaload q_227_154 js_o106).trans <| js_itp fun g1 => (j_min (js_clS q_227_155 (js_Mo qy_227 qm_12_199)) (Nat.le_of_ble_eq_true rfl) hd).trans <| (j_i2l q_227_158).trans <| (j_goto (t := 179) q_227_159 rfl).trans <| rfl))
theorem b_227_179 {E : js_E} {d : Nat} {σ : js_S} {x1 x2 x3 x4 x5 z0 : Int} : js_J E d 227 179 [(2, 83), (0, x1), (0, x2), (0, x3), (0, x4), (1, x5), (9, 0), (9, 0), (9, 0)] [(1, z0)] σ = (if js_w x2 = 0 then js_J E d 227 202 [(2, 83), (0, x1), (0, x2), (0, x3), (0, x4), (1, x5), (9, 0), (1, z0), (9, 0)] [(0, 12), (0, x4), (0, x3), (1, z0), (1, x5), (0, 0), (0, 4), (2, 83)] σ else js_J E d 227 202 [(2, 83), (0, x1), (0, x2), (0, x3), (0, x4), (1, x5), (9, 0), (1, z0), (9, 0)] [(0, 11), (0, x4), (0, x3), (1, z0), (1, x5), (0, 0), (0, 4), (2, 83)] σ) :=
  (j_lstore (l2 := [(2, 83), (0, x1), (0, x2), (0, x3), (0, x4), (1, x5), (9, 0), (1, z0), (9, 0)]) q_227_179 rfl (Nat.le_of_ble_eq_true rfl)).trans <| (j_aload_n q_227_181 rfl).trans <| (j_iconst q_227_182).trans <| (j_iconst q_227_183).trans <| (j_lload q_227_184 rfl).trans <| (j_lload q_227_186 rfl).trans <| (j_iload_n q_227_188 rfl).trans <| (j_iload q_227_189 rfl).trans <| (j_iload_n q_227_191 rfl).trans <| (j_ifeq (t := 200) q_227_192 rfl).trans (js_ite ((j_bi q_227_200 rfl).trans <| rfl) ((j_bi q_227_195 rfl).trans <| (j_goto (t := 202) q_227_197 rfl).trans <| rfl))
theorem k_227_202 {E : js_E} {d : Nat} {σ σ2 : js_S} {x1 x2 x3 x4 x5 x7 z1 z2 z3 z4 z5 z6 z7 : Int} {v : Int} (hd : 1 ≤ d) (hz : js_J E (d - 1) 217 0 [(2, 83), (0, z1), (0, z2), (1, z3), (9, 0), (1, z4), (9, 0), (0, z5), (0, z6), (0, z7), (9, 0)] [] σ = js_r E (0, v) σ2) : js_J E d 227 202 [(2, 83), (0, x1), (0, x2), (0, x3), (0, x4), (1, x5), (9, 0), (1, x7), (9, 0)] [(0, z7), (0, z6), (0, z5), (1, z4), (1, z3), (0, z2), (0, z1), (2, 83)] σ = js_J E d 227 205 [(2, 83), (0, x1), (0, x2), (0, x3), (0, x4), (1, x5), (9, 0), (1, x7), (9, 0)] [(0, v)] σ2 :=
  j_call (m := 1) (js_caV q_227_202 (js_Mo qy_227 qm_12_208)) (js_agV (av := [(0, z1), (0, z2), (1, z3), (1, z4), (0, z5), (0, z6), (0, z7)]) (st := []) rfl rfl js_o83 rfl) rfl rfl (by rw [ql_217]; exact Nat.le_of_ble_eq_true rfl) (Nat.le_of_ble_eq_true rfl) hd hz
theorem b_227_205 {E : js_E} {d : Nat} {σ : js_S} {x1 x2 x3 x4 x5 x7 z0 : Int} : js_J E d 227 205 [(2, 83), (0, x1), (0, x2), (0, x3), (0, x4), (1, x5), (9, 0), (1, x7), (9, 0)] [(0, z0)] σ = js_r E (0, z0) σ :=
  j_ireturn q_227_205 qr_227
-- 228: VitalTwinModel.absolute ()I
theorem b_228_0 {E : js_E} {d : Nat} {σ : js_S} : js_J E d 228 0 [(2, 83), (9, 0), (9, 0), (9, 0), (9, 0), (9, 0), (9, 0), (9, 0), (9, 0)] [] σ = js_J E d 228 6 [(2, 83), (0, σ 83 6), (9, 0), (9, 0), (9, 0), (9, 0), (9, 0), (9, 0), (9, 0)] [(2, 83)] σ :=
  (j_aload_n q_228_0 rfl).trans <| (j_get (ji := 6) (v := (0, σ 83 6)) q_228_1 (js_Fo qy_228 qf_12_35) js_o83 rfl rfl rfl rfl).trans <| (j_istore_n (l2 := [(2, 83), (0, σ 83 6), (9, 0), (9, 0), (9, 0), (9, 0), (9, 0), (9, 0), (9, 0)]) q_228_4 rfl (Nat.le_of_ble_eq_true rfl)).trans <| (j_aload_n q_228_5 rfl).trans <| rfl
theorem k_228_6 {E : js_E} {d : Nat} {σ σ2 : js_S} {x1 : Int} (hd : 1 ≤ d) (hz : js_J E (d - 1) 191 0 [(2, 83), (9, 0), (9, 0), (9, 0), (9, 0), (9, 0)] [] σ = js_r0 E σ2) : js_J E d 228 6 [(2, 83), (0, x1), (9, 0), (9, 0), (9, 0), (9, 0), (9, 0), (9, 0), (9, 0)] [(2, 83)] σ = js_J E d 228 9 [(2, 83), (0, x1), (9, 0), (9, 0), (9, 0), (9, 0), (9, 0), (9, 0), (9, 0)] [] σ2 :=
  j_call0 (m := 5) (js_caV q_228_6 (js_Mo qy_228 qm_12_68)) (js_agV (av := []) (st := []) rfl rfl js_o83 rfl) rfl rfl (by rw [ql_191]; exact Nat.le_of_ble_eq_true rfl) (Nat.le_of_ble_eq_true rfl) hd hz
theorem b_228_9 {E : js_E} {d : Nat} {σ : js_S} {x1 : Int} : js_J E d 228 9 [(2, 83), (0, x1), (9, 0), (9, 0), (9, 0), (9, 0), (9, 0), (9, 0), (9, 0)] [] σ = js_J E d 228 12 [(2, 83), (0, x1), (9, 0), (9, 0), (9, 0), (9, 0), (9, 0), (9, 0), (9, 0)] [(0, 40), (2, 83)] σ :=
  (j_aload_n q_228_9 rfl).trans <| (j_bi q_228_10 rfl).trans <| rfl
theorem k_228_12 {E : js_E} {d : Nat} {σ σ2 : js_S} {x1 z1 : Int} (hd : 1 ≤ d) (hz : js_J E (d - 1) 207 0 [(2, 83), (0, z1)] [] σ = js_r0 E σ2) : js_J E d 228 12 [(2, 83), (0, x1), (9, 0), (9, 0), (9, 0), (9, 0), (9, 0), (9, 0), (9, 0)] [(0, z1), (2, 83)] σ = js_J E d 228 15 [(2, 83), (0, x1), (9, 0), (9, 0), (9, 0), (9, 0), (9, 0), (9, 0), (9, 0)] [] σ2 :=
  j_call0 (m := 0) (js_caV q_228_12 (js_Mo qy_228 qm_12_159)) (js_agV (av := [(0, z1)]) (st := []) rfl rfl js_o83 rfl) rfl rfl (by rw [ql_207]; exact Nat.le_of_ble_eq_true rfl) (Nat.le_of_ble_eq_true rfl) hd hz
theorem b_228_15 {E : js_E} {d : Nat} {σ : js_S} {x1 : Int} : js_J E d 228 15 [(2, 83), (0, x1), (9, 0), (9, 0), (9, 0), (9, 0), (9, 0), (9, 0), (9, 0)] [] σ = js_J E d 228 16 [(2, 83), (0, x1), (9, 0), (9, 0), (9, 0), (9, 0), (9, 0), (9, 0), (9, 0)] [(2, 83)] σ :=
  (j_aload_n q_228_15 rfl).trans <| rfl
theorem k_228_16 {E : js_E} {d : Nat} {σ σ2 : js_S} {x1 : Int} {v : Int} (hd : 1 ≤ d) (hz : js_J E (d - 1) 219 0 [(2, 83), (9, 0), (9, 0), (9, 0), (9, 0)] [] σ = js_r E (0, v) σ2) : js_J E d 228 16 [(2, 83), (0, x1), (9, 0), (9, 0), (9, 0), (9, 0), (9, 0), (9, 0), (9, 0)] [(2, 83)] σ = js_J E d 228 19 [(2, 83), (0, x1), (9, 0), (9, 0), (9, 0), (9, 0), (9, 0), (9, 0), (9, 0)] [(0, v)] σ2 :=
  j_call (m := 4) (js_caV q_228_16 (js_Mo qy_228 qm_12_193)) (js_agV (av := []) (st := []) rfl rfl js_o83 rfl) rfl rfl (by rw [ql_219]; exact Nat.le_of_ble_eq_true rfl) (Nat.le_of_ble_eq_true rfl) hd hz
theorem b_228_19 {E : js_E} {d : Nat} {σ : js_S} {x1 z0 : Int} : js_J E d 228 19 [(2, 83), (0, x1), (9, 0), (9, 0), (9, 0), (9, 0), (9, 0), (9, 0), (9, 0)] [(0, z0)] σ = (if js_w (σ 83 9) = 0 then (if 0 ≤ js_w z0 ∧ js_w z0 < 66000 then (if js_w (σ 101 (js_w z0)) = 0 then js_J E d 228 42 [(2, 83), (0, x1), (0, z0), (9, 0), (9, 0), (9, 0), (9, 0), (9, 0), (9, 0)] [] σ else js_J E d 228 39 [(2, 83), (0, x1), (0, z0), (9, 0), (9, 0), (9, 0), (9, 0), (9, 0), (9, 0)] [(0, x1), (0, 5), (2, 83)] σ) else none) else js_J E d 228 42 [(2, 83), (0, x1), (0, z0), (9, 0), (9, 0), (9, 0), (9, 0), (9, 0), (9, 0)] [] σ) :=
  (j_istore_n (l2 := [(2, 83), (0, x1), (0, z0), (9, 0), (9, 0), (9, 0), (9, 0), (9, 0), (9, 0)]) q_228_19 rfl (Nat.le_of_ble_eq_true rfl)).trans <| (j_aload_n q_228_20 rfl).trans <| (j_get (ji := 9) (v := (0, σ 83 9)) q_228_21 (js_Fo qy_228 qf_12_22) js_o83 rfl rfl rfl rfl).trans <| (j_ifne (t := 42) q_228_24 rfl).trans (js_ite ((j_aload_n q_228_27 rfl).trans <| (j_get (ji := 35) (v := (2, 101)) q_228_28 (js_Fo qy_228 qf_12_172) js_o83 rfl rfl rfl rfl).trans <| (j_iload_n q_228_31 rfl).trans <| (j_iaload q_228_32 js_o101).trans <| js_itp fun g0 => (j_ifeq (t := 42) q_228_33 rfl).trans (js_ite (rfl) ((j_aload_n q_228_36 rfl).trans <| (j_iconst q_228_37).trans <| (j_iload_n q_228_38 rfl).trans <| rfl))) (rfl))
theorem k_228_39 {E : js_E} {d : Nat} {σ σ2 : js_S} {x1 x2 z1 z2 : Int} (hd : 1 ≤ d) (hz : js_J E (d - 1) 199 0 [(2, 83), (0, z1), (0, z2)] [] σ = js_r0 E σ2) : js_J E d 228 39 [(2, 83), (0, x1), (0, x2), (9, 0), (9, 0), (9, 0), (9, 0), (9, 0), (9, 0)] [(0, z2), (0, z1), (2, 83)] σ = js_J E d 228 42 [(2, 83), (0, x1), (0, x2), (9, 0), (9, 0), (9, 0), (9, 0), (9, 0), (9, 0)] [] σ2 :=
  j_call0 (m := 0) (js_caV q_228_39 (js_Mo qy_228 qm_12_65)) (js_agV (av := [(0, z1), (0, z2)]) (st := []) rfl rfl js_o83 rfl) rfl rfl (by rw [ql_199]; exact Nat.le_of_ble_eq_true rfl) (Nat.le_of_ble_eq_true rfl) hd hz
theorem b_228_42 {E : js_E} {d : Nat} {σ : js_S} {x1 x2 : Int} : js_J E d 228 42 [(2, 83), (0, x1), (0, x2), (9, 0), (9, 0), (9, 0), (9, 0), (9, 0), (9, 0)] [] σ = js_J E d 228 45 [(2, 83), (0, x1), (0, x2), (9, 0), (9, 0), (9, 0), (9, 0), (9, 0), (9, 0)] [(0, 41), (2, 83)] σ :=
  (j_aload_n q_228_42 rfl).trans <| (j_bi q_228_43 rfl).trans <| rfl
theorem k_228_45 {E : js_E} {d : Nat} {σ σ2 : js_S} {x1 x2 z1 : Int} (hd : 1 ≤ d) (hz : js_J E (d - 1) 211 0 [(2, 83), (0, z1)] [] σ = js_r0 E σ2) : js_J E d 228 45 [(2, 83), (0, x1), (0, x2), (9, 0), (9, 0), (9, 0), (9, 0), (9, 0), (9, 0)] [(0, z1), (2, 83)] σ = js_J E d 228 48 [(2, 83), (0, x1), (0, x2), (9, 0), (9, 0), (9, 0), (9, 0), (9, 0), (9, 0)] [] σ2 :=
  j_call0 (m := 0) (js_caV q_228_45 (js_Mo qy_228 qm_12_162)) (js_agV (av := [(0, z1)]) (st := []) rfl rfl js_o83 rfl) rfl rfl (by rw [ql_211]; exact Nat.le_of_ble_eq_true rfl) (Nat.le_of_ble_eq_true rfl) hd hz
theorem b_228_48 {E : js_E} {d : Nat} {σ : js_S} {x1 x2 : Int} : js_J E d 228 48 [(2, 83), (0, x1), (0, x2), (9, 0), (9, 0), (9, 0), (9, 0), (9, 0), (9, 0)] [] σ = (if 0 < js_w (σ 83 9) then js_r E (0, 0) σ else (if 0 ≤ js_w x2 ∧ js_w x2 < 66000 then (if 0 < js_l (js_w (σ 105 (js_w x2))) then js_J E d 228 98 [(2, 83), (0, x1), (0, x2), (1, js_w (σ 105 (js_w x2))), (9, 0), (1, js_w (σ 106 (js_w x2))), (9, 0), (9, 0), (9, 0)] [(1, js_w (σ 105 (js_w x2)))] σ else (if js_l (js_w (σ 106 (js_w x2))) < 0 then js_J E d 228 98 [(2, 83), (0, x1), (0, x2), (1, js_w (σ 105 (js_w x2))), (9, 0), (1, js_w (σ 106 (js_w x2))), (9, 0), (9, 0), (9, 0)] [(1, -(js_w (σ 106 (js_w x2))))] σ else js_J E d 228 98 [(2, 83), (0, x1), (0, x2), (1, js_w (σ 105 (js_w x2))), (9, 0), (1, js_w (σ 106 (js_w x2))), (9, 0), (9, 0), (9, 0)] [(1, 0)] σ)) else none)) :=
  (j_aload_n q_228_48 rfl).trans <| (j_get (ji := 9) (v := (0, σ 83 9)) q_228_49 (js_Fo qy_228 qf_12_22) js_o83 rfl rfl rfl rfl).trans <| (j_ifle (t := 57) q_228_52 rfl).trans (js_ite ((j_iconst q_228_55).trans <| j_ireturn q_228_56 qr_228) ((j_aload_n q_228_57 rfl).trans <| (j_get (ji := 39) (v := (2, 105)) q_228_58 (js_Fo qy_228 qf_12_175) js_o83 rfl rfl rfl rfl).trans <| (j_iload_n q_228_61 rfl).trans <| (j_iaload q_228_62 js_o105).trans <| js_itp fun g0 => (j_i2l q_228_63).trans <| (j_lstore_n (l2 := [(2, 83), (0, x1), (0, x2), (1, js_w (σ 105 (js_w x2))), (9, 0), (9, 0), (9, 0), (9, 0), (9, 0)]) q_228_64 rfl (Nat.le_of_ble_eq_true rfl)).trans <| (j_aload_n q_228_65 rfl).trans <| (j_get (ji := 40) (v := (2, 106)) q_228_66 (js_Fo qy_228 qf_12_178) js_o83 rfl rfl rfl rfl).trans <| (j_iload_n q_228_69 rfl).trans <| (j_iaload q_228_70 js_o106).trans <| (if_pos g0).trans <| (j_i2l q_228_71).trans <| (j_lstore (l2 := [(2, 83), (0, x1), (0, x2), (1, js_w (σ 105 (js_w x2))), (9, 0), (1, js_w (σ 106 (js_w x2))), (9, 0), (9, 0), (9, 0)]) q_228_72 rfl (Nat.le_of_ble_eq_true rfl)).trans <| (j_lload_n q_228_74 rfl).trans <| (j_lconst0 q_228_75).trans <| (j_lleB (t := 84) q_228_76 q_228_77 rfl wl_0).trans (js_ite ((j_lload_n q_228_80 rfl).trans <| (j_goto (t := 98) q_228_81 rfl).trans <| rfl) ((j_lload q_228_84 rfl).trans <| (j_lconst0 q_228_86).trans <| (j_lgeB (t := 97) q_228_87 q_228_88 rfl wl_0).trans (js_ite ((j_lload q_228_91 rfl).trans <| (j_lneg q_228_93).trans <| (j_goto (t := 98) q_228_94 rfl).trans <| rfl) ((j_lconst0 q_228_97).trans <| rfl))))))
theorem b_228_98 {E : js_E} {d : Nat} {σ : js_S} {x1 x2 x3 x5 z0 : Int} (hd : 4 ≤ d) : js_J E d 228 98 [(2, 83), (0, x1), (0, x2), (1, x3), (9, 0), (1, x5), (9, 0), (9, 0), (9, 0)] [(1, z0)] σ = js_J E d 228 121 [(2, 83), (0, x1), (0, x2), (1, x3), (9, 0), (1, x5), (9, 0), (1, z0), (9, 0)] [(0, 20), (0, 0), (0, x2), (1, if js_l (if 0 < js_l x5 then x5 else -x5) < js_l (if 0 < js_l x3 then x3 else -x3) then (if 0 < js_l x3 then x3 else -x3) else (if 0 < js_l x5 then x5 else -x5)), (1, z0), (0, 0), (0, 5), (2, 83)] σ :=
  (j_lstore (l2 := [(2, 83), (0, x1), (0, x2), (1, x3), (9, 0), (1, x5), (9, 0), (1, z0), (9, 0)]) q_228_98 rfl (Nat.le_of_ble_eq_true rfl)).trans <| (j_aload_n q_228_100 rfl).trans <| (j_iconst q_228_101).trans <| (j_iconst q_228_102).trans <| (j_lload q_228_103 rfl).trans <| (j_lload_n q_228_105 rfl).trans <| (j_labs (js_clS q_228_106 (js_Mo qy_228 qm_12_250)) (Nat.le_of_ble_eq_true rfl) hd).trans <| (j_lload q_228_109 rfl).trans <| (j_labs (js_clS q_228_111 (js_Mo qy_228 qm_12_250)) (Nat.le_of_ble_eq_true rfl) hd).trans <| (j_lmax (js_clS q_228_114 (js_Mo qy_228 qm_12_241)) (Nat.le_of_ble_eq_true rfl) hd).trans <| (j_iload_n q_228_117 rfl).trans <| (j_iconst q_228_118).trans <| (j_bi q_228_119 rfl).trans <| rfl
theorem k_228_121 {E : js_E} {d : Nat} {σ σ2 : js_S} {x1 x2 x3 x5 x7 z1 z2 z3 z4 z5 z6 z7 : Int} {v : Int} (hd : 1 ≤ d) (hz : js_J E (d - 1) 217 0 [(2, 83), (0, z1), (0, z2), (1, z3), (9, 0), (1, z4), (9, 0), (0, z5), (0, z6), (0, z7), (9, 0)] [] σ = js_r E (0, v) σ2) : js_J E d 228 121 [(2, 83), (0, x1), (0, x2), (1, x3), (9, 0), (1, x5), (9, 0), (1, x7), (9, 0)] [(0, z7), (0, z6), (0, z5), (1, z4), (1, z3), (0, z2), (0, z1), (2, 83)] σ = js_J E d 228 124 [(2, 83), (0, x1), (0, x2), (1, x3), (9, 0), (1, x5), (9, 0), (1, x7), (9, 0)] [(0, v)] σ2 :=
  j_call (m := 1) (js_caV q_228_121 (js_Mo qy_228 qm_12_208)) (js_agV (av := [(0, z1), (0, z2), (1, z3), (1, z4), (0, z5), (0, z6), (0, z7)]) (st := []) rfl rfl js_o83 rfl) rfl rfl (by rw [ql_217]; exact Nat.le_of_ble_eq_true rfl) (Nat.le_of_ble_eq_true rfl) hd hz
theorem b_228_124 {E : js_E} {d : Nat} {σ : js_S} {x1 x2 x3 x5 x7 z0 : Int} : js_J E d 228 124 [(2, 83), (0, x1), (0, x2), (1, x3), (9, 0), (1, x5), (9, 0), (1, x7), (9, 0)] [(0, z0)] σ = js_r E (0, z0) σ :=
  j_ireturn q_228_124 qr_228
-- 229: VitalTwinModel.clamped ()I
theorem b_229_0 {E : js_E} {d : Nat} {σ : js_S} : js_J E d 229 0 [(2, 83), (9, 0), (9, 0), (9, 0), (9, 0), (9, 0), (9, 0), (9, 0), (9, 0)] [] σ = js_J E d 229 6 [(2, 83), (0, σ 83 6), (9, 0), (9, 0), (9, 0), (9, 0), (9, 0), (9, 0), (9, 0)] [(2, 83)] σ :=
  (j_aload_n q_229_0 rfl).trans <| (j_get (ji := 6) (v := (0, σ 83 6)) q_229_1 (js_Fo qy_229 qf_12_35) js_o83 rfl rfl rfl rfl).trans <| (j_istore_n (l2 := [(2, 83), (0, σ 83 6), (9, 0), (9, 0), (9, 0), (9, 0), (9, 0), (9, 0), (9, 0)]) q_229_4 rfl (Nat.le_of_ble_eq_true rfl)).trans <| (j_aload_n q_229_5 rfl).trans <| rfl
theorem k_229_6 {E : js_E} {d : Nat} {σ σ2 : js_S} {x1 : Int} (hd : 1 ≤ d) (hz : js_J E (d - 1) 191 0 [(2, 83), (9, 0), (9, 0), (9, 0), (9, 0), (9, 0)] [] σ = js_r0 E σ2) : js_J E d 229 6 [(2, 83), (0, x1), (9, 0), (9, 0), (9, 0), (9, 0), (9, 0), (9, 0), (9, 0)] [(2, 83)] σ = js_J E d 229 9 [(2, 83), (0, x1), (9, 0), (9, 0), (9, 0), (9, 0), (9, 0), (9, 0), (9, 0)] [] σ2 :=
  j_call0 (m := 5) (js_caV q_229_6 (js_Mo qy_229 qm_12_68)) (js_agV (av := []) (st := []) rfl rfl js_o83 rfl) rfl rfl (by rw [ql_191]; exact Nat.le_of_ble_eq_true rfl) (Nat.le_of_ble_eq_true rfl) hd hz
theorem b_229_9 {E : js_E} {d : Nat} {σ : js_S} {x1 : Int} : js_J E d 229 9 [(2, 83), (0, x1), (9, 0), (9, 0), (9, 0), (9, 0), (9, 0), (9, 0), (9, 0)] [] σ = js_J E d 229 12 [(2, 83), (0, x1), (9, 0), (9, 0), (9, 0), (9, 0), (9, 0), (9, 0), (9, 0)] [(0, 40), (2, 83)] σ :=
  (j_aload_n q_229_9 rfl).trans <| (j_bi q_229_10 rfl).trans <| rfl
theorem k_229_12 {E : js_E} {d : Nat} {σ σ2 : js_S} {x1 z1 : Int} (hd : 1 ≤ d) (hz : js_J E (d - 1) 207 0 [(2, 83), (0, z1)] [] σ = js_r0 E σ2) : js_J E d 229 12 [(2, 83), (0, x1), (9, 0), (9, 0), (9, 0), (9, 0), (9, 0), (9, 0), (9, 0)] [(0, z1), (2, 83)] σ = js_J E d 229 15 [(2, 83), (0, x1), (9, 0), (9, 0), (9, 0), (9, 0), (9, 0), (9, 0), (9, 0)] [] σ2 :=
  j_call0 (m := 0) (js_caV q_229_12 (js_Mo qy_229 qm_12_159)) (js_agV (av := [(0, z1)]) (st := []) rfl rfl js_o83 rfl) rfl rfl (by rw [ql_207]; exact Nat.le_of_ble_eq_true rfl) (Nat.le_of_ble_eq_true rfl) hd hz
theorem b_229_15 {E : js_E} {d : Nat} {σ : js_S} {x1 : Int} : js_J E d 229 15 [(2, 83), (0, x1), (9, 0), (9, 0), (9, 0), (9, 0), (9, 0), (9, 0), (9, 0)] [] σ = js_J E d 229 16 [(2, 83), (0, x1), (9, 0), (9, 0), (9, 0), (9, 0), (9, 0), (9, 0), (9, 0)] [(2, 83)] σ :=
  (j_aload_n q_229_15 rfl).trans <| rfl
theorem k_229_16 {E : js_E} {d : Nat} {σ σ2 : js_S} {x1 : Int} {v : Int} (hd : 1 ≤ d) (hz : js_J E (d - 1) 219 0 [(2, 83), (9, 0), (9, 0), (9, 0), (9, 0)] [] σ = js_r E (0, v) σ2) : js_J E d 229 16 [(2, 83), (0, x1), (9, 0), (9, 0), (9, 0), (9, 0), (9, 0), (9, 0), (9, 0)] [(2, 83)] σ = js_J E d 229 19 [(2, 83), (0, x1), (9, 0), (9, 0), (9, 0), (9, 0), (9, 0), (9, 0), (9, 0)] [(0, v)] σ2 :=
  j_call (m := 4) (js_caV q_229_16 (js_Mo qy_229 qm_12_193)) (js_agV (av := []) (st := []) rfl rfl js_o83 rfl) rfl rfl (by rw [ql_219]; exact Nat.le_of_ble_eq_true rfl) (Nat.le_of_ble_eq_true rfl) hd hz
theorem b_229_19 {E : js_E} {d : Nat} {σ : js_S} {x1 z0 : Int} : js_J E d 229 19 [(2, 83), (0, x1), (9, 0), (9, 0), (9, 0), (9, 0), (9, 0), (9, 0), (9, 0)] [(0, z0)] σ = (if js_w (σ 83 9) = 0 then (if 0 ≤ js_w z0 ∧ js_w z0 < 66000 then (if js_w (σ 101 (js_w z0)) = 0 then js_J E d 229 42 [(2, 83), (0, x1), (0, z0), (9, 0), (9, 0), (9, 0), (9, 0), (9, 0), (9, 0)] [] σ else js_J E d 229 39 [(2, 83), (0, x1), (0, z0), (9, 0), (9, 0), (9, 0), (9, 0), (9, 0), (9, 0)] [(0, x1), (0, 5), (2, 83)] σ) else none) else js_J E d 229 42 [(2, 83), (0, x1), (0, z0), (9, 0), (9, 0), (9, 0), (9, 0), (9, 0), (9, 0)] [] σ) :=
  (j_istore_n (l2 := [(2, 83), (0, x1), (0, z0), (9, 0), (9, 0), (9, 0), (9, 0), (9, 0), (9, 0)]) q_229_19 rfl (Nat.le_of_ble_eq_true rfl)).trans <| (j_aload_n q_229_20 rfl).trans <| (j_get (ji := 9) (v := (0, σ 83 9)) q_229_21 (js_Fo qy_229 qf_12_22) js_o83 rfl rfl rfl rfl).trans <| (j_ifne (t := 42) q_229_24 rfl).trans (js_ite ((j_aload_n q_229_27 rfl).trans <| (j_get (ji := 35) (v := (2, 101)) q_229_28 (js_Fo qy_229 qf_12_172) js_o83 rfl rfl rfl rfl).trans <| (j_iload_n q_229_31 rfl).trans <| (j_iaload q_229_32 js_o101).trans <| js_itp fun g0 => (j_ifeq (t := 42) q_229_33 rfl).trans (js_ite (rfl) ((j_aload_n q_229_36 rfl).trans <| (j_iconst q_229_37).trans <| (j_iload_n q_229_38 rfl).trans <| rfl))) (rfl))
theorem k_229_39 {E : js_E} {d : Nat} {σ σ2 : js_S} {x1 x2 z1 z2 : Int} (hd : 1 ≤ d) (hz : js_J E (d - 1) 199 0 [(2, 83), (0, z1), (0, z2)] [] σ = js_r0 E σ2) : js_J E d 229 39 [(2, 83), (0, x1), (0, x2), (9, 0), (9, 0), (9, 0), (9, 0), (9, 0), (9, 0)] [(0, z2), (0, z1), (2, 83)] σ = js_J E d 229 42 [(2, 83), (0, x1), (0, x2), (9, 0), (9, 0), (9, 0), (9, 0), (9, 0), (9, 0)] [] σ2 :=
  j_call0 (m := 0) (js_caV q_229_39 (js_Mo qy_229 qm_12_65)) (js_agV (av := [(0, z1), (0, z2)]) (st := []) rfl rfl js_o83 rfl) rfl rfl (by rw [ql_199]; exact Nat.le_of_ble_eq_true rfl) (Nat.le_of_ble_eq_true rfl) hd hz
theorem b_229_42 {E : js_E} {d : Nat} {σ : js_S} {x1 x2 : Int} : js_J E d 229 42 [(2, 83), (0, x1), (0, x2), (9, 0), (9, 0), (9, 0), (9, 0), (9, 0), (9, 0)] [] σ = js_J E d 229 45 [(2, 83), (0, x1), (0, x2), (9, 0), (9, 0), (9, 0), (9, 0), (9, 0), (9, 0)] [(0, 44), (2, 83)] σ :=
  (j_aload_n q_229_42 rfl).trans <| (j_bi q_229_43 rfl).trans <| rfl
theorem k_229_45 {E : js_E} {d : Nat} {σ σ2 : js_S} {x1 x2 z1 : Int} (hd : 1 ≤ d) (hz : js_J E (d - 1) 202 0 [(2, 83), (0, z1)] [] σ = js_r0 E σ2) : js_J E d 229 45 [(2, 83), (0, x1), (0, x2), (9, 0), (9, 0), (9, 0), (9, 0), (9, 0), (9, 0)] [(0, z1), (2, 83)] σ = js_J E d 229 48 [(2, 83), (0, x1), (0, x2), (9, 0), (9, 0), (9, 0), (9, 0), (9, 0), (9, 0)] [] σ2 :=
  j_call0 (m := 0) (js_caV q_229_45 (js_Mo qy_229 qm_12_75)) (js_agV (av := [(0, z1)]) (st := []) rfl rfl js_o83 rfl) rfl rfl (by rw [ql_202]; exact Nat.le_of_ble_eq_true rfl) (Nat.le_of_ble_eq_true rfl) hd hz
theorem b_229_48 {E : js_E} {d : Nat} {σ : js_S} {x1 x2 : Int} : js_J E d 229 48 [(2, 83), (0, x1), (0, x2), (9, 0), (9, 0), (9, 0), (9, 0), (9, 0), (9, 0)] [] σ = js_J E d 229 50 [(2, 83), (0, x1), (0, x2), (9, 0), (9, 0), (9, 0), (9, 0), (9, 0), (9, 0)] [(0, 0), (2, 83)] σ :=
  (j_aload_n q_229_48 rfl).trans <| (j_iconst q_229_49).trans <| rfl
theorem k_229_50 {E : js_E} {d : Nat} {σ σ2 : js_S} {x1 x2 z1 : Int} (hd : 1 ≤ d) (hz : js_J E (d - 1) 209 0 [(2, 83), (0, z1)] [] σ = js_r0 E σ2) : js_J E d 229 50 [(2, 83), (0, x1), (0, x2), (9, 0), (9, 0), (9, 0), (9, 0), (9, 0), (9, 0)] [(0, z1), (2, 83)] σ = js_J E d 229 53 [(2, 83), (0, x1), (0, x2), (9, 0), (9, 0), (9, 0), (9, 0), (9, 0), (9, 0)] [] σ2 :=
  j_call0 (m := 0) (js_caV q_229_50 (js_Mo qy_229 qm_12_156)) (js_agV (av := [(0, z1)]) (st := []) rfl rfl js_o83 rfl) rfl rfl (by rw [ql_209]; exact Nat.le_of_ble_eq_true rfl) (Nat.le_of_ble_eq_true rfl) hd hz
theorem b_229_53 {E : js_E} {d : Nat} {σ : js_S} {x1 x2 : Int} : js_J E d 229 53 [(2, 83), (0, x1), (0, x2), (9, 0), (9, 0), (9, 0), (9, 0), (9, 0), (9, 0)] [] σ = js_J E d 229 59 [(2, 83), (0, x1), (0, x2), (0, σ 83 28), (9, 0), (9, 0), (9, 0), (9, 0), (9, 0)] [(2, 83)] σ :=
  (j_aload_n q_229_53 rfl).trans <| (j_get (ji := 28) (v := (0, σ 83 28)) q_229_54 (js_Fo qy_229 qf_12_141) js_o83 rfl rfl rfl rfl).trans <| (j_istore_n (l2 := [(2, 83), (0, x1), (0, x2), (0, σ 83 28), (9, 0), (9, 0), (9, 0), (9, 0), (9, 0)]) q_229_57 rfl (Nat.le_of_ble_eq_true rfl)).trans <| (j_aload_n q_229_58 rfl).trans <| rfl
theorem k_229_59 {E : js_E} {d : Nat} {σ σ2 : js_S} {x1 x2 x3 : Int} (hd : 1 ≤ d) (hz : js_J E (d - 1) 191 0 [(2, 83), (9, 0), (9, 0), (9, 0), (9, 0), (9, 0)] [] σ = js_r0 E σ2) : js_J E d 229 59 [(2, 83), (0, x1), (0, x2), (0, x3), (9, 0), (9, 0), (9, 0), (9, 0), (9, 0)] [(2, 83)] σ = js_J E d 229 62 [(2, 83), (0, x1), (0, x2), (0, x3), (9, 0), (9, 0), (9, 0), (9, 0), (9, 0)] [] σ2 :=
  j_call0 (m := 5) (js_caV q_229_59 (js_Mo qy_229 qm_12_68)) (js_agV (av := []) (st := []) rfl rfl js_o83 rfl) rfl rfl (by rw [ql_191]; exact Nat.le_of_ble_eq_true rfl) (Nat.le_of_ble_eq_true rfl) hd hz
theorem b_229_62 {E : js_E} {d : Nat} {σ : js_S} {x1 x2 x3 : Int} : js_J E d 229 62 [(2, 83), (0, x1), (0, x2), (0, x3), (9, 0), (9, 0), (9, 0), (9, 0), (9, 0)] [] σ = js_J E d 229 65 [(2, 83), (0, x1), (0, x2), (0, x3), (9, 0), (9, 0), (9, 0), (9, 0), (9, 0)] [(0, 44), (2, 83)] σ :=
  (j_aload_n q_229_62 rfl).trans <| (j_bi q_229_63 rfl).trans <| rfl
theorem k_229_65 {E : js_E} {d : Nat} {σ σ2 : js_S} {x1 x2 x3 z1 : Int} (hd : 1 ≤ d) (hz : js_J E (d - 1) 202 0 [(2, 83), (0, z1)] [] σ = js_r0 E σ2) : js_J E d 229 65 [(2, 83), (0, x1), (0, x2), (0, x3), (9, 0), (9, 0), (9, 0), (9, 0), (9, 0)] [(0, z1), (2, 83)] σ = js_J E d 229 68 [(2, 83), (0, x1), (0, x2), (0, x3), (9, 0), (9, 0), (9, 0), (9, 0), (9, 0)] [] σ2 :=
  j_call0 (m := 0) (js_caV q_229_65 (js_Mo qy_229 qm_12_75)) (js_agV (av := [(0, z1)]) (st := []) rfl rfl js_o83 rfl) rfl rfl (by rw [ql_202]; exact Nat.le_of_ble_eq_true rfl) (Nat.le_of_ble_eq_true rfl) hd hz
theorem b_229_68 {E : js_E} {d : Nat} {σ : js_S} {x1 x2 x3 : Int} : js_J E d 229 68 [(2, 83), (0, x1), (0, x2), (0, x3), (9, 0), (9, 0), (9, 0), (9, 0), (9, 0)] [] σ = js_J E d 229 70 [(2, 83), (0, x1), (0, x2), (0, x3), (9, 0), (9, 0), (9, 0), (9, 0), (9, 0)] [(0, 0), (2, 83)] σ :=
  (j_aload_n q_229_68 rfl).trans <| (j_iconst q_229_69).trans <| rfl
theorem k_229_70 {E : js_E} {d : Nat} {σ σ2 : js_S} {x1 x2 x3 z1 : Int} (hd : 1 ≤ d) (hz : js_J E (d - 1) 209 0 [(2, 83), (0, z1)] [] σ = js_r0 E σ2) : js_J E d 229 70 [(2, 83), (0, x1), (0, x2), (0, x3), (9, 0), (9, 0), (9, 0), (9, 0), (9, 0)] [(0, z1), (2, 83)] σ = js_J E d 229 73 [(2, 83), (0, x1), (0, x2), (0, x3), (9, 0), (9, 0), (9, 0), (9, 0), (9, 0)] [] σ2 :=
  j_call0 (m := 0) (js_caV q_229_70 (js_Mo qy_229 qm_12_156)) (js_agV (av := [(0, z1)]) (st := []) rfl rfl js_o83 rfl) rfl rfl (by rw [ql_209]; exact Nat.le_of_ble_eq_true rfl) (Nat.le_of_ble_eq_true rfl) hd hz
theorem b_229_73 {E : js_E} {d : Nat} {σ : js_S} {x1 x2 x3 : Int} : js_J E d 229 73 [(2, 83), (0, x1), (0, x2), (0, x3), (9, 0), (9, 0), (9, 0), (9, 0), (9, 0)] [] σ = (if js_w (σ 83 9) = 0 then (if js_w (σ 83 28) < js_w x3 then js_J E d 229 98 [(2, 83), (0, x1), (0, x2), (0, x3), (0, σ 83 28), (9, 0), (9, 0), (9, 0), (9, 0)] [(0, σ 83 29), (0, 4), (2, 83)] σ else js_J E d 229 101 [(2, 83), (0, x1), (0, x2), (0, x3), (0, σ 83 28), (9, 0), (9, 0), (9, 0), (9, 0)] [] σ) else js_J E d 229 101 [(2, 83), (0, x1), (0, x2), (0, x3), (0, σ 83 28), (9, 0), (9, 0), (9, 0), (9, 0)] [] σ) :=
  (j_aload_n q_229_73 rfl).trans <| (j_get (ji := 28) (v := (0, σ 83 28)) q_229_74 (js_Fo qy_229 qf_12_141) js_o83 rfl rfl rfl rfl).trans <| (j_istore (l2 := [(2, 83), (0, x1), (0, x2), (0, x3), (0, σ 83 28), (9, 0), (9, 0), (9, 0), (9, 0)]) q_229_77 rfl (Nat.le_of_ble_eq_true rfl)).trans <| (j_aload_n q_229_79 rfl).trans <| (j_get (ji := 9) (v := (0, σ 83 9)) q_229_80 (js_Fo qy_229 qf_12_22) js_o83 rfl rfl rfl rfl).trans <| (j_ifne (t := 101) q_229_83 rfl).trans (js_ite ((j_iload q_229_86 rfl).trans <| (j_iload_n q_229_88 rfl).trans <| (j_cmpge (t := 101) q_229_89 rfl).trans (js_ite ((j_aload_n q_229_92 rfl).trans <| (j_iconst q_229_93).trans <| (j_aload_n q_229_94 rfl).trans <| (j_get (ji := 29) (v := (0, σ 83 29)) q_229_95 (js_Fo qy_229 qf_12_135) js_o83 rfl rfl rfl rfl).trans <| rfl) (rfl))) (rfl))
theorem k_229_98 {E : js_E} {d : Nat} {σ σ2 : js_S} {x1 x2 x3 x4 z1 z2 : Int} (hd : 1 ≤ d) (hz : js_J E (d - 1) 199 0 [(2, 83), (0, z1), (0, z2)] [] σ = js_r0 E σ2) : js_J E d 229 98 [(2, 83), (0, x1), (0, x2), (0, x3), (0, x4), (9, 0), (9, 0), (9, 0), (9, 0)] [(0, z2), (0, z1), (2, 83)] σ = js_J E d 229 101 [(2, 83), (0, x1), (0, x2), (0, x3), (0, x4), (9, 0), (9, 0), (9, 0), (9, 0)] [] σ2 :=
  j_call0 (m := 0) (js_caV q_229_98 (js_Mo qy_229 qm_12_65)) (js_agV (av := [(0, z1), (0, z2)]) (st := []) rfl rfl js_o83 rfl) rfl rfl (by rw [ql_199]; exact Nat.le_of_ble_eq_true rfl) (Nat.le_of_ble_eq_true rfl) hd hz
theorem b_229_101 {E : js_E} {d : Nat} {σ : js_S} {x1 x2 x3 x4 : Int} : js_J E d 229 101 [(2, 83), (0, x1), (0, x2), (0, x3), (0, x4), (9, 0), (9, 0), (9, 0), (9, 0)] [] σ = js_J E d 229 102 [(2, 83), (0, x1), (0, x2), (0, x3), (0, x4), (9, 0), (9, 0), (9, 0), (9, 0)] [(2, 83)] σ :=
  (j_aload_n q_229_101 rfl).trans <| rfl
theorem k_229_102 {E : js_E} {d : Nat} {σ σ2 : js_S} {x1 x2 x3 x4 : Int} (hd : 1 ≤ d) (hz : js_J E (d - 1) 191 0 [(2, 83), (9, 0), (9, 0), (9, 0), (9, 0), (9, 0)] [] σ = js_r0 E σ2) : js_J E d 229 102 [(2, 83), (0, x1), (0, x2), (0, x3), (0, x4), (9, 0), (9, 0), (9, 0), (9, 0)] [(2, 83)] σ = js_J E d 229 105 [(2, 83), (0, x1), (0, x2), (0, x3), (0, x4), (9, 0), (9, 0), (9, 0), (9, 0)] [] σ2 :=
  j_call0 (m := 5) (js_caV q_229_102 (js_Mo qy_229 qm_12_68)) (js_agV (av := []) (st := []) rfl rfl js_o83 rfl) rfl rfl (by rw [ql_191]; exact Nat.le_of_ble_eq_true rfl) (Nat.le_of_ble_eq_true rfl) hd hz
theorem b_229_105 {E : js_E} {d : Nat} {σ : js_S} {x1 x2 x3 x4 : Int} : js_J E d 229 105 [(2, 83), (0, x1), (0, x2), (0, x3), (0, x4), (9, 0), (9, 0), (9, 0), (9, 0)] [] σ = js_J E d 229 108 [(2, 83), (0, x1), (0, x2), (0, x3), (0, x4), (9, 0), (9, 0), (9, 0), (9, 0)] [(0, 41), (2, 83)] σ :=
  (j_aload_n q_229_105 rfl).trans <| (j_bi q_229_106 rfl).trans <| rfl
theorem k_229_108 {E : js_E} {d : Nat} {σ σ2 : js_S} {x1 x2 x3 x4 z1 : Int} (hd : 1 ≤ d) (hz : js_J E (d - 1) 211 0 [(2, 83), (0, z1)] [] σ = js_r0 E σ2) : js_J E d 229 108 [(2, 83), (0, x1), (0, x2), (0, x3), (0, x4), (9, 0), (9, 0), (9, 0), (9, 0)] [(0, z1), (2, 83)] σ = js_J E d 229 111 [(2, 83), (0, x1), (0, x2), (0, x3), (0, x4), (9, 0), (9, 0), (9, 0), (9, 0)] [] σ2 :=
  j_call0 (m := 0) (js_caV q_229_108 (js_Mo qy_229 qm_12_162)) (js_agV (av := [(0, z1)]) (st := []) rfl rfl js_o83 rfl) rfl rfl (by rw [ql_211]; exact Nat.le_of_ble_eq_true rfl) (Nat.le_of_ble_eq_true rfl) hd hz
theorem b_229_111 {E : js_E} {d : Nat} {σ : js_S} {x1 x2 x3 x4 : Int} (hd : 4 ≤ d) : js_J E d 229 111 [(2, 83), (0, x1), (0, x2), (0, x3), (0, x4), (9, 0), (9, 0), (9, 0), (9, 0)] [] σ = (if 0 < js_w (σ 83 9) then js_r E (0, 0) σ else (if 0 ≤ js_w x2 ∧ js_w x2 < 66000 then js_J E d 229 168 [(2, 83), (0, x1), (0, x2), (0, x3), (0, x4), (1, js_w (if js_w (if js_w x3 < js_w (σ 105 (js_w x2)) then (σ 105 (js_w x2)) else x3) < js_w x4 then (if js_w x3 < js_w (σ 105 (js_w x2)) then (σ 105 (js_w x2)) else x3) else x4)), (9, 0), (1, js_w (if js_w (if js_w x3 < js_w (σ 106 (js_w x2)) then (σ 106 (js_w x2)) else x3) < js_w x4 then (if js_w x3 < js_w (σ 106 (js_w x2)) then (σ 106 (js_w x2)) else x3) else x4)), (9, 0)] [(0, x4), (0, x3), (0, x2), (1, js_w (if js_w (if js_w x3 < js_w (σ 106 (js_w x2)) then (σ 106 (js_w x2)) else x3) < js_w x4 then (if js_w x3 < js_w (σ 106 (js_w x2)) then (σ 106 (js_w x2)) else x3) else x4)), (1, js_w (if js_w (if js_w x3 < js_w (σ 105 (js_w x2)) then (σ 105 (js_w x2)) else x3) < js_w x4 then (if js_w x3 < js_w (σ 105 (js_w x2)) then (σ 105 (js_w x2)) else x3) else x4)), (0, 0), (0, 9), (2, 83)] σ else none)) :=
  (j_aload_n q_229_111 rfl).trans <| (j_get (ji := 9) (v := (0, σ 83 9)) q_229_112 (js_Fo qy_229 qf_12_22) js_o83 rfl rfl rfl rfl).trans <| (j_ifle (t := 120) q_229_115 rfl).trans (js_ite ((j_iconst q_229_118).trans <| j_ireturn q_229_119 qr_229) ((j_iload q_229_120 rfl).trans <| (j_iload_n q_229_122 rfl).trans <| (j_aload_n q_229_123 rfl).trans <| (j_get (ji := 39) (v := (2, 105)) q_229_124 (js_Fo qy_229 qf_12_175) js_o83 rfl rfl rfl rfl).trans <| (j_iload_n q_229_127 rfl).trans <| (j_iaload q_229_128 js_o105).trans <| js_itp fun g0 => (j_max (js_clS q_229_129 (js_Mo qy_229 qm_12_205)) (Nat.le_of_ble_eq_true rfl) hd).trans <| (j_min (js_clS q_229_132 (js_Mo qy_229 qm_12_199)) (Nat.le_of_ble_eq_true rfl) hd).trans <| (j_i2l q_229_135).trans <| (j_lstore (l2 := [(2, 83), (0, x1), (0, x2), (0, x3), (0, x4), (1, js_w (if js_w (if js_w x3 < js_w (σ 105 (js_w x2)) then (σ 105 (js_w x2)) else x3) < js_w x4 then (if js_w x3 < js_w (σ 105 (js_w x2)) then (σ 105 (js_w x2)) else x3) else x4)), (9, 0), (9, 0), (9, 0)]) q_229_136 rfl (Nat.le_of_ble_eq_true rfl)).trans <| (j_iload q_229_138 rfl).trans <| (j_iload_n q_229_140 rfl).trans <| (j_aload_n q_229_141 rfl).trans <| (j_get (ji := 40) (v := (2, 106)) q_229_142 (js_Fo qy_229 qf_12_178) js_o83 rfl rfl rfl rfl).trans <| (j_iload_n q_229_145 rfl).trans <| (j_iaload q_229_146 js_o106).trans <| (if_pos g0).trans <| (j_max (js_clS q_229_147 (js_Mo qy_229 qm_12_205)) (Nat.le_of_ble_eq_true rfl) hd).trans <| (j_min (js_clS q_229_150 (js_Mo qy_229 qm_12_199)) (Nat.le_of_ble_eq_true rfl) hd).trans <| (j_i2l q_229_153).trans <| (j_lstore (l2 := [(2, 83), (0, x1), (0, x2), (0, x3), (0, x4), (1, js_w (if js_w (if js_w x3 < js_w (σ 105 (js_w x2)) then (σ 105 (js_w x2)) else x3) < js_w x4 then (if js_w x3 < js_w (σ 105 (js_w x2)) then (σ 105 (js_w x2)) else x3) else x4)), (9, 0), (1, js_w (if js_w (if js_w x3 < js_w (σ 106 (js_w x2)) then (σ 106 (js_w x2)) else x3) < js_w x4 then (if js_w x3 < js_w (σ 106 (js_w x2)) then (σ 106 (js_w x2)) else x3) else x4)), (9, 0)]) q_229_154 rfl (Nat.le_of_ble_eq_true rfl)).trans <| (j_aload_n q_229_156 rfl).trans <| (j_bi q_229_157 rfl).trans <| (j_iconst q_229_159).trans <| (j_lload q_229_160 rfl).trans <| (j_lload q_229_162 rfl).trans <| (j_iload_n q_229_164 rfl).trans <| (j_iload_n q_229_165 rfl).trans <| (j_iload q_229_166 rfl).trans <| rfl))
theorem k_229_168 {E : js_E} {d : Nat} {σ σ2 : js_S} {x1 x2 x3 x4 x5 x7 z1 z2 z3 z4 z5 z6 z7 : Int} {v : Int} (hd : 1 ≤ d) (hz : js_J E (d - 1) 217 0 [(2, 83), (0, z1), (0, z2), (1, z3), (9, 0), (1, z4), (9, 0), (0, z5), (0, z6), (0, z7), (9, 0)] [] σ = js_r E (0, v) σ2) : js_J E d 229 168 [(2, 83), (0, x1), (0, x2), (0, x3), (0, x4), (1, x5), (9, 0), (1, x7), (9, 0)] [(0, z7), (0, z6), (0, z5), (1, z4), (1, z3), (0, z2), (0, z1), (2, 83)] σ = js_J E d 229 171 [(2, 83), (0, x1), (0, x2), (0, x3), (0, x4), (1, x5), (9, 0), (1, x7), (9, 0)] [(0, v)] σ2 :=
  j_call (m := 1) (js_caV q_229_168 (js_Mo qy_229 qm_12_208)) (js_agV (av := [(0, z1), (0, z2), (1, z3), (1, z4), (0, z5), (0, z6), (0, z7)]) (st := []) rfl rfl js_o83 rfl) rfl rfl (by rw [ql_217]; exact Nat.le_of_ble_eq_true rfl) (Nat.le_of_ble_eq_true rfl) hd hz
theorem b_229_171 {E : js_E} {d : Nat} {σ : js_S} {x1 x2 x3 x4 x5 x7 z0 : Int} : js_J E d 229 171 [(2, 83), (0, x1), (0, x2), (0, x3), (0, x4), (1, x5), (9, 0), (1, x7), (9, 0)] [(0, z0)] σ = js_r E (0, z0) σ :=
  j_ireturn q_229_171 qr_229
-- 230: VitalTwinModel.named ()I
theorem b_230_0 {E : js_E} {d : Nat} {σ : js_S} : js_J E d 230 0 [(2, 83), (9, 0), (9, 0), (9, 0)] [] σ = js_J E d 230 1 [(2, 83), (9, 0), (9, 0), (9, 0)] [(2, 83)] σ :=
  (j_aload_n q_230_0 rfl).trans <| rfl
theorem k_230_1 {E : js_E} {d : Nat} {σ σ2 : js_S} {v : Int} (hd : 1 ≤ d) (hz : js_J E (d - 1) 200 0 [(2, 83), (9, 0)] [] σ = js_r E (0, v) σ2) : js_J E d 230 1 [(2, 83), (9, 0), (9, 0), (9, 0)] [(2, 83)] σ = js_J E d 230 4 [(2, 83), (9, 0), (9, 0), (9, 0)] [(0, v)] σ2 :=
  j_call (m := 1) (js_caV q_230_1 (js_Mo qy_230 qm_12_96)) (js_agV (av := []) (st := []) rfl rfl js_o83 rfl) rfl rfl (by rw [ql_200]; exact Nat.le_of_ble_eq_true rfl) (Nat.le_of_ble_eq_true rfl) hd hz
theorem b_230_4 {E : js_E} {d : Nat} {σ : js_S} {z0 : Int} : js_J E d 230 4 [(2, 83), (9, 0), (9, 0), (9, 0)] [(0, z0)] σ = js_J E d 230 6 [(2, 83), (0, z0), (9, 0), (9, 0)] [(2, 83)] σ :=
  (j_istore_n (l2 := [(2, 83), (0, z0), (9, 0), (9, 0)]) q_230_4 rfl (Nat.le_of_ble_eq_true rfl)).trans <| (j_aload_n q_230_5 rfl).trans <| rfl
theorem k_230_6 {E : js_E} {d : Nat} {σ σ2 : js_S} {x1 : Int} {v : Int} (hd : 1 ≤ d) (hz : js_J E (d - 1) 231 0 [(2, 83), (9, 0), (9, 0)] [] σ = js_r E (0, v) σ2) : js_J E d 230 6 [(2, 83), (0, x1), (9, 0), (9, 0)] [(2, 83)] σ = js_J E d 230 9 [(2, 83), (0, x1), (9, 0), (9, 0)] [(0, v)] σ2 :=
  j_call (m := 2) (js_caV q_230_6 (js_Mo qy_230 qm_12_271)) (js_agV (av := []) (st := []) rfl rfl js_o83 rfl) rfl rfl (by rw [ql_231]; exact Nat.le_of_ble_eq_true rfl) (Nat.le_of_ble_eq_true rfl) hd hz
theorem b_230_9 {E : js_E} {d : Nat} {σ : js_S} {x1 z0 : Int} : js_J E d 230 9 [(2, 83), (0, x1), (9, 0), (9, 0)] [(0, z0)] σ = (if js_w x1 < 0 then js_J E d 230 74 [(2, 83), (0, x1), (0, z0), (9, 0)] [] σ else (if 0 ≤ js_w x1 ∧ js_w x1 < 400 then (if js_w (σ 86 (js_w x1)) = 8 then js_J E d 230 74 [(2, 83), (0, x1), (0, z0), (9, 0)] [] σ else (if js_w (σ 86 (js_w x1)) = 4 then js_J E d 230 40 [(2, 83), (0, x1), (0, z0), (9, 0)] [(0, 1)] σ else js_J E d 230 40 [(2, 83), (0, x1), (0, z0), (9, 0)] [(0, 0)] σ)) else none)) :=
  (j_istore_n (l2 := [(2, 83), (0, x1), (0, z0), (9, 0)]) q_230_9 rfl (Nat.le_of_ble_eq_true rfl)).trans <| (j_iload_n q_230_10 rfl).trans <| (j_iflt (t := 74) q_230_11 rfl).trans (js_ite (rfl) ((j_aload_n q_230_14 rfl).trans <| (j_get (ji := 12) (v := (2, 86)) q_230_15 (js_Fo qy_230 qf_12_99) js_o83 rfl rfl rfl rfl).trans <| (j_iload_n q_230_18 rfl).trans <| (j_iaload q_230_19 js_o86).trans <| js_itp fun g0 => (j_bi q_230_20 rfl).trans <| (j_cmpeqB (t := 74) q_230_22 rfl ww_8).trans (js_ite (rfl) ((j_aload_n q_230_25 rfl).trans <| (j_get (ji := 12) (v := (2, 86)) q_230_26 (js_Fo qy_230 qf_12_99) js_o83 rfl rfl rfl rfl).trans <| (j_iload_n q_230_29 rfl).trans <| (j_iaload q_230_30 js_o86).trans <| (if_pos g0).trans <| (j_iconst q_230_31).trans <| (j_cmpneB (t := 39) q_230_32 rfl ww_4).trans (js_ite ((j_iconst q_230_35).trans <| (j_goto (t := 40) q_230_36 rfl).trans <| rfl) ((j_iconst q_230_39).trans <| rfl))))))
theorem b_230_40 {E : js_E} {d : Nat} {σ : js_S} {x1 x2 z0 : Int} : js_J E d 230 40 [(2, 83), (0, x1), (0, x2), (9, 0)] [(0, z0)] σ = (if js_w x2 = 40 then js_J E d 230 51 [(2, 83), (0, x1), (0, x2), (9, 0)] [(0, 1), (0, z0)] σ else js_J E d 230 51 [(2, 83), (0, x1), (0, x2), (9, 0)] [(0, 0), (0, z0)] σ) :=
  (j_iload_n q_230_40 rfl).trans <| (j_bi q_230_41 rfl).trans <| (j_cmpneB (t := 50) q_230_43 rfl ww_40).trans (js_ite ((j_iconst q_230_46).trans <| (j_goto (t := 51) q_230_47 rfl).trans <| rfl) ((j_iconst q_230_50).trans <| rfl))
theorem b_230_51 {E : js_E} {d : Nat} {σ : js_S} {x1 x2 z0 z1 : Int} : js_J E d 230 51 [(2, 83), (0, x1), (0, x2), (9, 0)] [(0, z1), (0, z0)] σ = (if js_w z0 = js_w z1 then (if 0 ≤ js_w x1 ∧ js_w x1 < 400 then (if js_w x2 = 91 then js_J E d 230 71 [(2, 83), (0, x1), (0, x2), (9, 0)] [(0, 1), (0, σ 92 (js_w x1))] σ else js_J E d 230 71 [(2, 83), (0, x1), (0, x2), (9, 0)] [(0, 0), (0, σ 92 (js_w x1))] σ) else none) else js_J E d 230 74 [(2, 83), (0, x1), (0, x2), (9, 0)] [] σ) :=
  (j_cmpne (t := 74) q_230_51 rfl).trans (js_ite ((j_aload_n q_230_54 rfl).trans <| (j_get (ji := 18) (v := (2, 92)) q_230_55 (js_Fo qy_230 qf_12_117) js_o83 rfl rfl rfl rfl).trans <| (j_iload_n q_230_58 rfl).trans <| (j_zaload q_230_59 js_o92).trans <| js_itp fun g0 => (j_iload_n q_230_60 rfl).trans <| (j_bi q_230_61 rfl).trans <| (j_cmpneB (t := 70) q_230_63 rfl ww_91).trans (js_ite ((j_iconst q_230_66).trans <| (j_goto (t := 71) q_230_67 rfl).trans <| rfl) ((j_iconst q_230_70).trans <| rfl))) (rfl))
theorem b_230_71 {E : js_E} {d : Nat} {σ : js_S} {x1 x2 z0 z1 : Int} : js_J E d 230 71 [(2, 83), (0, x1), (0, x2), (9, 0)] [(0, z1), (0, z0)] σ = (if js_w z0 = js_w z1 then (if 0 ≤ js_w x1 ∧ js_w x1 < 400 then (if js_w (σ 86 (js_w x1)) = 4 then (if js_w (σ 87 (js_w x1)) = 2 then js_J E d 230 111 [(2, 83), (0, x1), (0, x2), (9, 0)] [(0, σ 83 6), (0, 5), (2, 83)] σ else js_J E d 230 118 [(2, 83), (0, x1), (0, x2), (9, 0)] [(0, x1), (2, 83)] σ) else js_J E d 230 123 [(2, 83), (0, x1), (0, x2), (9, 0)] [(2, 83)] σ) else none) else js_J E d 230 74 [(2, 83), (0, x1), (0, x2), (9, 0)] [] σ) :=
  (j_cmpeq (t := 85) q_230_71 rfl).trans (js_ite ((j_aload_n q_230_85 rfl).trans <| (j_get (ji := 12) (v := (2, 86)) q_230_86 (js_Fo qy_230 qf_12_99) js_o83 rfl rfl rfl rfl).trans <| (j_iload_n q_230_89 rfl).trans <| (j_iaload q_230_90 js_o86).trans <| js_itp fun g0 => (j_iconst q_230_91).trans <| (j_cmpneB (t := 122) q_230_92 rfl ww_4).trans (js_ite ((j_aload_n q_230_95 rfl).trans <| (j_get (ji := 13) (v := (2, 87)) q_230_96 (js_Fo qy_230 qf_12_102) js_o83 rfl rfl rfl rfl).trans <| (j_iload_n q_230_99 rfl).trans <| (j_iaload q_230_100 js_o87).trans <| (if_pos g0).trans <| (j_iconst q_230_101).trans <| (j_cmpneB (t := 116) q_230_102 rfl ww_2).trans (js_ite ((j_aload_n q_230_105 rfl).trans <| (j_iconst q_230_106).trans <| (j_aload_n q_230_107 rfl).trans <| (j_get (ji := 6) (v := (0, σ 83 6)) q_230_108 (js_Fo qy_230 qf_12_35) js_o83 rfl rfl rfl rfl).trans <| rfl) ((j_aload_n q_230_116 rfl).trans <| (j_iload_n q_230_117 rfl).trans <| rfl))) ((j_aload_n q_230_122 rfl).trans <| rfl))) (rfl))
theorem b_230_74 {E : js_E} {d : Nat} {σ : js_S} {x1 x2 : Int} : js_J E d 230 74 [(2, 83), (0, x1), (0, x2), (9, 0)] [] σ = js_J E d 230 80 [(2, 83), (0, x1), (0, x2), (9, 0)] [(0, σ 83 6), (0, 3), (2, 83)] σ :=
  (j_aload_n q_230_74 rfl).trans <| (j_iconst q_230_75).trans <| (j_aload_n q_230_76 rfl).trans <| (j_get (ji := 6) (v := (0, σ 83 6)) q_230_77 (js_Fo qy_230 qf_12_35) js_o83 rfl rfl rfl rfl).trans <| rfl
theorem k_230_80 {E : js_E} {d : Nat} {σ σ2 : js_S} {x1 x2 z1 z2 : Int} (hd : 1 ≤ d) (hz : js_J E (d - 1) 199 0 [(2, 83), (0, z1), (0, z2)] [] σ = js_r0 E σ2) : js_J E d 230 80 [(2, 83), (0, x1), (0, x2), (9, 0)] [(0, z2), (0, z1), (2, 83)] σ = js_J E d 230 83 [(2, 83), (0, x1), (0, x2), (9, 0)] [] σ2 :=
  j_call0 (m := 0) (js_caV q_230_80 (js_Mo qy_230 qm_12_65)) (js_agV (av := [(0, z1), (0, z2)]) (st := []) rfl rfl js_o83 rfl) rfl rfl (by rw [ql_199]; exact Nat.le_of_ble_eq_true rfl) (Nat.le_of_ble_eq_true rfl) hd hz
theorem b_230_83 {E : js_E} {d : Nat} {σ : js_S} {x1 x2 : Int} : js_J E d 230 83 [(2, 83), (0, x1), (0, x2), (9, 0)] [] σ = js_r E (0, 0) σ :=
  (j_iconst q_230_83).trans <| j_ireturn q_230_84 qr_230
theorem k_230_111 {E : js_E} {d : Nat} {σ σ2 : js_S} {x1 x2 z1 z2 : Int} (hd : 1 ≤ d) (hz : js_J E (d - 1) 199 0 [(2, 83), (0, z1), (0, z2)] [] σ = js_r0 E σ2) : js_J E d 230 111 [(2, 83), (0, x1), (0, x2), (9, 0)] [(0, z2), (0, z1), (2, 83)] σ = js_J E d 230 114 [(2, 83), (0, x1), (0, x2), (9, 0)] [] σ2 :=
  j_call0 (m := 0) (js_caV q_230_111 (js_Mo qy_230 qm_12_65)) (js_agV (av := [(0, z1), (0, z2)]) (st := []) rfl rfl js_o83 rfl) rfl rfl (by rw [ql_199]; exact Nat.le_of_ble_eq_true rfl) (Nat.le_of_ble_eq_true rfl) hd hz
theorem b_230_114 {E : js_E} {d : Nat} {σ : js_S} {x1 x2 : Int} : js_J E d 230 114 [(2, 83), (0, x1), (0, x2), (9, 0)] [] σ = js_r E (0, 0) σ :=
  (j_iconst q_230_114).trans <| j_ireturn q_230_115 qr_230
theorem k_230_118 {E : js_E} {d : Nat} {σ σ2 : js_S} {x1 x2 z1 : Int} {v : Int} (hd : 1 ≤ d) (hz : js_J E (d - 1) 232 0 [(2, 83), (0, z1), (9, 0), (9, 0), (9, 0), (9, 0), (9, 0), (9, 0)] [] σ = js_r E (0, v) σ2) : js_J E d 230 118 [(2, 83), (0, x1), (0, x2), (9, 0)] [(0, z1), (2, 83)] σ = js_J E d 230 121 [(2, 83), (0, x1), (0, x2), (9, 0)] [(0, v)] σ2 :=
  j_call (m := 6) (js_caV q_230_118 (js_Mo qy_230 qm_12_274)) (js_agV (av := [(0, z1)]) (st := []) rfl rfl js_o83 rfl) rfl rfl (by rw [ql_232]; exact Nat.le_of_ble_eq_true rfl) (Nat.le_of_ble_eq_true rfl) hd hz
theorem b_230_121 {E : js_E} {d : Nat} {σ : js_S} {x1 x2 z0 : Int} : js_J E d 230 121 [(2, 83), (0, x1), (0, x2), (9, 0)] [(0, z0)] σ = js_r E (0, z0) σ :=
  j_ireturn q_230_121 qr_230
theorem k_230_123 {E : js_E} {d : Nat} {σ σ2 : js_S} {x1 x2 : Int} (hd : 1 ≤ d) (hz : js_J E (d - 1) 191 0 [(2, 83), (9, 0), (9, 0), (9, 0), (9, 0), (9, 0)] [] σ = js_r0 E σ2) : js_J E d 230 123 [(2, 83), (0, x1), (0, x2), (9, 0)] [(2, 83)] σ = js_J E d 230 126 [(2, 83), (0, x1), (0, x2), (9, 0)] [] σ2 :=
  j_call0 (m := 5) (js_caV q_230_123 (js_Mo qy_230 qm_12_68)) (js_agV (av := []) (st := []) rfl rfl js_o83 rfl) rfl rfl (by rw [ql_191]; exact Nat.le_of_ble_eq_true rfl) (Nat.le_of_ble_eq_true rfl) hd hz
theorem b_230_126 {E : js_E} {d : Nat} {σ : js_S} {x1 x2 : Int} : js_J E d 230 126 [(2, 83), (0, x1), (0, x2), (9, 0)] [] σ = (if 0 ≤ js_w x1 ∧ js_w x1 < 400 then (if js_w (σ 86 (js_w x1)) = 0 then js_J E d 230 146 [(2, 83), (0, x1), (0, x2), (9, 0)] [] σ else (if js_w (σ 86 (js_w x1)) = 9 then js_J E d 230 146 [(2, 83), (0, x1), (0, x2), (9, 0)] [] σ else (if js_w (σ 92 (js_w x1)) = 0 then js_J E d 230 274 [(2, 83), (0, x1), (0, x2), (9, 0)] [(0, 0), (0, 0), (0, x1), (1, js_w (σ 89 (js_w x1))), (1, js_w (σ 88 (js_w x1))), (0, σ 87 (js_w x1)), (0, 2), (2, 83)] σ else js_J E d 230 303 [(2, 83), (0, x1), (0, x2), (9, 0)] [(0, x1), (2, 83), (0, x1), (1, js_w (σ 89 (js_w x1))), (1, js_w (σ 88 (js_w x1))), (0, σ 87 (js_w x1)), (0, 3), (2, 83)] σ))) else none) :=
  (j_aload_n q_230_126 rfl).trans <| (j_get (ji := 12) (v := (2, 86)) q_230_127 (js_Fo qy_230 qf_12_99) js_o83 rfl rfl rfl rfl).trans <| (j_iload_n q_230_130 rfl).trans <| (j_iaload q_230_131 js_o86).trans <| js_itp fun g0 => (j_ifeq (t := 146) q_230_132 rfl).trans (js_ite (rfl) ((j_aload_n q_230_135 rfl).trans <| (j_get (ji := 12) (v := (2, 86)) q_230_136 (js_Fo qy_230 qf_12_99) js_o83 rfl rfl rfl rfl).trans <| (j_iload_n q_230_139 rfl).trans <| (j_iaload q_230_140 js_o86).trans <| (if_pos g0).trans <| (j_bi q_230_141 rfl).trans <| (j_cmpneB (t := 240) q_230_143 rfl ww_9).trans (js_ite (rfl) ((j_aload_n q_230_240 rfl).trans <| (j_get (ji := 18) (v := (2, 92)) q_230_241 (js_Fo qy_230 qf_12_117) js_o83 rfl rfl rfl rfl).trans <| (j_iload_n q_230_244 rfl).trans <| (j_zaload q_230_245 js_o92).trans <| (if_pos g0).trans <| (j_ifne (t := 278) q_230_246 rfl).trans (js_ite ((j_aload_n q_230_249 rfl).trans <| (j_iconst q_230_250).trans <| (j_aload_n q_230_251 rfl).trans <| (j_get (ji := 13) (v := (2, 87)) q_230_252 (js_Fo qy_230 qf_12_102) js_o83 rfl rfl rfl rfl).trans <| (j_iload_n q_230_255 rfl).trans <| (j_iaload q_230_256 js_o87).trans <| (if_pos g0).trans <| (j_aload_n q_230_257 rfl).trans <| (j_get (ji := 14) (v := (2, 88)) q_230_258 (js_Fo qy_230 qf_12_105) js_o83 rfl rfl rfl rfl).trans <| (j_iload_n q_230_261 rfl).trans <| (j_iaload q_230_262 js_o88).trans <| (if_pos g0).trans <| (j_i2l q_230_263).trans <| (j_aload_n q_230_264 rfl).trans <| (j_get (ji := 15) (v := (2, 89)) q_230_265 (js_Fo qy_230 qf_12_108) js_o83 rfl rfl rfl rfl).trans <| (j_iload_n q_230_268 rfl).trans <| (j_iaload q_230_269 js_o89).trans <| (if_pos g0).trans <| (j_i2l q_230_270).trans <| (j_iload_n q_230_271 rfl).trans <| (j_iconst q_230_272).trans <| (j_iconst q_230_273).trans <| rfl) ((j_aload_n q_230_278 rfl).trans <| (j_iconst q_230_279).trans <| (j_aload_n q_230_280 rfl).trans <| (j_get (ji := 13) (v := (2, 87)) q_230_281 (js_Fo qy_230 qf_12_102) js_o83 rfl rfl rfl rfl).trans <| (j_iload_n q_230_284 rfl).trans <| (j_iaload q_230_285 js_o87).trans <| (if_pos g0).trans <| (j_aload_n q_230_286 rfl).trans <| (j_get (ji := 14) (v := (2, 88)) q_230_287 (js_Fo qy_230 qf_12_105) js_o83 rfl rfl rfl rfl).trans <| (j_iload_n q_230_290 rfl).trans <| (j_iaload q_230_291 js_o88).trans <| (if_pos g0).trans <| (j_i2l q_230_292).trans <| (j_aload_n q_230_293 rfl).trans <| (j_get (ji := 15) (v := (2, 89)) q_230_294 (js_Fo qy_230 qf_12_108) js_o83 rfl rfl rfl rfl).trans <| (j_iload_n q_230_297 rfl).trans <| (j_iaload q_230_298 js_o89).trans <| (if_pos g0).trans <| (j_i2l q_230_299).trans <| (j_iload_n q_230_300 rfl).trans <| (j_aload_n q_230_301 rfl).trans <| (j_iload_n q_230_302 rfl).trans <| rfl))))))
theorem b_230_146 {E : js_E} {d : Nat} {σ : js_S} {x1 x2 : Int} : js_J E d 230 146 [(2, 83), (0, x1), (0, x2), (9, 0)] [] σ = (if 0 ≤ js_w x1 ∧ js_w x1 < 400 then (if js_w (σ 87 (js_w x1)) = 0 then js_J E d 230 160 [(2, 83), (0, x1), (0, x2), (9, 0)] [(0, 1)] σ else js_J E d 230 160 [(2, 83), (0, x1), (0, x2), (9, 0)] [(0, 0)] σ) else none) :=
  (j_aload_n q_230_146 rfl).trans <| (j_get (ji := 13) (v := (2, 87)) q_230_147 (js_Fo qy_230 qf_12_102) js_o83 rfl rfl rfl rfl).trans <| (j_iload_n q_230_150 rfl).trans <| (j_iaload q_230_151 js_o87).trans <| js_itp fun g0 => (j_ifne (t := 159) q_230_152 rfl).trans (js_ite ((j_iconst q_230_155).trans <| (j_goto (t := 160) q_230_156 rfl).trans <| rfl) ((j_iconst q_230_159).trans <| rfl))
theorem b_230_160 {E : js_E} {d : Nat} {σ : js_S} {x1 x2 z0 : Int} : js_J E d 230 160 [(2, 83), (0, x1), (0, x2), (9, 0)] [(0, z0)] σ = (if 0 ≤ js_w x1 ∧ js_w x1 < 400 then (if js_w z0 = 0 then js_J E d 230 184 [(2, 83), (0, x1), (0, x2), (0, z0)] [(1, 0), (0, σ 87 (js_w x1)), (0, 1), (2, 83)] σ else js_J E d 230 184 [(2, 83), (0, x1), (0, x2), (0, z0)] [(1, js_w (σ 94 (js_w x1))), (0, σ 87 (js_w x1)), (0, 1), (2, 83)] σ) else none) :=
  (j_istore_n (l2 := [(2, 83), (0, x1), (0, x2), (0, z0)]) q_230_160 rfl (Nat.le_of_ble_eq_true rfl)).trans <| (j_aload_n q_230_161 rfl).trans <| (j_iconst q_230_162).trans <| (j_aload_n q_230_163 rfl).trans <| (j_get (ji := 13) (v := (2, 87)) q_230_164 (js_Fo qy_230 qf_12_102) js_o83 rfl rfl rfl rfl).trans <| (j_iload_n q_230_167 rfl).trans <| (j_iaload q_230_168 js_o87).trans <| js_itp fun g0 => (j_iload_n q_230_169 rfl).trans <| (j_ifeq (t := 183) q_230_170 rfl).trans (js_ite ((j_lconst0 q_230_183).trans <| rfl) ((j_aload_n q_230_173 rfl).trans <| (j_get (ji := 20) (v := (2, 94)) q_230_174 (js_Fo qy_230 qf_12_126) js_o83 rfl rfl rfl rfl).trans <| (j_iload_n q_230_177 rfl).trans <| (j_iaload q_230_178 js_o94).trans <| (if_pos g0).trans <| (j_i2l q_230_179).trans <| (j_goto (t := 184) q_230_180 rfl).trans <| rfl))
theorem b_230_184 {E : js_E} {d : Nat} {σ : js_S} {x1 x2 x3 z1 z2 z3 : Int} : js_J E d 230 184 [(2, 83), (0, x1), (0, x2), (0, x3)] [(1, z3), (0, z2), (0, z1), (2, 83)] σ = (if js_w x3 = 0 then (if 0 ≤ js_w x1 ∧ js_w x1 < 400 then (if js_w (σ 87 (js_w x1)) = 1 then js_J E d 230 228 [(2, 83), (0, x1), (0, x2), (0, x3)] [(1, 1), (1, z3), (0, z2), (0, z1), (2, 83)] σ else (if 0 ≤ js_w ((σ 87 (js_w x1)) - 3) ∧ js_w ((σ 87 (js_w x1)) - 3) < 400 then js_J E d 230 228 [(2, 83), (0, x1), (0, x2), (0, x3)] [(1, js_w ((σ 91 (js_w ((σ 87 (js_w x1)) - 3))) - 1)), (1, z3), (0, z2), (0, z1), (2, 83)] σ else none)) else none) else (if 0 ≤ js_w x1 ∧ js_w x1 < 400 then js_J E d 230 228 [(2, 83), (0, x1), (0, x2), (0, x3)] [(1, js_w (σ 94 (js_w x1))), (1, z3), (0, z2), (0, z1), (2, 83)] σ else none)) :=
  (j_iload_n q_230_184 rfl).trans <| (j_ifeq (t := 198) q_230_185 rfl).trans (js_ite ((j_aload_n q_230_198 rfl).trans <| (j_get (ji := 13) (v := (2, 87)) q_230_199 (js_Fo qy_230 qf_12_102) js_o83 rfl rfl rfl rfl).trans <| (j_iload_n q_230_202 rfl).trans <| (j_iaload q_230_203 js_o87).trans <| js_itp fun g0 => (j_iconst q_230_204).trans <| (j_cmpneB (t := 212) q_230_205 rfl ww_1).trans (js_ite ((j_lconst1 q_230_208).trans <| (j_goto (t := 228) q_230_209 rfl).trans <| rfl) ((j_aload_n q_230_212 rfl).trans <| (j_get (ji := 17) (v := (2, 91)) q_230_213 (js_Fo qy_230 qf_12_114) js_o83 rfl rfl rfl rfl).trans <| (j_aload_n q_230_216 rfl).trans <| (j_get (ji := 13) (v := (2, 87)) q_230_217 (js_Fo qy_230 qf_12_102) js_o83 rfl rfl rfl rfl).trans <| (j_iload_n q_230_220 rfl).trans <| (j_iaload q_230_221 js_o87).trans <| (if_pos g0).trans <| (j_iconst q_230_222).trans <| (j_isub q_230_223).trans <| (j_iaload q_230_224 js_o91).trans <| js_itp fun g1 => (j_iconst q_230_225).trans <| (j_isub q_230_226).trans <| (j_i2l q_230_227).trans <| rfl))) ((j_aload_n q_230_188 rfl).trans <| (j_get (ji := 20) (v := (2, 94)) q_230_189 (js_Fo qy_230 qf_12_126) js_o83 rfl rfl rfl rfl).trans <| (j_iload_n q_230_192 rfl).trans <| (j_iaload q_230_193 js_o94).trans <| js_itp fun g0 => (j_i2l q_230_194).trans <| (j_goto (t := 228) q_230_195 rfl).trans <| rfl))
theorem b_230_228 {E : js_E} {d : Nat} {σ : js_S} {x1 x2 x3 z1 z2 z3 z4 : Int} : js_J E d 230 228 [(2, 83), (0, x1), (0, x2), (0, x3)] [(1, z4), (1, z3), (0, z2), (0, z1), (2, 83)] σ = (if 0 ≤ js_w x1 ∧ js_w x1 < 400 then js_J E d 230 236 [(2, 83), (0, x1), (0, x2), (0, x3)] [(0, 0), (0, 0), (0, σ 94 (js_w x1)), (1, z4), (1, z3), (0, z2), (0, z1), (2, 83)] σ else none) :=
  (j_aload_n q_230_228 rfl).trans <| (j_get (ji := 20) (v := (2, 94)) q_230_229 (js_Fo qy_230 qf_12_126) js_o83 rfl rfl rfl rfl).trans <| (j_iload_n q_230_232 rfl).trans <| (j_iaload q_230_233 js_o94).trans <| js_itp fun g0 => (j_iconst q_230_234).trans <| (j_iconst q_230_235).trans <| rfl
theorem k_230_236 {E : js_E} {d : Nat} {σ σ2 : js_S} {x1 x2 x3 z1 z2 z3 z4 z5 z6 z7 : Int} {v : Int} (hd : 1 ≤ d) (hz : js_J E (d - 1) 217 0 [(2, 83), (0, z1), (0, z2), (1, z3), (9, 0), (1, z4), (9, 0), (0, z5), (0, z6), (0, z7), (9, 0)] [] σ = js_r E (0, v) σ2) : js_J E d 230 236 [(2, 83), (0, x1), (0, x2), (0, x3)] [(0, z7), (0, z6), (0, z5), (1, z4), (1, z3), (0, z2), (0, z1), (2, 83)] σ = js_J E d 230 239 [(2, 83), (0, x1), (0, x2), (0, x3)] [(0, v)] σ2 :=
  j_call (m := 1) (js_caV q_230_236 (js_Mo qy_230 qm_12_208)) (js_agV (av := [(0, z1), (0, z2), (1, z3), (1, z4), (0, z5), (0, z6), (0, z7)]) (st := []) rfl rfl js_o83 rfl) rfl rfl (by rw [ql_217]; exact Nat.le_of_ble_eq_true rfl) (Nat.le_of_ble_eq_true rfl) hd hz
theorem b_230_239 {E : js_E} {d : Nat} {σ : js_S} {x1 x2 x3 z0 : Int} : js_J E d 230 239 [(2, 83), (0, x1), (0, x2), (0, x3)] [(0, z0)] σ = js_r E (0, z0) σ :=
  j_ireturn q_230_239 qr_230
theorem k_230_274 {E : js_E} {d : Nat} {σ σ2 : js_S} {x1 x2 z1 z2 z3 z4 z5 z6 z7 : Int} {v : Int} (hd : 1 ≤ d) (hz : js_J E (d - 1) 217 0 [(2, 83), (0, z1), (0, z2), (1, z3), (9, 0), (1, z4), (9, 0), (0, z5), (0, z6), (0, z7), (9, 0)] [] σ = js_r E (0, v) σ2) : js_J E d 230 274 [(2, 83), (0, x1), (0, x2), (9, 0)] [(0, z7), (0, z6), (0, z5), (1, z4), (1, z3), (0, z2), (0, z1), (2, 83)] σ = js_J E d 230 277 [(2, 83), (0, x1), (0, x2), (9, 0)] [(0, v)] σ2 :=
  j_call (m := 1) (js_caV q_230_274 (js_Mo qy_230 qm_12_208)) (js_agV (av := [(0, z1), (0, z2), (1, z3), (1, z4), (0, z5), (0, z6), (0, z7)]) (st := []) rfl rfl js_o83 rfl) rfl rfl (by rw [ql_217]; exact Nat.le_of_ble_eq_true rfl) (Nat.le_of_ble_eq_true rfl) hd hz
theorem b_230_277 {E : js_E} {d : Nat} {σ : js_S} {x1 x2 z0 : Int} : js_J E d 230 277 [(2, 83), (0, x1), (0, x2), (9, 0)] [(0, z0)] σ = js_r E (0, z0) σ :=
  j_ireturn q_230_277 qr_230
theorem k_230_303 {E : js_E} {d : Nat} {σ σ2 : js_S} {x1 x2 z1 z2 z3 z4 z5 z7 : Int} {v : Int} (hd : 1 ≤ d) (hz : js_J E (d - 1) 233 0 [(2, 83), (0, z7), (9, 0)] [] σ = js_r E (0, v) σ2) : js_J E d 230 303 [(2, 83), (0, x1), (0, x2), (9, 0)] [(0, z7), (2, 83), (0, z5), (1, z4), (1, z3), (0, z2), (0, z1), (2, 83)] σ = js_J E d 230 306 [(2, 83), (0, x1), (0, x2), (9, 0)] [(0, v), (0, z5), (1, z4), (1, z3), (0, z2), (0, z1), (2, 83)] σ2 :=
  j_call (m := 1) (js_caV q_230_303 (js_Mo qy_230 qm_12_277)) (js_agV (av := [(0, z7)]) (st := [(0, z5), (1, z4), (1, z3), (0, z2), (0, z1), (2, 83)]) rfl rfl js_o83 rfl) rfl rfl (by rw [ql_233]; exact Nat.le_of_ble_eq_true rfl) (Nat.le_of_ble_eq_true rfl) hd hz
theorem b_230_306 {E : js_E} {d : Nat} {σ : js_S} {x1 x2 z1 z2 z3 z4 z5 z6 : Int} : js_J E d 230 306 [(2, 83), (0, x1), (0, x2), (9, 0)] [(0, z6), (0, z5), (1, z4), (1, z3), (0, z2), (0, z1), (2, 83)] σ = js_J E d 230 307 [(2, 83), (0, x1), (0, x2), (9, 0)] [(0, 0), (0, z6), (0, z5), (1, z4), (1, z3), (0, z2), (0, z1), (2, 83)] σ :=
  (j_iconst q_230_306).trans <| rfl
theorem k_230_307 {E : js_E} {d : Nat} {σ σ2 : js_S} {x1 x2 z1 z2 z3 z4 z5 z6 z7 : Int} {v : Int} (hd : 1 ≤ d) (hz : js_J E (d - 1) 217 0 [(2, 83), (0, z1), (0, z2), (1, z3), (9, 0), (1, z4), (9, 0), (0, z5), (0, z6), (0, z7), (9, 0)] [] σ = js_r E (0, v) σ2) : js_J E d 230 307 [(2, 83), (0, x1), (0, x2), (9, 0)] [(0, z7), (0, z6), (0, z5), (1, z4), (1, z3), (0, z2), (0, z1), (2, 83)] σ = js_J E d 230 310 [(2, 83), (0, x1), (0, x2), (9, 0)] [(0, v)] σ2 :=
  j_call (m := 1) (js_caV q_230_307 (js_Mo qy_230 qm_12_208)) (js_agV (av := [(0, z1), (0, z2), (1, z3), (1, z4), (0, z5), (0, z6), (0, z7)]) (st := []) rfl rfl js_o83 rfl) rfl rfl (by rw [ql_217]; exact Nat.le_of_ble_eq_true rfl) (Nat.le_of_ble_eq_true rfl) hd hz
theorem b_230_310 {E : js_E} {d : Nat} {σ : js_S} {x1 x2 z0 : Int} : js_J E d 230 310 [(2, 83), (0, x1), (0, x2), (9, 0)] [(0, z0)] σ = js_r E (0, z0) σ :=
  j_ireturn q_230_310 qr_230
-- 231: VitalTwinModel.behind ()I
theorem b_231_0 {E : js_E} {d : Nat} {σ : js_S} : js_J E d 231 0 [(2, 83), (9, 0), (9, 0)] [] σ = js_J E d 231 7 [(2, 83), (0, σ 83 7), (0, 1)] [] σ :=
  (j_aload_n q_231_0 rfl).trans <| (j_get (ji := 7) (v := (0, σ 83 7)) q_231_1 (js_Fo qy_231 qf_12_28) js_o83 rfl rfl rfl rfl).trans <| (j_istore_n (l2 := [(2, 83), (0, σ 83 7), (9, 0)]) q_231_4 rfl (Nat.le_of_ble_eq_true rfl)).trans <| (j_iconst q_231_5).trans <| (j_istore_n (l2 := [(2, 83), (0, σ 83 7), (0, 1)]) q_231_6 rfl (Nat.le_of_ble_eq_true rfl)).trans <| rfl
theorem b_231_7 {E : js_E} {d : Nat} {σ : js_S} {x1 x2 : Int} : js_J E d 231 7 [(2, 83), (0, x1), (0, x2)] [] σ = (if js_w x2 = 0 then js_J E d 231 103 [(2, 83), (0, x1), (0, x2)] [(0, x1), (2, 83)] σ else js_J E d 231 11 [(2, 83), (0, x1), (0, x2)] [] σ) :=
  (j_iload_n q_231_7 rfl).trans <| (j_ifeq (t := 101) q_231_8 rfl).trans (js_ite ((j_aload_n q_231_101 rfl).trans <| (j_iload_n q_231_102 rfl).trans <| rfl) (rfl))
theorem b_231_11 {E : js_E} {d : Nat} {σ : js_S} {x1 x2 : Int} : js_J E d 231 11 [(2, 83), (0, x1), (0, x2)] [] σ = (if js_w x1 < js_w (σ 83 4) then js_J E d 231 21 [(2, 83), (0, x1), (0, x2)] [(0, x1), (2, 83)] σ else js_J E d 231 45 [(2, 83), (0, x1), (0, x2)] [] σ) :=
  (j_iload_n q_231_11 rfl).trans <| (j_aload_n q_231_12 rfl).trans <| (j_get (ji := 4) (v := (0, σ 83 4)) q_231_13 (js_Fo qy_231 qf_12_19) js_o83 rfl rfl rfl rfl).trans <| (j_cmpge (t := 45) q_231_16 rfl).trans (js_ite ((j_aload_n q_231_19 rfl).trans <| (j_iload_n q_231_20 rfl).trans <| rfl) (rfl))
theorem k_231_21 {E : js_E} {d : Nat} {σ σ2 : js_S} {x1 x2 z1 : Int} {v : Int} (hd : 1 ≤ d) (hz : js_J E (d - 1) 192 0 [(2, 83), (0, z1)] [] σ = js_r E (0, v) σ2) : js_J E d 231 21 [(2, 83), (0, x1), (0, x2)] [(0, z1), (2, 83)] σ = js_J E d 231 24 [(2, 83), (0, x1), (0, x2)] [(0, v)] σ2 :=
  j_call (m := 0) (js_caV q_231_21 (js_Mo qy_231 qm_12_31)) (js_agV (av := [(0, z1)]) (st := []) rfl rfl js_o83 rfl) rfl rfl (by rw [ql_192]; exact Nat.le_of_ble_eq_true rfl) (Nat.le_of_ble_eq_true rfl) hd hz
theorem b_231_24 {E : js_E} {d : Nat} {σ : js_S} {x1 x2 z0 : Int} : js_J E d 231 24 [(2, 83), (0, x1), (0, x2)] [(0, z0)] σ = (if js_w z0 = 32 then js_J E d 231 39 [(2, 83), (0, x1), (0, x2)] [] σ else js_J E d 231 31 [(2, 83), (0, x1), (0, x2)] [(0, x1), (2, 83)] σ) :=
  (j_bi q_231_24 rfl).trans <| (j_cmpeqB (t := 39) q_231_26 rfl ww_32).trans (js_ite (rfl) ((j_aload_n q_231_29 rfl).trans <| (j_iload_n q_231_30 rfl).trans <| rfl))
theorem k_231_31 {E : js_E} {d : Nat} {σ σ2 : js_S} {x1 x2 z1 : Int} {v : Int} (hd : 1 ≤ d) (hz : js_J E (d - 1) 192 0 [(2, 83), (0, z1)] [] σ = js_r E (0, v) σ2) : js_J E d 231 31 [(2, 83), (0, x1), (0, x2)] [(0, z1), (2, 83)] σ = js_J E d 231 34 [(2, 83), (0, x1), (0, x2)] [(0, v)] σ2 :=
  j_call (m := 0) (js_caV q_231_31 (js_Mo qy_231 qm_12_31)) (js_agV (av := [(0, z1)]) (st := []) rfl rfl js_o83 rfl) rfl rfl (by rw [ql_192]; exact Nat.le_of_ble_eq_true rfl) (Nat.le_of_ble_eq_true rfl) hd hz
theorem b_231_34 {E : js_E} {d : Nat} {σ : js_S} {x1 x2 z0 : Int} : js_J E d 231 34 [(2, 83), (0, x1), (0, x2)] [(0, z0)] σ = (if js_w z0 = 10 then js_J E d 231 39 [(2, 83), (0, x1), (0, x2)] [] σ else js_J E d 231 45 [(2, 83), (0, x1), (0, x2)] [] σ) :=
  (j_bi q_231_34 rfl).trans <| (j_cmpneB (t := 45) q_231_36 rfl ww_10).trans (js_ite (rfl) (rfl))
theorem b_231_39 {E : js_E} {d : Nat} {σ : js_S} {x1 x2 : Int} : js_J E d 231 39 [(2, 83), (0, x1), (0, x2)] [] σ = js_J E d 231 11 [(2, 83), (0, x1 + 1), (0, x2)] [] σ :=
  (j_iinc (l2 := [(2, 83), (0, x1 + 1), (0, x2)]) q_231_39 rfl rfl).trans <| (j_goto (t := 11) q_231_42 rfl).trans <| rfl
theorem b_231_45 {E : js_E} {d : Nat} {σ : js_S} {x1 x2 : Int} : js_J E d 231 45 [(2, 83), (0, x1), (0, x2)] [] σ = js_J E d 231 47 [(2, 83), (0, x1), (0, x2)] [(0, x1), (2, 83)] σ :=
  (j_aload_n q_231_45 rfl).trans <| (j_iload_n q_231_46 rfl).trans <| rfl
theorem k_231_47 {E : js_E} {d : Nat} {σ σ2 : js_S} {x1 x2 z1 : Int} {v : Int} (hd : 1 ≤ d) (hz : js_J E (d - 1) 192 0 [(2, 83), (0, z1)] [] σ = js_r E (0, v) σ2) : js_J E d 231 47 [(2, 83), (0, x1), (0, x2)] [(0, z1), (2, 83)] σ = js_J E d 231 50 [(2, 83), (0, x1), (0, x2)] [(0, v)] σ2 :=
  j_call (m := 0) (js_caV q_231_47 (js_Mo qy_231 qm_12_31)) (js_agV (av := [(0, z1)]) (st := []) rfl rfl js_o83 rfl) rfl rfl (by rw [ql_192]; exact Nat.le_of_ble_eq_true rfl) (Nat.le_of_ble_eq_true rfl) hd hz
theorem b_231_50 {E : js_E} {d : Nat} {σ : js_S} {x1 x2 z0 : Int} : js_J E d 231 50 [(2, 83), (0, x1), (0, x2)] [(0, z0)] σ = (if js_w z0 = 47 then js_J E d 231 59 [(2, 83), (0, x1), (0, x2)] [(0, x1 + 1), (2, 83)] σ else js_J E d 231 71 [(2, 83), (0, x1), (0, x2)] [] σ) :=
  (j_bi q_231_50 rfl).trans <| (j_cmpneB (t := 71) q_231_52 rfl ww_47).trans (js_ite ((j_aload_n q_231_55 rfl).trans <| (j_iload_n q_231_56 rfl).trans <| (j_iconst q_231_57).trans <| (j_iadd q_231_58).trans <| rfl) (rfl))
theorem k_231_59 {E : js_E} {d : Nat} {σ σ2 : js_S} {x1 x2 z1 : Int} {v : Int} (hd : 1 ≤ d) (hz : js_J E (d - 1) 192 0 [(2, 83), (0, z1)] [] σ = js_r E (0, v) σ2) : js_J E d 231 59 [(2, 83), (0, x1), (0, x2)] [(0, z1), (2, 83)] σ = js_J E d 231 62 [(2, 83), (0, x1), (0, x2)] [(0, v)] σ2 :=
  j_call (m := 0) (js_caV q_231_59 (js_Mo qy_231 qm_12_31)) (js_agV (av := [(0, z1)]) (st := []) rfl rfl js_o83 rfl) rfl rfl (by rw [ql_192]; exact Nat.le_of_ble_eq_true rfl) (Nat.le_of_ble_eq_true rfl) hd hz
theorem b_231_62 {E : js_E} {d : Nat} {σ : js_S} {x1 x2 z0 : Int} : js_J E d 231 62 [(2, 83), (0, x1), (0, x2)] [(0, z0)] σ = (if js_w z0 = 47 then js_J E d 231 72 [(2, 83), (0, x1), (0, x2)] [(0, 1)] σ else js_J E d 231 71 [(2, 83), (0, x1), (0, x2)] [] σ) :=
  (j_bi q_231_62 rfl).trans <| (j_cmpneB (t := 71) q_231_64 rfl ww_47).trans (js_ite ((j_iconst q_231_67).trans <| (j_goto (t := 72) q_231_68 rfl).trans <| rfl) (rfl))
theorem b_231_71 {E : js_E} {d : Nat} {σ : js_S} {x1 x2 : Int} : js_J E d 231 71 [(2, 83), (0, x1), (0, x2)] [] σ = js_J E d 231 72 [(2, 83), (0, x1), (0, x2)] [(0, 0)] σ :=
  (j_iconst q_231_71).trans <| rfl
theorem b_231_72 {E : js_E} {d : Nat} {σ : js_S} {x1 x2 z0 : Int} : js_J E d 231 72 [(2, 83), (0, x1), (0, x2)] [(0, z0)] σ = js_J E d 231 73 [(2, 83), (0, x1), (0, z0)] [] σ :=
  (j_istore_n (l2 := [(2, 83), (0, x1), (0, z0)]) q_231_72 rfl (Nat.le_of_ble_eq_true rfl)).trans <| rfl
theorem b_231_73 {E : js_E} {d : Nat} {σ : js_S} {x1 x2 : Int} : js_J E d 231 73 [(2, 83), (0, x1), (0, x2)] [] σ = (if js_w x2 = 0 then js_J E d 231 7 [(2, 83), (0, x1), (0, x2)] [] σ else (if js_w x1 < js_w (σ 83 4) then js_J E d 231 87 [(2, 83), (0, x1), (0, x2)] [(0, x1), (2, 83)] σ else js_J E d 231 7 [(2, 83), (0, x1), (0, x2)] [] σ)) :=
  (j_iload_n q_231_73 rfl).trans <| (j_ifeq (t := 7) q_231_74 rfl).trans (js_ite (rfl) ((j_iload_n q_231_77 rfl).trans <| (j_aload_n q_231_78 rfl).trans <| (j_get (ji := 4) (v := (0, σ 83 4)) q_231_79 (js_Fo qy_231 qf_12_19) js_o83 rfl rfl rfl rfl).trans <| (j_cmpge (t := 7) q_231_82 rfl).trans (js_ite ((j_aload_n q_231_85 rfl).trans <| (j_iload_n q_231_86 rfl).trans <| rfl) (rfl))))
theorem k_231_87 {E : js_E} {d : Nat} {σ σ2 : js_S} {x1 x2 z1 : Int} {v : Int} (hd : 1 ≤ d) (hz : js_J E (d - 1) 192 0 [(2, 83), (0, z1)] [] σ = js_r E (0, v) σ2) : js_J E d 231 87 [(2, 83), (0, x1), (0, x2)] [(0, z1), (2, 83)] σ = js_J E d 231 90 [(2, 83), (0, x1), (0, x2)] [(0, v)] σ2 :=
  j_call (m := 0) (js_caV q_231_87 (js_Mo qy_231 qm_12_31)) (js_agV (av := [(0, z1)]) (st := []) rfl rfl js_o83 rfl) rfl rfl (by rw [ql_192]; exact Nat.le_of_ble_eq_true rfl) (Nat.le_of_ble_eq_true rfl) hd hz
theorem b_231_90 {E : js_E} {d : Nat} {σ : js_S} {x1 x2 z0 : Int} : js_J E d 231 90 [(2, 83), (0, x1), (0, x2)] [(0, z0)] σ = (if js_w z0 = 10 then js_J E d 231 7 [(2, 83), (0, x1), (0, x2)] [] σ else js_J E d 231 73 [(2, 83), (0, x1 + 1), (0, x2)] [] σ) :=
  (j_bi q_231_90 rfl).trans <| (j_cmpeqB (t := 7) q_231_92 rfl ww_10).trans (js_ite (rfl) ((j_iinc (l2 := [(2, 83), (0, x1 + 1), (0, x2)]) q_231_95 rfl rfl).trans <| (j_goto (t := 73) q_231_98 rfl).trans <| rfl))
theorem k_231_103 {E : js_E} {d : Nat} {σ σ2 : js_S} {x1 x2 z1 : Int} {v : Int} (hd : 1 ≤ d) (hz : js_J E (d - 1) 192 0 [(2, 83), (0, z1)] [] σ = js_r E (0, v) σ2) : js_J E d 231 103 [(2, 83), (0, x1), (0, x2)] [(0, z1), (2, 83)] σ = js_J E d 231 106 [(2, 83), (0, x1), (0, x2)] [(0, v)] σ2 :=
  j_call (m := 0) (js_caV q_231_103 (js_Mo qy_231 qm_12_31)) (js_agV (av := [(0, z1)]) (st := []) rfl rfl js_o83 rfl) rfl rfl (by rw [ql_192]; exact Nat.le_of_ble_eq_true rfl) (Nat.le_of_ble_eq_true rfl) hd hz
theorem b_231_106 {E : js_E} {d : Nat} {σ : js_S} {x1 x2 z0 : Int} : js_J E d 231 106 [(2, 83), (0, x1), (0, x2)] [(0, z0)] σ = js_r E (0, z0) σ :=
  j_ireturn q_231_106 qr_231
