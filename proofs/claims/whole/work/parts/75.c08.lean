/-! part 75.c08: block equations of the class's (and the law's helpers') methods 138 to 154 (printed by wip/whole/tools/gen71.py) -/
theorem qy_140 : vt_O 140 = 9 := by decide +kernel
theorem qr_140 : vt_rc.getD 140 0 = 0 := by decide +kernel
theorem ql_140 : vt_ml.getD 140 0 = 3 := by decide +kernel
theorem qy_142 : vt_O 142 = 6 := by decide +kernel
theorem qr_142 : vt_rc.getD 142 0 = 0 := by decide +kernel
theorem ql_142 : vt_ml.getD 142 0 = 5 := by decide +kernel
theorem qy_145 : vt_O 145 = 9 := by decide +kernel
theorem qr_145 : vt_rc.getD 145 0 = 0 := by decide +kernel
theorem ql_145 : vt_ml.getD 145 0 = 3 := by decide +kernel
theorem qy_162 : vt_O 162 = 9 := by decide +kernel
theorem qr_162 : vt_rc.getD 162 0 = 0 := by decide +kernel
theorem ql_162 : vt_ml.getD 162 0 = 3 := by decide +kernel
theorem qy_163 : vt_O 163 = 6 := by decide +kernel
theorem qr_163 : vt_rc.getD 163 0 = 0 := by decide +kernel
theorem ql_163 : vt_ml.getD 163 0 = 8 := by decide +kernel
theorem qy_146 : vt_O 146 = 9 := by decide +kernel
theorem qr_146 : vt_rc.getD 146 0 = 4 := by decide +kernel
theorem ql_146 : vt_ml.getD 146 0 = 2 := by decide +kernel
theorem qy_164 : vt_O 164 = 3 := by decide +kernel
theorem qr_164 : vt_rc.getD 164 0 = 0 := by decide +kernel
theorem ql_164 : vt_ml.getD 164 0 = 5 := by decide +kernel
theorem qy_165 : vt_O 165 = 6 := by decide +kernel
theorem qr_165 : vt_rc.getD 165 0 = 1 := by decide +kernel
theorem ql_165 : vt_ml.getD 165 0 = 5 := by decide +kernel
theorem qy_141 : vt_O 141 = 3 := by decide +kernel
theorem qr_141 : vt_rc.getD 141 0 = 0 := by decide +kernel
theorem ql_141 : vt_ml.getD 141 0 = 3 := by decide +kernel
theorem qy_143 : vt_O 143 = 9 := by decide +kernel
theorem qr_143 : vt_rc.getD 143 0 = 0 := by decide +kernel
theorem ql_143 : vt_ml.getD 143 0 = 2 := by decide +kernel
theorem qy_144 : vt_O 144 = 3 := by decide +kernel
theorem qr_144 : vt_rc.getD 144 0 = 0 := by decide +kernel
theorem ql_144 : vt_ml.getD 144 0 = 2 := by decide +kernel
theorem qy_147 : vt_O 147 = 3 := by decide +kernel
theorem qr_147 : vt_rc.getD 147 0 = 1 := by decide +kernel
theorem ql_147 : vt_ml.getD 147 0 = 5 := by decide +kernel
theorem qy_159 : vt_O 159 = 9 := by decide +kernel
theorem qr_159 : vt_rc.getD 159 0 = 0 := by decide +kernel
theorem ql_159 : vt_ml.getD 159 0 = 2 := by decide +kernel
theorem qy_160 : vt_O 160 = 9 := by decide +kernel
theorem qr_160 : vt_rc.getD 160 0 = 2 := by decide +kernel
theorem ql_160 : vt_ml.getD 160 0 = 4 := by decide +kernel
theorem qy_148 : vt_O 148 = 3 := by decide +kernel
theorem qr_148 : vt_rc.getD 148 0 = 3 := by decide +kernel
theorem ql_148 : vt_ml.getD 148 0 = 2 := by decide +kernel
theorem qy_149 : vt_O 149 = 3 := by decide +kernel
theorem qr_149 : vt_rc.getD 149 0 = 1 := by decide +kernel
theorem ql_149 : vt_ml.getD 149 0 = 4 := by decide +kernel
theorem qy_151 : vt_O 151 = 3 := by decide +kernel
theorem qr_151 : vt_rc.getD 151 0 = 1 := by decide +kernel
theorem ql_151 : vt_ml.getD 151 0 = 4 := by decide +kernel
theorem qy_152 : vt_O 152 = 3 := by decide +kernel
theorem qr_152 : vt_rc.getD 152 0 = 1 := by decide +kernel
theorem ql_152 : vt_ml.getD 152 0 = 3 := by decide +kernel
theorem qy_155 : vt_O 155 = 3 := by decide +kernel
theorem qr_155 : vt_rc.getD 155 0 = 1 := by decide +kernel
theorem ql_155 : vt_ml.getD 155 0 = 2 := by decide +kernel
theorem qy_150 : vt_O 150 = 3 := by decide +kernel
theorem qr_150 : vt_rc.getD 150 0 = 1 := by decide +kernel
theorem ql_150 : vt_ml.getD 150 0 = 6 := by decide +kernel
theorem qy_153 : vt_O 153 = 3 := by decide +kernel
theorem qr_153 : vt_rc.getD 153 0 = 1 := by decide +kernel
theorem ql_153 : vt_ml.getD 153 0 = 2 := by decide +kernel
theorem qy_154 : vt_O 154 = 3 := by decide +kernel
theorem qr_154 : vt_rc.getD 154 0 = 1 := by decide +kernel
theorem ql_154 : vt_ml.getD 154 0 = 1 := by decide +kernel
theorem q_138_0 : js_I 138 0 = some (.aload_n 0, 1) := by decide +kernel
theorem q_138_1 : js_I 138 1 = some (.getfield 43, 3) := by decide +kernel
theorem q_138_4 : js_I 138 4 = some (.ifCond .eq 31, 3) := by decide +kernel
theorem q_138_35 : js_I 138 35 = some (.iconst 0, 1) := by decide +kernel
theorem q_138_36 : js_I 138 36 = some (.ireturn, 1) := by decide +kernel
theorem q_138_7 : js_I 138 7 = some (.aload_n 0, 1) := by decide +kernel
theorem q_138_8 : js_I 138 8 = some (.getfield 20, 3) := by decide +kernel
theorem q_138_11 : js_I 138 11 = some (.getfield 110, 3) := by decide +kernel
theorem q_138_14 : js_I 138 14 = some (.ifCond .ne 21, 3) := by decide +kernel
theorem q_138_17 : js_I 138 17 = some (.aload_n 0, 1) := by decide +kernel
theorem q_138_18 : js_I 138 18 = some (.getfield 90, 3) := by decide +kernel
theorem q_138_21 : js_I 138 21 = some (.ifCond .ne 14, 3) := by decide +kernel
theorem q_138_24 : js_I 138 24 = some (.aload_n 0, 1) := by decide +kernel
theorem q_138_25 : js_I 138 25 = some (.getfield 96, 3) := by decide +kernel
theorem q_138_28 : js_I 138 28 = some (.ifCond .ne 7, 3) := by decide +kernel
theorem q_138_31 : js_I 138 31 = some (.iconst 1, 1) := by decide +kernel
theorem q_138_32 : js_I 138 32 = some (.goto 4, 3) := by decide +kernel
theorem q_139_0 : js_I 139 0 = some (.aload_n 0, 1) := by decide +kernel
theorem q_139_1 : js_I 139 1 = some (.getfield 24, 3) := by decide +kernel
theorem q_139_4 : js_I 139 4 = some (.aload_n 0, 1) := by decide +kernel
theorem q_139_5 : js_I 139 5 = some (.getfield 20, 3) := by decide +kernel
theorem q_139_8 : js_I 139 8 = some (.aload_n 0, 1) := by decide +kernel
theorem q_139_9 : js_I 139 9 = some (.getfield 39, 3) := by decide +kernel
theorem q_139_12 : js_I 139 12 = some (.getfield 77, 3) := by decide +kernel
theorem q_139_15 : js_I 139 15 = some (.invokevirtual 166, 3) := by decide +kernel
theorem q_139_18 : js_I 139 18 = some (.aload_n 0, 1) := by decide +kernel
theorem q_139_19 : js_I 139 19 = some (.aload_n 0, 1) := by decide +kernel
theorem q_139_20 : js_I 139 20 = some (.getfield 24, 3) := by decide +kernel
theorem q_139_23 : js_I 139 23 = some (.invokevirtual 116, 3) := by decide +kernel
theorem q_139_26 : js_I 139 26 = some (.iconst 0, 1) := by decide +kernel
theorem q_139_27 : js_I 139 27 = some (.istore 5, 2) := by decide +kernel
theorem q_139_29 : js_I 139 29 = some (.iload 5, 2) := by decide +kernel
theorem q_139_31 : js_I 139 31 = some (.ldc 170, 2) := by decide +kernel
theorem q_139_33 : js_I 139 33 = some (.if_icmp .ge 36, 3) := by decide +kernel
theorem q_139_36 : js_I 139 36 = some (.iload 5, 2) := by decide +kernel
theorem q_139_38 : js_I 139 38 = some (.iload_n 3, 1) := by decide +kernel
theorem q_139_39 : js_I 139 39 = some (.if_icmp .ge 30, 3) := by decide +kernel
theorem q_139_42 : js_I 139 42 = some (.aload_n 0, 1) := by decide +kernel
theorem q_139_43 : js_I 139 43 = some (.getfield 24, 3) := by decide +kernel
theorem q_139_46 : js_I 139 46 = some (.getfield 110, 3) := by decide +kernel
theorem q_139_49 : js_I 139 49 = some (.ifCond .eq 20, 3) := by decide +kernel
theorem q_139_52 : js_I 139 52 = some (.aload_n 0, 1) := by decide +kernel
theorem q_139_53 : js_I 139 53 = some (.getfield 24, 3) := by decide +kernel
theorem q_139_56 : js_I 139 56 = some (.aload_n 0, 1) := by decide +kernel
theorem q_139_57 : js_I 139 57 = some (.getfield 39, 3) := by decide +kernel
theorem q_139_60 : js_I 139 60 = some (.invokevirtual 123, 3) := by decide +kernel
theorem q_139_63 : js_I 139 63 = some (.iinc 5 1, 3) := by decide +kernel
theorem q_139_66 : js_I 139 66 = some (.goto (-37), 3) := by decide +kernel
theorem q_139_69 : js_I 139 69 = some (.aload_n 0, 1) := by decide +kernel
theorem q_139_70 : js_I 139 70 = some (.getfield 24, 3) := by decide +kernel
theorem q_139_73 : js_I 139 73 = some (.getfield 110, 3) := by decide +kernel
theorem q_139_76 : js_I 139 76 = some (.ifCond .eq 7, 3) := by decide +kernel
theorem q_139_83 : js_I 139 83 = some (.iconst 0, 1) := by decide +kernel
theorem q_139_79 : js_I 139 79 = some (.iconst 1, 1) := by decide +kernel
theorem q_139_80 : js_I 139 80 = some (.goto 4, 3) := by decide +kernel
theorem q_139_84 : js_I 139 84 = some (.istore 5, 2) := by decide +kernel
theorem q_139_86 : js_I 139 86 = some (.iload 5, 2) := by decide +kernel
theorem q_139_88 : js_I 139 88 = some (.ifCond .eq 21, 3) := by decide +kernel
theorem q_139_91 : js_I 139 91 = some (.aload_n 0, 1) := by decide +kernel
theorem q_139_92 : js_I 139 92 = some (.getfield 27, 3) := by decide +kernel
theorem q_139_95 : js_I 139 95 = some (.aload_n 0, 1) := by decide +kernel
theorem q_139_96 : js_I 139 96 = some (.getfield 24, 3) := by decide +kernel
theorem q_139_99 : js_I 139 99 = some (.aload_n 0, 1) := by decide +kernel
theorem q_139_100 : js_I 139 100 = some (.getfield 39, 3) := by decide +kernel
theorem q_139_103 : js_I 139 103 = some (.getfield 77, 3) := by decide +kernel
theorem q_139_106 : js_I 139 106 = some (.invokevirtual 166, 3) := by decide +kernel
theorem q_139_109 : js_I 139 109 = some (.aload_n 0, 1) := by decide +kernel
theorem q_139_110 : js_I 139 110 = some (.getfield 24, 3) := by decide +kernel
theorem q_139_113 : js_I 139 113 = some (.aload_n 0, 1) := by decide +kernel
theorem q_139_114 : js_I 139 114 = some (.getfield 39, 3) := by decide +kernel
theorem q_139_117 : js_I 139 117 = some (.invokevirtual 171, 3) := by decide +kernel
theorem q_139_120 : js_I 139 120 = some (.aload_n 0, 1) := by decide +kernel
theorem q_139_121 : js_I 139 121 = some (.getfield 24, 3) := by decide +kernel
theorem q_139_124 : js_I 139 124 = some (.getfield 144, 3) := by decide +kernel
theorem q_139_127 : js_I 139 127 = some (.iconst 4, 1) := by decide +kernel
theorem q_139_128 : js_I 139 128 = some (.if_icmp .eq 5, 3) := by decide +kernel
theorem q_139_133 : js_I 139 133 = some (.iload 5, 2) := by decide +kernel
theorem q_139_135 : js_I 139 135 = some (.ifCond .ne 15, 3) := by decide +kernel
theorem q_139_138 : js_I 139 138 = some (.iload 4, 2) := by decide +kernel
theorem q_139_140 : js_I 139 140 = some (.ifCond .ne 8, 3) := by decide +kernel
theorem q_139_143 : js_I 139 143 = some (.bipush 64, 2) := by decide +kernel
theorem q_139_145 : js_I 139 145 = some (.goto 4, 3) := by decide +kernel
theorem q_139_149 : js_I 139 149 = some (.ireturn, 1) := by decide +kernel
theorem q_139_148 : js_I 139 148 = some (.iconst 0, 1) := by decide +kernel
theorem q_139_150 : js_I 139 150 = some (.aload_n 0, 1) := by decide +kernel
theorem q_139_151 : js_I 139 151 = some (.aload_n 0, 1) := by decide +kernel
theorem q_139_152 : js_I 139 152 = some (.getfield 24, 3) := by decide +kernel
theorem q_139_155 : js_I 139 155 = some (.aload_n 0, 1) := by decide +kernel
theorem q_139_156 : js_I 139 156 = some (.getfield 33, 3) := by decide +kernel
theorem q_139_159 : js_I 139 159 = some (.iconst 0, 1) := by decide +kernel
theorem q_139_160 : js_I 139 160 = some (.invokevirtual 150, 3) := by decide +kernel
theorem q_139_131 : js_I 139 131 = some (.iconst (-1), 1) := by decide +kernel
theorem q_139_132 : js_I 139 132 = some (.ireturn, 1) := by decide +kernel
theorem q_139_163 : js_I 139 163 = some (.iconst 0, 1) := by decide +kernel
theorem q_139_164 : js_I 139 164 = some (.istore 6, 2) := by decide +kernel
theorem q_139_166 : js_I 139 166 = some (.iconst 0, 1) := by decide +kernel
theorem q_139_167 : js_I 139 167 = some (.istore 7, 2) := by decide +kernel
theorem q_139_169 : js_I 139 169 = some (.iload 7, 2) := by decide +kernel
theorem q_139_171 : js_I 139 171 = some (.bipush 64, 2) := by decide +kernel
theorem q_139_173 : js_I 139 173 = some (.if_icmp .ge 64, 3) := by decide +kernel
theorem q_139_176 : js_I 139 176 = some (.aload_n 0, 1) := by decide +kernel
theorem q_139_177 : js_I 139 177 = some (.getfield 24, 3) := by decide +kernel
theorem q_139_180 : js_I 139 180 = some (.aload_n 0, 1) := by decide +kernel
theorem q_139_181 : js_I 139 181 = some (.getfield 27, 3) := by decide +kernel
theorem q_139_184 : js_I 139 184 = some (.aload_n 0, 1) := by decide +kernel
theorem q_139_185 : js_I 139 185 = some (.getfield 39, 3) := by decide +kernel
theorem q_139_188 : js_I 139 188 = some (.getfield 77, 3) := by decide +kernel
theorem q_139_191 : js_I 139 191 = some (.invokevirtual 166, 3) := by decide +kernel
theorem q_139_237 : js_I 139 237 = some (.iload 6, 2) := by decide +kernel
theorem q_139_239 : js_I 139 239 = some (.ireturn, 1) := by decide +kernel
theorem q_139_194 : js_I 139 194 = some (.aload_n 0, 1) := by decide +kernel
theorem q_139_195 : js_I 139 195 = some (.getfield 24, 3) := by decide +kernel
theorem q_139_198 : js_I 139 198 = some (.iload_n 1, 1) := by decide +kernel
theorem q_139_199 : js_I 139 199 = some (.invokevirtual 135, 3) := by decide +kernel
theorem q_139_202 : js_I 139 202 = some (.iload_n 2, 1) := by decide +kernel
theorem q_139_203 : js_I 139 203 = some (.iload 7, 2) := by decide +kernel
theorem q_139_205 : js_I 139 205 = some (.invokevirtual 139, 3) := by decide +kernel
theorem q_139_208 : js_I 139 208 = some (.aload_n 0, 1) := by decide +kernel
theorem q_139_209 : js_I 139 209 = some (.getfield 24, 3) := by decide +kernel
theorem q_139_212 : js_I 139 212 = some (.aload_n 0, 1) := by decide +kernel
theorem q_139_213 : js_I 139 213 = some (.getfield 39, 3) := by decide +kernel
theorem q_139_216 : js_I 139 216 = some (.invokevirtual 171, 3) := by decide +kernel
theorem q_139_219 : js_I 139 219 = some (.aload_n 0, 1) := by decide +kernel
theorem q_139_220 : js_I 139 220 = some (.invokevirtual 174, 3) := by decide +kernel
theorem q_139_223 : js_I 139 223 = some (.iload 4, 2) := by decide +kernel
theorem q_139_225 : js_I 139 225 = some (.if_icmp .ne 6, 3) := by decide +kernel
theorem q_139_228 : js_I 139 228 = some (.iinc 6 1, 3) := by decide +kernel
theorem q_139_231 : js_I 139 231 = some (.iinc 7 1, 3) := by decide +kernel
theorem q_139_234 : js_I 139 234 = some (.goto (-65), 3) := by decide +kernel
theorem q_140_0 : js_I 140 0 = some (.aload_n 0, 1) := by decide +kernel
theorem q_140_1 : js_I 140 1 = some (.aload_n 1, 1) := by decide +kernel
theorem q_140_2 : js_I 140 2 = some (.getfield 25, 3) := by decide +kernel
theorem q_140_5 : js_I 140 5 = some (.putfield 25, 3) := by decide +kernel
theorem q_140_8 : js_I 140 8 = some (.aload_n 0, 1) := by decide +kernel
theorem q_140_9 : js_I 140 9 = some (.aload_n 1, 1) := by decide +kernel
theorem q_140_10 : js_I 140 10 = some (.getfield 29, 3) := by decide +kernel
theorem q_140_13 : js_I 140 13 = some (.putfield 29, 3) := by decide +kernel
theorem q_140_16 : js_I 140 16 = some (.aload_n 0, 1) := by decide +kernel
theorem q_140_17 : js_I 140 17 = some (.aload_n 1, 1) := by decide +kernel
theorem q_140_18 : js_I 140 18 = some (.getfield 32, 3) := by decide +kernel
theorem q_140_21 : js_I 140 21 = some (.putfield 32, 3) := by decide +kernel
theorem q_140_24 : js_I 140 24 = some (.aload_n 0, 1) := by decide +kernel
theorem q_140_25 : js_I 140 25 = some (.aload_n 1, 1) := by decide +kernel
theorem q_140_26 : js_I 140 26 = some (.getfield 35, 3) := by decide +kernel
theorem q_140_29 : js_I 140 29 = some (.putfield 35, 3) := by decide +kernel
theorem q_140_32 : js_I 140 32 = some (.aload_n 0, 1) := by decide +kernel
theorem q_140_33 : js_I 140 33 = some (.getfield 14, 3) := by decide +kernel
theorem q_140_36 : js_I 140 36 = some (.aload_n 1, 1) := by decide +kernel
theorem q_140_37 : js_I 140 37 = some (.getfield 14, 3) := by decide +kernel
theorem q_140_40 : js_I 140 40 = some (.iload_n 2, 1) := by decide +kernel
theorem q_140_41 : js_I 140 41 = some (.invokevirtual 42, 3) := by decide +kernel
theorem q_140_44 : js_I 140 44 = some (.aload_n 0, 1) := by decide +kernel
theorem q_140_45 : js_I 140 45 = some (.getfield 22, 3) := by decide +kernel
theorem q_140_48 : js_I 140 48 = some (.aload_n 1, 1) := by decide +kernel
theorem q_140_49 : js_I 140 49 = some (.getfield 22, 3) := by decide +kernel
theorem q_140_52 : js_I 140 52 = some (.iload_n 2, 1) := by decide +kernel
theorem q_140_53 : js_I 140 53 = some (.invokevirtual 42, 3) := by decide +kernel
theorem q_140_56 : js_I 140 56 = some (.return_, 1) := by decide +kernel
theorem q_141_0 : js_I 141 0 = some (.aload_n 0, 1) := by decide +kernel
theorem q_141_1 : js_I 141 1 = some (.aload_n 1, 1) := by decide +kernel
theorem q_141_2 : js_I 141 2 = some (.getfield 23, 3) := by decide +kernel
theorem q_141_5 : js_I 141 5 = some (.putfield 23, 3) := by decide +kernel
theorem q_141_8 : js_I 141 8 = some (.aload_n 0, 1) := by decide +kernel
theorem q_141_9 : js_I 141 9 = some (.aload_n 1, 1) := by decide +kernel
theorem q_141_10 : js_I 141 10 = some (.getfield 26, 3) := by decide +kernel
theorem q_141_13 : js_I 141 13 = some (.putfield 26, 3) := by decide +kernel
theorem q_141_16 : js_I 141 16 = some (.aload_n 0, 1) := by decide +kernel
theorem q_141_17 : js_I 141 17 = some (.aload_n 1, 1) := by decide +kernel
theorem q_141_18 : js_I 141 18 = some (.getfield 29, 3) := by decide +kernel
theorem q_141_21 : js_I 141 21 = some (.putfield 29, 3) := by decide +kernel
theorem q_141_24 : js_I 141 24 = some (.aload_n 0, 1) := by decide +kernel
theorem q_141_25 : js_I 141 25 = some (.aload_n 1, 1) := by decide +kernel
theorem q_141_26 : js_I 141 26 = some (.getfield 33, 3) := by decide +kernel
theorem q_141_29 : js_I 141 29 = some (.putfield 33, 3) := by decide +kernel
theorem q_141_32 : js_I 141 32 = some (.aload_n 1, 1) := by decide +kernel
theorem q_141_33 : js_I 141 33 = some (.getfield 9, 3) := by decide +kernel
theorem q_141_36 : js_I 141 36 = some (.iconst 0, 1) := by decide +kernel
theorem q_141_37 : js_I 141 37 = some (.aload_n 0, 1) := by decide +kernel
theorem q_141_38 : js_I 141 38 = some (.getfield 9, 3) := by decide +kernel
theorem q_141_41 : js_I 141 41 = some (.iconst 0, 1) := by decide +kernel
theorem q_141_42 : js_I 141 42 = some (.aload_n 0, 1) := by decide +kernel
theorem q_141_43 : js_I 141 43 = some (.getfield 9, 3) := by decide +kernel
theorem q_141_46 : js_I 141 46 = some (.arraylength, 1) := by decide +kernel
theorem q_141_47 : js_I 141 47 = some (.invokestatic 36, 3) := by decide +kernel
theorem q_141_50 : js_I 141 50 = some (.aload_n 1, 1) := by decide +kernel
theorem q_141_51 : js_I 141 51 = some (.getfield 15, 3) := by decide +kernel
theorem q_141_54 : js_I 141 54 = some (.iconst 0, 1) := by decide +kernel
theorem q_141_55 : js_I 141 55 = some (.aload_n 0, 1) := by decide +kernel
theorem q_141_56 : js_I 141 56 = some (.getfield 15, 3) := by decide +kernel
theorem q_141_59 : js_I 141 59 = some (.iconst 0, 1) := by decide +kernel
theorem q_141_60 : js_I 141 60 = some (.iconst 0, 1) := by decide +kernel
theorem q_141_61 : js_I 141 61 = some (.iload_n 2, 1) := by decide +kernel
theorem q_141_62 : js_I 141 62 = some (.aload_n 0, 1) := by decide +kernel
theorem q_141_63 : js_I 141 63 = some (.getfield 15, 3) := by decide +kernel
theorem q_141_66 : js_I 141 66 = some (.arraylength, 1) := by decide +kernel
theorem q_141_67 : js_I 141 67 = some (.invokestatic 42, 3) := by decide +kernel
theorem q_141_70 : js_I 141 70 = some (.invokestatic 48, 3) := by decide +kernel
theorem q_141_73 : js_I 141 73 = some (.invokestatic 36, 3) := by decide +kernel
theorem q_141_76 : js_I 141 76 = some (.return_, 1) := by decide +kernel
theorem q_142_0 : js_I 142 0 = some (.iconst 0, 1) := by decide +kernel
theorem q_142_1 : js_I 142 1 = some (.istore_n 2, 1) := by decide +kernel
theorem q_142_2 : js_I 142 2 = some (.iload_n 2, 1) := by decide +kernel
theorem q_142_3 : js_I 142 3 = some (.aload_n 0, 1) := by decide +kernel
theorem q_142_4 : js_I 142 4 = some (.getfield 39, 3) := by decide +kernel
theorem q_142_7 : js_I 142 7 = some (.getfield 47, 3) := by decide +kernel
theorem q_142_10 : js_I 142 10 = some (.if_icmp .ge 79, 3) := by decide +kernel
theorem q_142_13 : js_I 142 13 = some (.aload_n 0, 1) := by decide +kernel
theorem q_142_14 : js_I 142 14 = some (.getfield 39, 3) := by decide +kernel
theorem q_142_17 : js_I 142 17 = some (.iload_n 2, 1) := by decide +kernel
theorem q_142_18 : js_I 142 18 = some (.invokevirtual 53, 3) := by decide +kernel
theorem q_142_89 : js_I 142 89 = some (.aload_n 1, 1) := by decide +kernel
theorem q_142_90 : js_I 142 90 = some (.aload_n 0, 1) := by decide +kernel
theorem q_142_91 : js_I 142 91 = some (.getfield 39, 3) := by decide +kernel
theorem q_142_94 : js_I 142 94 = some (.getfield 130, 3) := by decide +kernel
theorem q_142_97 : js_I 142 97 = some (.invokevirtual 133, 3) := by decide +kernel
theorem q_142_21 : js_I 142 21 = some (.astore_n 3, 1) := by decide +kernel
theorem q_142_22 : js_I 142 22 = some (.aload_n 3, 1) := by decide +kernel
theorem q_142_23 : js_I 142 23 = some (.ifnull 60, 3) := by decide +kernel
theorem q_142_26 : js_I 142 26 = some (.aload_n 3, 1) := by decide +kernel
theorem q_142_27 : js_I 142 27 = some (.getfield 57, 3) := by decide +kernel
theorem q_142_30 : js_I 142 30 = some (.iconst 1, 1) := by decide +kernel
theorem q_142_31 : js_I 142 31 = some (.if_icmp .ne 52, 3) := by decide +kernel
theorem q_142_34 : js_I 142 34 = some (.aload_n 3, 1) := by decide +kernel
theorem q_142_35 : js_I 142 35 = some (.getfield 68, 3) := by decide +kernel
theorem q_142_38 : js_I 142 38 = some (.istore 4, 2) := by decide +kernel
theorem q_142_40 : js_I 142 40 = some (.iload 4, 2) := by decide +kernel
theorem q_142_42 : js_I 142 42 = some (.aload_n 3, 1) := by decide +kernel
theorem q_142_43 : js_I 142 43 = some (.getfield 68, 3) := by decide +kernel
theorem q_142_46 : js_I 142 46 = some (.aload_n 3, 1) := by decide +kernel
theorem q_142_47 : js_I 142 47 = some (.getfield 71, 3) := by decide +kernel
theorem q_142_50 : js_I 142 50 = some (.iadd, 1) := by decide +kernel
theorem q_142_51 : js_I 142 51 = some (.if_icmp .ge 32, 3) := by decide +kernel
theorem q_142_54 : js_I 142 54 = some (.iload 4, 2) := by decide +kernel
theorem q_142_56 : js_I 142 56 = some (.aload_n 0, 1) := by decide +kernel
theorem q_142_57 : js_I 142 57 = some (.getfield 30, 3) := by decide +kernel
theorem q_142_60 : js_I 142 60 = some (.arraylength, 1) := by decide +kernel
theorem q_142_61 : js_I 142 61 = some (.if_icmp .ge 22, 3) := by decide +kernel
theorem q_142_64 : js_I 142 64 = some (.aload_n 1, 1) := by decide +kernel
theorem q_142_65 : js_I 142 65 = some (.iload 4, 2) := by decide +kernel
theorem q_142_67 : js_I 142 67 = some (.aload_n 0, 1) := by decide +kernel
theorem q_142_68 : js_I 142 68 = some (.getfield 30, 3) := by decide +kernel
theorem q_142_71 : js_I 142 71 = some (.iload 4, 2) := by decide +kernel
theorem q_142_73 : js_I 142 73 = some (.iaload, 1) := by decide +kernel
theorem q_142_74 : js_I 142 74 = some (.invokevirtual 86, 3) := by decide +kernel
theorem q_142_77 : js_I 142 77 = some (.iinc 4 1, 3) := by decide +kernel
theorem q_142_80 : js_I 142 80 = some (.goto (-40), 3) := by decide +kernel
theorem q_142_83 : js_I 142 83 = some (.iinc 2 1, 3) := by decide +kernel
theorem q_142_86 : js_I 142 86 = some (.goto (-84), 3) := by decide +kernel
theorem q_142_100 : js_I 142 100 = some (.return_, 1) := by decide +kernel
theorem q_143_0 : js_I 143 0 = some (.aload_n 0, 1) := by decide +kernel
theorem q_143_1 : js_I 143 1 = some (.iconst 1, 1) := by decide +kernel
theorem q_143_2 : js_I 143 2 = some (.putfield 25, 3) := by decide +kernel
theorem q_143_5 : js_I 143 5 = some (.aload_n 0, 1) := by decide +kernel
theorem q_143_6 : js_I 143 6 = some (.iconst 0, 1) := by decide +kernel
theorem q_143_7 : js_I 143 7 = some (.putfield 29, 3) := by decide +kernel
theorem q_143_10 : js_I 143 10 = some (.aload_n 0, 1) := by decide +kernel
theorem q_143_11 : js_I 143 11 = some (.iconst 0, 1) := by decide +kernel
theorem q_143_12 : js_I 143 12 = some (.putfield 32, 3) := by decide +kernel
theorem q_143_15 : js_I 143 15 = some (.aload_n 0, 1) := by decide +kernel
theorem q_143_16 : js_I 143 16 = some (.iconst 0, 1) := by decide +kernel
theorem q_143_17 : js_I 143 17 = some (.putfield 35, 3) := by decide +kernel
theorem q_143_20 : js_I 143 20 = some (.aload_n 0, 1) := by decide +kernel
theorem q_143_21 : js_I 143 21 = some (.getfield 14, 3) := by decide +kernel
theorem q_143_24 : js_I 143 24 = some (.iload_n 1, 1) := by decide +kernel
theorem q_143_25 : js_I 143 25 = some (.invokevirtual 49, 3) := by decide +kernel
theorem q_143_28 : js_I 143 28 = some (.return_, 1) := by decide +kernel
theorem q_144_0 : js_I 144 0 = some (.aload_n 0, 1) := by decide +kernel
theorem q_144_1 : js_I 144 1 = some (.lconst 0, 1) := by decide +kernel
theorem q_144_2 : js_I 144 2 = some (.putfield 23, 3) := by decide +kernel
theorem q_144_5 : js_I 144 5 = some (.aload_n 0, 1) := by decide +kernel
theorem q_144_6 : js_I 144 6 = some (.lconst 0, 1) := by decide +kernel
theorem q_144_7 : js_I 144 7 = some (.putfield 26, 3) := by decide +kernel
theorem q_144_10 : js_I 144 10 = some (.aload_n 0, 1) := by decide +kernel
theorem q_144_11 : js_I 144 11 = some (.iload_n 1, 1) := by decide +kernel
theorem q_144_12 : js_I 144 12 = some (.putfield 29, 3) := by decide +kernel
theorem q_144_15 : js_I 144 15 = some (.aload_n 0, 1) := by decide +kernel
theorem q_144_16 : js_I 144 16 = some (.iconst 0, 1) := by decide +kernel
theorem q_144_17 : js_I 144 17 = some (.putfield 33, 3) := by decide +kernel
theorem q_144_20 : js_I 144 20 = some (.return_, 1) := by decide +kernel
theorem q_145_0 : js_I 145 0 = some (.aload_n 0, 1) := by decide +kernel
theorem q_145_1 : js_I 145 1 = some (.aload_n 0, 1) := by decide +kernel
theorem q_145_2 : js_I 145 2 = some (.getfield 25, 3) := by decide +kernel
theorem q_145_5 : js_I 145 5 = some (.iconst 1, 1) := by decide +kernel
theorem q_145_6 : js_I 145 6 = some (.isub, 1) := by decide +kernel
theorem q_145_7 : js_I 145 7 = some (.invokevirtual 52, 3) := by decide +kernel
theorem q_145_10 : js_I 145 10 = some (.aload_n 1, 1) := by decide +kernel
theorem q_145_11 : js_I 145 11 = some (.getfield 56, 3) := by decide +kernel
theorem q_145_14 : js_I 145 14 = some (.invokevirtual 62, 3) := by decide +kernel
theorem q_145_17 : js_I 145 17 = some (.istore_n 2, 1) := by decide +kernel
theorem q_145_18 : js_I 145 18 = some (.aload_n 0, 1) := by decide +kernel
theorem q_145_19 : js_I 145 19 = some (.dup, 1) := by decide +kernel
theorem q_145_20 : js_I 145 20 = some (.getfield 29, 3) := by decide +kernel
theorem q_145_23 : js_I 145 23 = some (.iconst 1, 1) := by decide +kernel
theorem q_145_24 : js_I 145 24 = some (.iadd, 1) := by decide +kernel
theorem q_145_25 : js_I 145 25 = some (.putfield 29, 3) := by decide +kernel
theorem q_145_28 : js_I 145 28 = some (.iload_n 2, 1) := by decide +kernel
theorem q_145_29 : js_I 145 29 = some (.iconst 2, 1) := by decide +kernel
theorem q_145_30 : js_I 145 30 = some (.if_icmp .ne 11, 3) := by decide +kernel
theorem q_145_33 : js_I 145 33 = some (.aload_n 0, 1) := by decide +kernel
theorem q_145_34 : js_I 145 34 = some (.iconst 1, 1) := by decide +kernel
theorem q_145_35 : js_I 145 35 = some (.invokevirtual 66, 3) := by decide +kernel
theorem q_145_41 : js_I 145 41 = some (.iload_n 2, 1) := by decide +kernel
theorem q_145_42 : js_I 145 42 = some (.ifCond .ne 27, 3) := by decide +kernel
theorem q_145_45 : js_I 145 45 = some (.aload_n 0, 1) := by decide +kernel
theorem q_145_46 : js_I 145 46 = some (.getfield 29, 3) := by decide +kernel
theorem q_145_49 : js_I 145 49 = some (.aload_n 0, 1) := by decide +kernel
theorem q_145_50 : js_I 145 50 = some (.getfield 32, 3) := by decide +kernel
theorem q_145_53 : js_I 145 53 = some (.isub, 1) := by decide +kernel
theorem q_145_54 : js_I 145 54 = some (.aload_n 1, 1) := by decide +kernel
theorem q_145_55 : js_I 145 55 = some (.getfield 69, 3) := by decide +kernel
theorem q_145_58 : js_I 145 58 = some (.if_icmp .lt 63, 3) := by decide +kernel
theorem q_145_61 : js_I 145 61 = some (.aload_n 0, 1) := by decide +kernel
theorem q_145_62 : js_I 145 62 = some (.iconst 2, 1) := by decide +kernel
theorem q_145_63 : js_I 145 63 = some (.invokevirtual 66, 3) := by decide +kernel
theorem q_145_69 : js_I 145 69 = some (.aload_n 0, 1) := by decide +kernel
theorem q_145_70 : js_I 145 70 = some (.getfield 25, 3) := by decide +kernel
theorem q_145_73 : js_I 145 73 = some (.iconst 1, 1) := by decide +kernel
theorem q_145_74 : js_I 145 74 = some (.if_icmp .ne 30, 3) := by decide +kernel
theorem q_145_77 : js_I 145 77 = some (.aload_n 0, 1) := by decide +kernel
theorem q_145_78 : js_I 145 78 = some (.iconst 2, 1) := by decide +kernel
theorem q_145_79 : js_I 145 79 = some (.putfield 25, 3) := by decide +kernel
theorem q_145_82 : js_I 145 82 = some (.aload_n 0, 1) := by decide +kernel
theorem q_145_83 : js_I 145 83 = some (.aload_n 0, 1) := by decide +kernel
theorem q_145_84 : js_I 145 84 = some (.getfield 29, 3) := by decide +kernel
theorem q_145_87 : js_I 145 87 = some (.putfield 32, 3) := by decide +kernel
theorem q_145_90 : js_I 145 90 = some (.aload_n 0, 1) := by decide +kernel
theorem q_145_91 : js_I 145 91 = some (.getfield 22, 3) := by decide +kernel
theorem q_145_94 : js_I 145 94 = some (.aload_n 1, 1) := by decide +kernel
theorem q_145_95 : js_I 145 95 = some (.getfield 72, 3) := by decide +kernel
theorem q_145_98 : js_I 145 98 = some (.invokevirtual 49, 3) := by decide +kernel
theorem q_145_104 : js_I 145 104 = some (.aload_n 0, 1) := by decide +kernel
theorem q_145_105 : js_I 145 105 = some (.aload_n 0, 1) := by decide +kernel
theorem q_145_106 : js_I 145 106 = some (.aload_n 1, 1) := by decide +kernel
theorem q_145_107 : js_I 145 107 = some (.invokevirtual 75, 3) := by decide +kernel
theorem q_145_38 : js_I 145 38 = some (.goto 83, 3) := by decide +kernel
theorem q_145_66 : js_I 145 66 = some (.goto 55, 3) := by decide +kernel
theorem q_145_101 : js_I 145 101 = some (.goto 20, 3) := by decide +kernel
theorem q_145_110 : js_I 145 110 = some (.ifCond .eq 7, 3) := by decide +kernel
theorem q_145_117 : js_I 145 117 = some (.iconst 3, 1) := by decide +kernel
theorem q_145_113 : js_I 145 113 = some (.iconst 4, 1) := by decide +kernel
theorem q_145_114 : js_I 145 114 = some (.goto 4, 3) := by decide +kernel
theorem q_145_118 : js_I 145 118 = some (.invokevirtual 66, 3) := by decide +kernel
theorem q_145_121 : js_I 145 121 = some (.return_, 1) := by decide +kernel
theorem q_146_0 : js_I 146 0 = some (.iload_n 1, 1) := by decide +kernel
theorem q_146_1 : js_I 146 1 = some (.ifCond .ne 10, 3) := by decide +kernel
theorem q_146_4 : js_I 146 4 = some (.aload_n 0, 1) := by decide +kernel
theorem q_146_5 : js_I 146 5 = some (.getfield 14, 3) := by decide +kernel
theorem q_146_8 : js_I 146 8 = some (.goto 7, 3) := by decide +kernel
theorem q_146_15 : js_I 146 15 = some (.areturn, 1) := by decide +kernel
theorem q_146_11 : js_I 146 11 = some (.aload_n 0, 1) := by decide +kernel
theorem q_146_12 : js_I 146 12 = some (.getfield 22, 3) := by decide +kernel
theorem q_147_0 : js_I 147 0 = some (.aload_n 0, 1) := by decide +kernel
theorem q_147_1 : js_I 147 1 = some (.getfield 29, 3) := by decide +kernel
theorem q_147_4 : js_I 147 4 = some (.istore_n 2, 1) := by decide +kernel
theorem q_147_5 : js_I 147 5 = some (.aload_n 1, 1) := by decide +kernel
theorem q_147_6 : js_I 147 6 = some (.iload_n 2, 1) := by decide +kernel
theorem q_147_7 : js_I 147 7 = some (.invokevirtual 59, 3) := by decide +kernel
theorem q_147_10 : js_I 147 10 = some (.ifCond .ne 5, 3) := by decide +kernel
theorem q_147_13 : js_I 147 13 = some (.iconst 2, 1) := by decide +kernel
theorem q_147_14 : js_I 147 14 = some (.ireturn, 1) := by decide +kernel
theorem q_147_15 : js_I 147 15 = some (.aload_n 0, 1) := by decide +kernel
theorem q_147_16 : js_I 147 16 = some (.iload_n 2, 1) := by decide +kernel
theorem q_147_17 : js_I 147 17 = some (.iconst 1, 1) := by decide +kernel
theorem q_147_18 : js_I 147 18 = some (.iadd, 1) := by decide +kernel
theorem q_147_19 : js_I 147 19 = some (.putfield 29, 3) := by decide +kernel
theorem q_147_22 : js_I 147 22 = some (.aload_n 1, 1) := by decide +kernel
theorem q_147_23 : js_I 147 23 = some (.getfield 65, 3) := by decide +kernel
theorem q_147_26 : js_I 147 26 = some (.iload_n 2, 1) := by decide +kernel
theorem q_147_27 : js_I 147 27 = some (.iaload, 1) := by decide +kernel
theorem q_147_28 : js_I 147 28 = some (.istore_n 3, 1) := by decide +kernel
theorem q_147_29 : js_I 147 29 = some (.aload_n 1, 1) := by decide +kernel
theorem q_147_30 : js_I 147 30 = some (.getfield 68, 3) := by decide +kernel
theorem q_147_33 : js_I 147 33 = some (.iload_n 2, 1) := by decide +kernel
theorem q_147_34 : js_I 147 34 = some (.iaload, 1) := by decide +kernel
theorem q_147_35 : js_I 147 35 = some (.istore 4, 2) := by decide +kernel
theorem q_147_37 : js_I 147 37 = some (.iload 4, 2) := by decide +kernel
theorem q_147_39 : js_I 147 39 = some (.tableswitch 218 0 23 #[109, 122, 133, 144, 154, 166, 218, 218, 218, 218, 218, 218, 218, 218, 218, 218, 218, 218, 218, 218, 218, 218, 178, 198], 109) := by decide +kernel
theorem q_147_148 : js_I 147 148 = some (.aload_n 0, 1) := by decide +kernel
theorem q_147_149 : js_I 147 149 = some (.iload_n 3, 1) := by decide +kernel
theorem q_147_150 : js_I 147 150 = some (.i2l, 1) := by decide +kernel
theorem q_147_151 : js_I 147 151 = some (.aload_n 0, 1) := by decide +kernel
theorem q_147_152 : js_I 147 152 = some (.getfield 19, 3) := by decide +kernel
theorem q_147_155 : js_I 147 155 = some (.lmul, 1) := by decide +kernel
theorem q_147_156 : js_I 147 156 = some (.putfield 23, 3) := by decide +kernel
theorem q_147_159 : js_I 147 159 = some (.iconst 0, 1) := by decide +kernel
theorem q_147_160 : js_I 147 160 = some (.ireturn, 1) := by decide +kernel
theorem q_147_161 : js_I 147 161 = some (.aload_n 0, 1) := by decide +kernel
theorem q_147_162 : js_I 147 162 = some (.aload_n 0, 1) := by decide +kernel
theorem q_147_163 : js_I 147 163 = some (.iload_n 3, 1) := by decide +kernel
theorem q_147_164 : js_I 147 164 = some (.invokevirtual 55, 3) := by decide +kernel
theorem q_147_167 : js_I 147 167 = some (.putfield 23, 3) := by decide +kernel
theorem q_147_170 : js_I 147 170 = some (.iconst 0, 1) := by decide +kernel
theorem q_147_171 : js_I 147 171 = some (.ireturn, 1) := by decide +kernel
theorem q_147_172 : js_I 147 172 = some (.aload_n 0, 1) := by decide +kernel
theorem q_147_173 : js_I 147 173 = some (.iload_n 3, 1) := by decide +kernel
theorem q_147_174 : js_I 147 174 = some (.aload_n 0, 1) := by decide +kernel
theorem q_147_175 : js_I 147 175 = some (.getfield 23, 3) := by decide +kernel
theorem q_147_178 : js_I 147 178 = some (.invokevirtual 51, 3) := by decide +kernel
theorem q_147_181 : js_I 147 181 = some (.iconst 0, 1) := by decide +kernel
theorem q_147_182 : js_I 147 182 = some (.ireturn, 1) := by decide +kernel
theorem q_147_183 : js_I 147 183 = some (.aload_n 0, 1) := by decide +kernel
theorem q_147_184 : js_I 147 184 = some (.aload_n 0, 1) := by decide +kernel
theorem q_147_185 : js_I 147 185 = some (.getfield 23, 3) := by decide +kernel
theorem q_147_188 : js_I 147 188 = some (.putfield 26, 3) := by decide +kernel
theorem q_147_191 : js_I 147 191 = some (.iconst 0, 1) := by decide +kernel
theorem q_147_192 : js_I 147 192 = some (.ireturn, 1) := by decide +kernel
theorem q_147_193 : js_I 147 193 = some (.aload_n 0, 1) := by decide +kernel
theorem q_147_194 : js_I 147 194 = some (.iload_n 3, 1) := by decide +kernel
theorem q_147_195 : js_I 147 195 = some (.aload_n 1, 1) := by decide +kernel
theorem q_147_196 : js_I 147 196 = some (.getfield 71, 3) := by decide +kernel
theorem q_147_199 : js_I 147 199 = some (.iload_n 2, 1) := by decide +kernel
theorem q_147_200 : js_I 147 200 = some (.iaload, 1) := by decide +kernel
theorem q_147_201 : js_I 147 201 = some (.invokevirtual 74, 3) := by decide +kernel
theorem q_147_204 : js_I 147 204 = some (.ireturn, 1) := by decide +kernel
theorem q_147_205 : js_I 147 205 = some (.aload_n 0, 1) := by decide +kernel
theorem q_147_206 : js_I 147 206 = some (.iload_n 3, 1) := by decide +kernel
theorem q_147_207 : js_I 147 207 = some (.aload_n 1, 1) := by decide +kernel
theorem q_147_208 : js_I 147 208 = some (.getfield 71, 3) := by decide +kernel
theorem q_147_211 : js_I 147 211 = some (.iload_n 2, 1) := by decide +kernel
theorem q_147_212 : js_I 147 212 = some (.iaload, 1) := by decide +kernel
theorem q_147_213 : js_I 147 213 = some (.invokevirtual 77, 3) := by decide +kernel
theorem q_147_216 : js_I 147 216 = some (.ireturn, 1) := by decide +kernel
theorem q_147_217 : js_I 147 217 = some (.aload_n 0, 1) := by decide +kernel
theorem q_147_218 : js_I 147 218 = some (.aload_n 0, 1) := by decide +kernel
theorem q_147_219 : js_I 147 219 = some (.getfield 23, 3) := by decide +kernel
theorem q_147_222 : js_I 147 222 = some (.iload_n 3, 1) := by decide +kernel
theorem q_147_223 : js_I 147 223 = some (.i2l, 1) := by decide +kernel
theorem q_147_224 : js_I 147 224 = some (.aload_n 0, 1) := by decide +kernel
theorem q_147_225 : js_I 147 225 = some (.getfield 19, 3) := by decide +kernel
theorem q_147_228 : js_I 147 228 = some (.lmul, 1) := by decide +kernel
theorem q_147_229 : js_I 147 229 = some (.invokestatic 80, 3) := by decide +kernel
theorem q_147_232 : js_I 147 232 = some (.putfield 23, 3) := by decide +kernel
theorem q_147_235 : js_I 147 235 = some (.iconst 0, 1) := by decide +kernel
theorem q_147_236 : js_I 147 236 = some (.ireturn, 1) := by decide +kernel
theorem q_147_237 : js_I 147 237 = some (.aload_n 0, 1) := by decide +kernel
theorem q_147_238 : js_I 147 238 = some (.aload_n 0, 1) := by decide +kernel
theorem q_147_239 : js_I 147 239 = some (.getfield 23, 3) := by decide +kernel
theorem q_147_242 : js_I 147 242 = some (.iload_n 3, 1) := by decide +kernel
theorem q_147_243 : js_I 147 243 = some (.i2l, 1) := by decide +kernel
theorem q_147_244 : js_I 147 244 = some (.aload_n 0, 1) := by decide +kernel
theorem q_147_245 : js_I 147 245 = some (.getfield 19, 3) := by decide +kernel
theorem q_147_248 : js_I 147 248 = some (.lmul, 1) := by decide +kernel
theorem q_147_249 : js_I 147 249 = some (.invokestatic 83, 3) := by decide +kernel
theorem q_147_252 : js_I 147 252 = some (.putfield 23, 3) := by decide +kernel
theorem q_147_255 : js_I 147 255 = some (.iconst 0, 1) := by decide +kernel
theorem q_147_256 : js_I 147 256 = some (.ireturn, 1) := by decide +kernel
theorem q_147_257 : js_I 147 257 = some (.iload 4, 2) := by decide +kernel
theorem q_147_259 : js_I 147 259 = some (.bipush 24, 2) := by decide +kernel
theorem q_147_261 : js_I 147 261 = some (.if_icmp .lt 13, 3) := by decide +kernel
theorem q_147_274 : js_I 147 274 = some (.aload_n 0, 1) := by decide +kernel
theorem q_147_275 : js_I 147 275 = some (.iload 4, 2) := by decide +kernel
theorem q_147_277 : js_I 147 277 = some (.invokevirtual 88, 3) := by decide +kernel
theorem q_147_264 : js_I 147 264 = some (.aload_n 0, 1) := by decide +kernel
theorem q_147_265 : js_I 147 265 = some (.iload 4, 2) := by decide +kernel
theorem q_147_267 : js_I 147 267 = some (.iload_n 3, 1) := by decide +kernel
theorem q_147_268 : js_I 147 268 = some (.invokevirtual 85, 3) := by decide +kernel
theorem q_147_271 : js_I 147 271 = some (.goto 9, 3) := by decide +kernel
theorem q_147_280 : js_I 147 280 = some (.ireturn, 1) := by decide +kernel
theorem q_148_0 : js_I 148 0 = some (.iload_n 1, 1) := by decide +kernel
theorem q_148_1 : js_I 148 1 = some (.ifCond .lt 21, 3) := by decide +kernel
theorem q_148_22 : js_I 148 22 = some (.lconst 0, 1) := by decide +kernel
theorem q_148_23 : js_I 148 23 = some (.lreturn, 1) := by decide +kernel
theorem q_148_4 : js_I 148 4 = some (.iload_n 1, 1) := by decide +kernel
theorem q_148_5 : js_I 148 5 = some (.aload_n 0, 1) := by decide +kernel
theorem q_148_6 : js_I 148 6 = some (.getfield 15, 3) := by decide +kernel
theorem q_148_9 : js_I 148 9 = some (.arraylength, 1) := by decide +kernel
theorem q_148_10 : js_I 148 10 = some (.if_icmp .ge 12, 3) := by decide +kernel
theorem q_148_13 : js_I 148 13 = some (.aload_n 0, 1) := by decide +kernel
theorem q_148_14 : js_I 148 14 = some (.getfield 15, 3) := by decide +kernel
theorem q_148_17 : js_I 148 17 = some (.iload_n 1, 1) := by decide +kernel
theorem q_148_18 : js_I 148 18 = some (.laload, 1) := by decide +kernel
theorem q_148_19 : js_I 148 19 = some (.goto 4, 3) := by decide +kernel
theorem q_149_0 : js_I 149 0 = some (.aload_n 0, 1) := by decide +kernel
theorem q_149_1 : js_I 149 1 = some (.aload_n 0, 1) := by decide +kernel
theorem q_149_2 : js_I 149 2 = some (.getfield 23, 3) := by decide +kernel
theorem q_149_5 : js_I 149 5 = some (.iload_n 2, 1) := by decide +kernel
theorem q_149_6 : js_I 149 6 = some (.invokevirtual 92, 3) := by decide +kernel
theorem q_149_9 : js_I 149 9 = some (.istore_n 3, 1) := by decide +kernel
theorem q_149_10 : js_I 149 10 = some (.iload_n 3, 1) := by decide +kernel
theorem q_149_11 : js_I 149 11 = some (.ifCond .ge 5, 3) := by decide +kernel
theorem q_149_14 : js_I 149 14 = some (.iconst 2, 1) := by decide +kernel
theorem q_149_15 : js_I 149 15 = some (.ireturn, 1) := by decide +kernel
theorem q_149_16 : js_I 149 16 = some (.aload_n 0, 1) := by decide +kernel
theorem q_149_17 : js_I 149 17 = some (.aload_n 0, 1) := by decide +kernel
theorem q_149_18 : js_I 149 18 = some (.iload_n 1, 1) := by decide +kernel
theorem q_149_19 : js_I 149 19 = some (.iload_n 3, 1) := by decide +kernel
theorem q_149_20 : js_I 149 20 = some (.iadd, 1) := by decide +kernel
theorem q_149_21 : js_I 149 21 = some (.invokevirtual 55, 3) := by decide +kernel
theorem q_149_24 : js_I 149 24 = some (.putfield 23, 3) := by decide +kernel
theorem q_149_27 : js_I 149 27 = some (.iconst 0, 1) := by decide +kernel
theorem q_149_28 : js_I 149 28 = some (.ireturn, 1) := by decide +kernel
theorem q_150_0 : js_I 150 0 = some (.aload_n 0, 1) := by decide +kernel
theorem q_150_1 : js_I 150 1 = some (.getfield 19, 3) := by decide +kernel
theorem q_150_4 : js_I 150 4 = some (.lconst 0, 1) := by decide +kernel
theorem q_150_5 : js_I 150 5 = some (.lcmp, 1) := by decide +kernel
theorem q_150_6 : js_I 150 6 = some (.ifCond .eq 14, 3) := by decide +kernel
theorem q_150_20 : js_I 150 20 = some (.iconst (-1), 1) := by decide +kernel
theorem q_150_21 : js_I 150 21 = some (.ireturn, 1) := by decide +kernel
theorem q_150_9 : js_I 150 9 = some (.lload_n 1, 1) := by decide +kernel
theorem q_150_10 : js_I 150 10 = some (.aload_n 0, 1) := by decide +kernel
theorem q_150_11 : js_I 150 11 = some (.getfield 19, 3) := by decide +kernel
theorem q_150_14 : js_I 150 14 = some (.lrem, 1) := by decide +kernel
theorem q_150_15 : js_I 150 15 = some (.lconst 0, 1) := by decide +kernel
theorem q_150_16 : js_I 150 16 = some (.lcmp, 1) := by decide +kernel
theorem q_150_17 : js_I 150 17 = some (.ifCond .eq 5, 3) := by decide +kernel
theorem q_150_22 : js_I 150 22 = some (.lload_n 1, 1) := by decide +kernel
theorem q_150_23 : js_I 150 23 = some (.aload_n 0, 1) := by decide +kernel
theorem q_150_24 : js_I 150 24 = some (.getfield 19, 3) := by decide +kernel
theorem q_150_27 : js_I 150 27 = some (.ldiv, 1) := by decide +kernel
theorem q_150_28 : js_I 150 28 = some (.lstore 4, 2) := by decide +kernel
theorem q_150_30 : js_I 150 30 = some (.lload 4, 2) := by decide +kernel
theorem q_150_32 : js_I 150 32 = some (.lconst 0, 1) := by decide +kernel
theorem q_150_33 : js_I 150 33 = some (.lcmp, 1) := by decide +kernel
theorem q_150_34 : js_I 150 34 = some (.ifCond .lt 11, 3) := by decide +kernel
theorem q_150_45 : js_I 150 45 = some (.iconst (-1), 1) := by decide +kernel
theorem q_150_46 : js_I 150 46 = some (.goto 6, 3) := by decide +kernel
theorem q_150_52 : js_I 150 52 = some (.ireturn, 1) := by decide +kernel
theorem q_150_37 : js_I 150 37 = some (.lload 4, 2) := by decide +kernel
theorem q_150_39 : js_I 150 39 = some (.iload_n 3, 1) := by decide +kernel
theorem q_150_40 : js_I 150 40 = some (.i2l, 1) := by decide +kernel
theorem q_150_41 : js_I 150 41 = some (.lcmp, 1) := by decide +kernel
theorem q_150_42 : js_I 150 42 = some (.ifCond .lt 7, 3) := by decide +kernel
theorem q_150_49 : js_I 150 49 = some (.lload 4, 2) := by decide +kernel
theorem q_150_51 : js_I 150 51 = some (.l2i, 1) := by decide +kernel
theorem q_151_0 : js_I 151 0 = some (.aload_n 0, 1) := by decide +kernel
theorem q_151_1 : js_I 151 1 = some (.aload_n 0, 1) := by decide +kernel
theorem q_151_2 : js_I 151 2 = some (.getfield 26, 3) := by decide +kernel
theorem q_151_5 : js_I 151 5 = some (.iload_n 2, 1) := by decide +kernel
theorem q_151_6 : js_I 151 6 = some (.invokevirtual 92, 3) := by decide +kernel
theorem q_151_9 : js_I 151 9 = some (.istore_n 3, 1) := by decide +kernel
theorem q_151_10 : js_I 151 10 = some (.iload_n 3, 1) := by decide +kernel
theorem q_151_11 : js_I 151 11 = some (.ifCond .ge 5, 3) := by decide +kernel
theorem q_151_14 : js_I 151 14 = some (.iconst 2, 1) := by decide +kernel
theorem q_151_15 : js_I 151 15 = some (.ireturn, 1) := by decide +kernel
theorem q_151_16 : js_I 151 16 = some (.aload_n 0, 1) := by decide +kernel
theorem q_151_17 : js_I 151 17 = some (.iload_n 1, 1) := by decide +kernel
theorem q_151_18 : js_I 151 18 = some (.iload_n 3, 1) := by decide +kernel
theorem q_151_19 : js_I 151 19 = some (.iadd, 1) := by decide +kernel
theorem q_151_20 : js_I 151 20 = some (.aload_n 0, 1) := by decide +kernel
theorem q_151_21 : js_I 151 21 = some (.getfield 23, 3) := by decide +kernel
theorem q_151_24 : js_I 151 24 = some (.invokevirtual 51, 3) := by decide +kernel
theorem q_151_27 : js_I 151 27 = some (.iconst 0, 1) := by decide +kernel
theorem q_151_28 : js_I 151 28 = some (.ireturn, 1) := by decide +kernel
theorem q_152_0 : js_I 152 0 = some (.iload_n 1, 1) := by decide +kernel
theorem q_152_1 : js_I 152 1 = some (.tableswitch 105 24 29 #[39, 46, 69, 92, 98, 103], 39) := by decide +kernel
theorem q_152_40 : js_I 152 40 = some (.aload_n 0, 1) := by decide +kernel
theorem q_152_41 : js_I 152 41 = some (.iload_n 2, 1) := by decide +kernel
theorem q_152_42 : js_I 152 42 = some (.putfield 29, 3) := by decide +kernel
theorem q_152_45 : js_I 152 45 = some (.iconst 0, 1) := by decide +kernel
theorem q_152_46 : js_I 152 46 = some (.ireturn, 1) := by decide +kernel
theorem q_152_47 : js_I 152 47 = some (.aload_n 0, 1) := by decide +kernel
theorem q_152_48 : js_I 152 48 = some (.aload_n 0, 1) := by decide +kernel
theorem q_152_49 : js_I 152 49 = some (.getfield 23, 3) := by decide +kernel
theorem q_152_52 : js_I 152 52 = some (.lconst 0, 1) := by decide +kernel
theorem q_152_53 : js_I 152 53 = some (.lcmp, 1) := by decide +kernel
theorem q_152_54 : js_I 152 54 = some (.ifCond .ne 7, 3) := by decide +kernel
theorem q_152_57 : js_I 152 57 = some (.iload_n 2, 1) := by decide +kernel
theorem q_152_58 : js_I 152 58 = some (.goto 7, 3) := by decide +kernel
theorem q_152_61 : js_I 152 61 = some (.aload_n 0, 1) := by decide +kernel
theorem q_152_62 : js_I 152 62 = some (.getfield 29, 3) := by decide +kernel
theorem q_152_65 : js_I 152 65 = some (.putfield 29, 3) := by decide +kernel
theorem q_152_68 : js_I 152 68 = some (.iconst 0, 1) := by decide +kernel
theorem q_152_69 : js_I 152 69 = some (.ireturn, 1) := by decide +kernel
theorem q_152_70 : js_I 152 70 = some (.aload_n 0, 1) := by decide +kernel
theorem q_152_71 : js_I 152 71 = some (.aload_n 0, 1) := by decide +kernel
theorem q_152_72 : js_I 152 72 = some (.getfield 23, 3) := by decide +kernel
theorem q_152_75 : js_I 152 75 = some (.lconst 0, 1) := by decide +kernel
theorem q_152_76 : js_I 152 76 = some (.lcmp, 1) := by decide +kernel
theorem q_152_77 : js_I 152 77 = some (.ifCond .eq 7, 3) := by decide +kernel
theorem q_152_84 : js_I 152 84 = some (.aload_n 0, 1) := by decide +kernel
theorem q_152_85 : js_I 152 85 = some (.getfield 29, 3) := by decide +kernel
theorem q_152_80 : js_I 152 80 = some (.iload_n 2, 1) := by decide +kernel
theorem q_152_81 : js_I 152 81 = some (.goto 7, 3) := by decide +kernel
theorem q_152_88 : js_I 152 88 = some (.putfield 29, 3) := by decide +kernel
theorem q_152_91 : js_I 152 91 = some (.iconst 0, 1) := by decide +kernel
theorem q_152_92 : js_I 152 92 = some (.ireturn, 1) := by decide +kernel
theorem q_152_93 : js_I 152 93 = some (.aload_n 0, 1) := by decide +kernel
theorem q_152_94 : js_I 152 94 = some (.iload_n 2, 1) := by decide +kernel
theorem q_152_95 : js_I 152 95 = some (.invokevirtual 96, 3) := by decide +kernel
theorem q_152_98 : js_I 152 98 = some (.ireturn, 1) := by decide +kernel
theorem q_152_99 : js_I 152 99 = some (.aload_n 0, 1) := by decide +kernel
theorem q_152_100 : js_I 152 100 = some (.invokevirtual 99, 3) := by decide +kernel
theorem q_152_103 : js_I 152 103 = some (.ireturn, 1) := by decide +kernel
theorem q_152_104 : js_I 152 104 = some (.iconst 1, 1) := by decide +kernel
theorem q_152_105 : js_I 152 105 = some (.ireturn, 1) := by decide +kernel
theorem q_152_106 : js_I 152 106 = some (.aload_n 0, 1) := by decide +kernel
theorem q_152_107 : js_I 152 107 = some (.getfield 23, 3) := by decide +kernel
theorem q_152_110 : js_I 152 110 = some (.lconst 0, 1) := by decide +kernel
theorem q_152_111 : js_I 152 111 = some (.lcmp, 1) := by decide +kernel
theorem q_152_112 : js_I 152 112 = some (.ifCond .ne 7, 3) := by decide +kernel
theorem q_152_115 : js_I 152 115 = some (.iconst 2, 1) := by decide +kernel
theorem q_152_116 : js_I 152 116 = some (.goto 4, 3) := by decide +kernel
theorem q_152_120 : js_I 152 120 = some (.ireturn, 1) := by decide +kernel
theorem q_152_119 : js_I 152 119 = some (.iconst 0, 1) := by decide +kernel
theorem q_153_0 : js_I 153 0 = some (.aload_n 0, 1) := by decide +kernel
theorem q_153_1 : js_I 153 1 = some (.getfield 33, 3) := by decide +kernel
theorem q_153_4 : js_I 153 4 = some (.ifCond .lt 15, 3) := by decide +kernel
theorem q_153_19 : js_I 153 19 = some (.iconst 2, 1) := by decide +kernel
theorem q_153_20 : js_I 153 20 = some (.ireturn, 1) := by decide +kernel
theorem q_153_7 : js_I 153 7 = some (.aload_n 0, 1) := by decide +kernel
theorem q_153_8 : js_I 153 8 = some (.getfield 33, 3) := by decide +kernel
theorem q_153_11 : js_I 153 11 = some (.aload_n 0, 1) := by decide +kernel
theorem q_153_12 : js_I 153 12 = some (.getfield 9, 3) := by decide +kernel
theorem q_153_15 : js_I 153 15 = some (.arraylength, 1) := by decide +kernel
theorem q_153_16 : js_I 153 16 = some (.if_icmp .lt 5, 3) := by decide +kernel
theorem q_153_21 : js_I 153 21 = some (.aload_n 0, 1) := by decide +kernel
theorem q_153_22 : js_I 153 22 = some (.getfield 9, 3) := by decide +kernel
theorem q_153_25 : js_I 153 25 = some (.aload_n 0, 1) := by decide +kernel
theorem q_153_26 : js_I 153 26 = some (.getfield 33, 3) := by decide +kernel
theorem q_153_29 : js_I 153 29 = some (.aload_n 0, 1) := by decide +kernel
theorem q_153_30 : js_I 153 30 = some (.getfield 29, 3) := by decide +kernel
theorem q_153_33 : js_I 153 33 = some (.iastore, 1) := by decide +kernel
theorem q_153_34 : js_I 153 34 = some (.aload_n 0, 1) := by decide +kernel
theorem q_153_35 : js_I 153 35 = some (.dup, 1) := by decide +kernel
theorem q_153_36 : js_I 153 36 = some (.getfield 33, 3) := by decide +kernel
theorem q_153_39 : js_I 153 39 = some (.iconst 1, 1) := by decide +kernel
theorem q_153_40 : js_I 153 40 = some (.iadd, 1) := by decide +kernel
theorem q_153_41 : js_I 153 41 = some (.putfield 33, 3) := by decide +kernel
theorem q_153_44 : js_I 153 44 = some (.aload_n 0, 1) := by decide +kernel
theorem q_153_45 : js_I 153 45 = some (.iload_n 1, 1) := by decide +kernel
theorem q_153_46 : js_I 153 46 = some (.putfield 29, 3) := by decide +kernel
theorem q_153_49 : js_I 153 49 = some (.iconst 0, 1) := by decide +kernel
theorem q_153_50 : js_I 153 50 = some (.ireturn, 1) := by decide +kernel
theorem q_154_0 : js_I 154 0 = some (.aload_n 0, 1) := by decide +kernel
theorem q_154_1 : js_I 154 1 = some (.getfield 33, 3) := by decide +kernel
theorem q_154_4 : js_I 154 4 = some (.iconst 1, 1) := by decide +kernel
theorem q_154_5 : js_I 154 5 = some (.if_icmp .lt 15, 3) := by decide +kernel
theorem q_154_20 : js_I 154 20 = some (.iconst 2, 1) := by decide +kernel
theorem q_154_21 : js_I 154 21 = some (.ireturn, 1) := by decide +kernel
theorem q_154_8 : js_I 154 8 = some (.aload_n 0, 1) := by decide +kernel
theorem q_154_9 : js_I 154 9 = some (.getfield 33, 3) := by decide +kernel
theorem q_154_12 : js_I 154 12 = some (.aload_n 0, 1) := by decide +kernel
theorem q_154_13 : js_I 154 13 = some (.getfield 9, 3) := by decide +kernel
theorem q_154_16 : js_I 154 16 = some (.arraylength, 1) := by decide +kernel
theorem q_154_17 : js_I 154 17 = some (.if_icmp .le 5, 3) := by decide +kernel
theorem q_154_22 : js_I 154 22 = some (.aload_n 0, 1) := by decide +kernel
theorem q_154_23 : js_I 154 23 = some (.dup, 1) := by decide +kernel
theorem q_154_24 : js_I 154 24 = some (.getfield 33, 3) := by decide +kernel
theorem q_154_27 : js_I 154 27 = some (.iconst 1, 1) := by decide +kernel
theorem q_154_28 : js_I 154 28 = some (.isub, 1) := by decide +kernel
theorem q_154_29 : js_I 154 29 = some (.putfield 33, 3) := by decide +kernel
theorem q_154_32 : js_I 154 32 = some (.aload_n 0, 1) := by decide +kernel
theorem q_154_33 : js_I 154 33 = some (.aload_n 0, 1) := by decide +kernel
theorem q_154_34 : js_I 154 34 = some (.getfield 9, 3) := by decide +kernel
theorem q_154_37 : js_I 154 37 = some (.aload_n 0, 1) := by decide +kernel
theorem q_154_38 : js_I 154 38 = some (.getfield 33, 3) := by decide +kernel
theorem q_154_41 : js_I 154 41 = some (.iaload, 1) := by decide +kernel
theorem q_154_42 : js_I 154 42 = some (.putfield 29, 3) := by decide +kernel
theorem q_154_45 : js_I 154 45 = some (.iconst 0, 1) := by decide +kernel
theorem q_154_46 : js_I 154 46 = some (.ireturn, 1) := by decide +kernel
theorem qf_6_24 : ip_lk (vt_FL.getD 6 []) 24 = some (6, 10) := by decide +kernel
theorem qf_6_27 : ip_lk (vt_FL.getD 6 []) 27 = some (6, 11) := by decide +kernel
theorem qf_6_144 : ip_lk (vt_FL.getD 6 []) 144 = some (9, 2) := by decide +kernel
theorem qf_6_33 : ip_lk (vt_FL.getD 6 []) 33 = some (6, 12) := by decide +kernel
theorem qf_3_29 : ip_lk (vt_FL.getD 3 []) 29 = some (3, 2) := by decide +kernel
theorem qf_3_33 : ip_lk (vt_FL.getD 3 []) 33 = some (3, 3) := by decide +kernel
theorem qf_3_9 : ip_lk (vt_FL.getD 3 []) 9 = some (3, 6) := by decide +kernel
theorem qf_6_130 : ip_lk (vt_FL.getD 6 []) 130 = some (7, 3) := by decide +kernel
theorem qf_9_56 : ip_lk (vt_FL.getD 9 []) 56 = some (7, 0) := by decide +kernel
theorem qf_9_69 : ip_lk (vt_FL.getD 9 []) 69 = some (7, 4) := by decide +kernel
theorem qf_9_72 : ip_lk (vt_FL.getD 9 []) 72 = some (7, 3) := by decide +kernel
theorem qf_3_65 : ip_lk (vt_FL.getD 3 []) 65 = some (1, 1) := by decide +kernel
theorem qf_3_68 : ip_lk (vt_FL.getD 3 []) 68 = some (1, 0) := by decide +kernel
theorem qf_3_71 : ip_lk (vt_FL.getD 3 []) 71 = some (1, 2) := by decide +kernel
theorem qm_6_166 : ip_lk (vt_ML.getD 6 []) 166 = some (140, 2, 1, 9) := by decide +kernel
theorem qm_6_116 : ip_lk (vt_ML.getD 6 []) 116 = some (142, 1, 1, 6) := by decide +kernel
theorem qm_6_123 : ip_lk (vt_ML.getD 6 []) 123 = some (145, 1, 1, 9) := by decide +kernel
theorem qm_6_171 : ip_lk (vt_ML.getD 6 []) 171 = some (162, 1, 1, 9) := by decide +kernel
theorem qm_6_150 : ip_lk (vt_ML.getD 6 []) 150 = some (163, 3, 1, 6) := by decide +kernel
theorem qm_6_135 : ip_lk (vt_ML.getD 6 []) 135 = some (146, 1, 1, 9) := by decide +kernel
theorem qm_6_139 : ip_lk (vt_ML.getD 6 []) 139 = some (164, 2, 1, 3) := by decide +kernel
theorem qm_6_174 : ip_lk (vt_ML.getD 6 []) 174 = some (165, 0, 1, 6) := by decide +kernel
theorem qm_9_42 : ip_lk (vt_ML.getD 9 []) 42 = some (141, 2, 1, 3) := by decide +kernel
theorem qm_3_36 : ip_lk (vt_ML.getD 3 []) 36 = some (6, 5, 4, 0) := by decide +kernel
theorem qm_3_42 : ip_lk (vt_ML.getD 3 []) 42 = some (0, 2, 4, 0) := by decide +kernel
theorem qm_3_48 : ip_lk (vt_ML.getD 3 []) 48 = some (1, 2, 4, 0) := by decide +kernel
theorem qm_6_133 : ip_lk (vt_ML.getD 6 []) 133 = some (143, 1, 1, 9) := by decide +kernel
theorem qm_9_49 : ip_lk (vt_ML.getD 9 []) 49 = some (144, 1, 1, 3) := by decide +kernel
theorem qm_9_52 : ip_lk (vt_ML.getD 9 []) 52 = some (146, 1, 1, 9) := by decide +kernel
theorem qm_9_62 : ip_lk (vt_ML.getD 9 []) 62 = some (147, 1, 1, 3) := by decide +kernel
theorem qm_9_66 : ip_lk (vt_ML.getD 9 []) 66 = some (159, 1, 1, 9) := by decide +kernel
theorem qm_9_75 : ip_lk (vt_ML.getD 9 []) 75 = some (160, 1, 1, 9) := by decide +kernel
theorem qm_3_59 : ip_lk (vt_ML.getD 3 []) 59 = some (92, 1, 1, 1) := by decide +kernel
theorem qm_3_55 : ip_lk (vt_ML.getD 3 []) 55 = some (148, 1, 1, 3) := by decide +kernel
theorem qm_3_74 : ip_lk (vt_ML.getD 3 []) 74 = some (149, 2, 1, 3) := by decide +kernel
theorem qm_3_77 : ip_lk (vt_ML.getD 3 []) 77 = some (151, 2, 1, 3) := by decide +kernel
theorem qm_3_80 : ip_lk (vt_ML.getD 3 []) 80 = some (4, 2, 4, 0) := by decide +kernel
theorem qm_3_83 : ip_lk (vt_ML.getD 3 []) 83 = some (3, 2, 4, 0) := by decide +kernel
theorem qm_3_85 : ip_lk (vt_ML.getD 3 []) 85 = some (152, 2, 1, 3) := by decide +kernel
theorem qm_3_88 : ip_lk (vt_ML.getD 3 []) 88 = some (155, 1, 1, 3) := by decide +kernel
theorem qm_3_92 : ip_lk (vt_ML.getD 3 []) 92 = some (150, 2, 1, 3) := by decide +kernel
theorem qm_3_96 : ip_lk (vt_ML.getD 3 []) 96 = some (153, 1, 1, 3) := by decide +kernel
theorem qm_3_99 : ip_lk (vt_ML.getD 3 []) 99 = some (154, 0, 1, 3) := by decide +kernel
theorem qc_6_170 : ip_lk (vt_CL.getD 6 []) 170 = some (js_V (0, 1000000)) := by decide +kernel
-- 138: VitalTwin$Machine.canProbe ()Z
theorem b_138_0 {E : js_E} {d : Nat} {σ : js_S} : js_J E d 138 0 [(2, 56)] [] σ = (if js_w (σ 56 2) = 0 then js_r E (0, 0) σ else (if js_w (σ 58 0) = 0 then (if js_w (σ 56 3) = 0 then (if js_w (σ 56 8) = 0 then js_r E (0, 1) σ else js_r E (0, 0) σ) else js_r E (0, 0) σ) else js_r E (0, 0) σ)) :=
  (j_aload_n q_138_0 rfl).trans <| (j_get (ji := 2) (v := (0, σ 56 2)) q_138_1 (js_Fo qy_138 qf_6_43) js_o56 rfl rfl rfl rfl).trans <| (j_ifeq (t := 35) q_138_4 rfl).trans (js_ite ((j_iconst q_138_35).trans <| j_breturn0 q_138_36 qr_138) ((j_aload_n q_138_7 rfl).trans <| (j_get (ji := 0) (v := (2, 58)) q_138_8 (js_Fo qy_138 qf_6_20) js_o56 rfl rfl rfl rfl).trans <| (j_get (ji := 0) (v := (0, σ 58 0)) q_138_11 (js_Fo qy_138 qf_6_110) js_o58 rfl rfl rfl rfl).trans <| (j_ifne (t := 35) q_138_14 rfl).trans (js_ite ((j_aload_n q_138_17 rfl).trans <| (j_get (ji := 3) (v := (0, σ 56 3)) q_138_18 (js_Fo qy_138 qf_6_90) js_o56 rfl rfl rfl rfl).trans <| (j_ifne (t := 35) q_138_21 rfl).trans (js_ite ((j_aload_n q_138_24 rfl).trans <| (j_get (ji := 8) (v := (0, σ 56 8)) q_138_25 (js_Fo qy_138 qf_6_96) js_o56 rfl rfl rfl rfl).trans <| (j_ifne (t := 35) q_138_28 rfl).trans (js_ite ((j_iconst q_138_31).trans <| (j_goto (t := 36) q_138_32 rfl).trans <| j_breturn1 q_138_36 qr_138) ((j_iconst q_138_35).trans <| j_breturn0 q_138_36 qr_138))) ((j_iconst q_138_35).trans <| j_breturn0 q_138_36 qr_138))) ((j_iconst q_138_35).trans <| j_breturn0 q_138_36 qr_138))))
-- 139: VitalTwin$Machine.tryBits (IIII)I
theorem b_139_0 {E : js_E} {d : Nat} {σ : js_S} {x1 x2 x3 x4 b : Int} (hb : b = 0 ∨ b = 25) (hp : σ 56 1 = 7 + b) : js_J E d 139 0 [(2, 56), (0, x1), (0, x2), (0, x3), (0, x4), (9, 0), (9, 0), (9, 0)] [] σ = js_J E d 139 15 [(2, 56), (0, x1), (0, x2), (0, x3), (0, x4), (9, 0), (9, 0), (9, 0)] [(0, σ (7 + b) 2), (2, 58), (2, 65)] σ :=
  (j_aload_n q_139_0 rfl).trans <| (j_get (ji := 10) (v := (2, 65)) q_139_1 (js_Fo qy_139 qf_6_24) js_o56 rfl rfl rfl rfl).trans <| (j_aload_n q_139_4 rfl).trans <| (j_get (ji := 0) (v := (2, 58)) q_139_5 (js_Fo qy_139 qf_6_20) js_o56 rfl rfl rfl rfl).trans <| (j_aload_n q_139_8 rfl).trans <| (j_get (ji := 1) (v := (2, 7 + b)) q_139_9 (js_Fo qy_139 qf_6_39) js_o56 rfl rfl rfl (congrArg (Prod.mk 2) hp)).trans <| (j_get (ji := 2) (v := (0, σ (7 + b) 2)) q_139_12 (js_Fo qy_139 qf_6_77) (js_o7b hb) rfl rfl rfl rfl).trans <| rfl
theorem k_139_15 {E : js_E} {d : Nat} {σ σ2 : js_S} {x1 x2 x3 x4 z2 : Int} (hd : 1 ≤ d) (hz : js_J E (d - 1) 140 0 [(2, 65), (2, 58), (0, z2)] [] σ = js_r0 E σ2) : js_J E d 139 15 [(2, 56), (0, x1), (0, x2), (0, x3), (0, x4), (9, 0), (9, 0), (9, 0)] [(0, z2), (2, 58), (2, 65)] σ = js_J E d 139 18 [(2, 56), (0, x1), (0, x2), (0, x3), (0, x4), (9, 0), (9, 0), (9, 0)] [] σ2 :=
  j_call0 (m := 0) (js_caV q_139_15 (js_Mo qy_139 qm_6_166)) (js_agV (av := [(2, 58), (0, z2)]) (st := []) rfl rfl js_o65 rfl) rfl rfl (by rw [ql_140]; exact Nat.le_of_ble_eq_true rfl) (Nat.le_of_ble_eq_true rfl) hd hz
theorem kt_139_15 {E : js_E} {d : Nat} {σ σ2 : js_S} {x1 x2 x3 x4 z2 : Int} {w : Int} (hd : 1 ≤ d) (hz : js_J E (d - 1) 140 0 [(2, 65), (2, 58), (0, z2)] [] σ = js_t E w σ2) : js_J E d 139 15 [(2, 56), (0, x1), (0, x2), (0, x3), (0, x4), (9, 0), (9, 0), (9, 0)] [(0, z2), (2, 58), (2, 65)] σ = js_t E w σ2 :=
  j_callT (m := 0) (js_caV q_139_15 (js_Mo qy_139 qm_6_166)) (js_agV (av := [(2, 58), (0, z2)]) (st := []) rfl rfl js_o65 rfl) rfl rfl (by rw [ql_140]; exact Nat.le_of_ble_eq_true rfl) (Nat.le_of_ble_eq_true rfl) hd rfl hz
theorem b_139_18 {E : js_E} {d : Nat} {σ : js_S} {x1 x2 x3 x4 : Int} : js_J E d 139 18 [(2, 56), (0, x1), (0, x2), (0, x3), (0, x4), (9, 0), (9, 0), (9, 0)] [] σ = js_J E d 139 23 [(2, 56), (0, x1), (0, x2), (0, x3), (0, x4), (9, 0), (9, 0), (9, 0)] [(2, 65), (2, 56)] σ :=
  (j_aload_n q_139_18 rfl).trans <| (j_aload_n q_139_19 rfl).trans <| (j_get (ji := 10) (v := (2, 65)) q_139_20 (js_Fo qy_139 qf_6_24) js_o56 rfl rfl rfl rfl).trans <| rfl
theorem k_139_23 {E : js_E} {d : Nat} {σ σ2 : js_S} {x1 x2 x3 x4 : Int} (hd : 1 ≤ d) (hz : js_J E (d - 1) 142 0 [(2, 56), (2, 65), (9, 0), (9, 0), (9, 0)] [] σ = js_r0 E σ2) : js_J E d 139 23 [(2, 56), (0, x1), (0, x2), (0, x3), (0, x4), (9, 0), (9, 0), (9, 0)] [(2, 65), (2, 56)] σ = js_J E d 139 26 [(2, 56), (0, x1), (0, x2), (0, x3), (0, x4), (9, 0), (9, 0), (9, 0)] [] σ2 :=
  j_call0 (m := 3) (js_caV q_139_23 (js_Mo qy_139 qm_6_116)) (js_agV (av := [(2, 65)]) (st := []) rfl rfl js_o56 rfl) rfl rfl (by rw [ql_142]; exact Nat.le_of_ble_eq_true rfl) (Nat.le_of_ble_eq_true rfl) hd hz
theorem kt_139_23 {E : js_E} {d : Nat} {σ σ2 : js_S} {x1 x2 x3 x4 : Int} {w : Int} (hd : 1 ≤ d) (hz : js_J E (d - 1) 142 0 [(2, 56), (2, 65), (9, 0), (9, 0), (9, 0)] [] σ = js_t E w σ2) : js_J E d 139 23 [(2, 56), (0, x1), (0, x2), (0, x3), (0, x4), (9, 0), (9, 0), (9, 0)] [(2, 65), (2, 56)] σ = js_t E w σ2 :=
  j_callT (m := 3) (js_caV q_139_23 (js_Mo qy_139 qm_6_116)) (js_agV (av := [(2, 65)]) (st := []) rfl rfl js_o56 rfl) rfl rfl (by rw [ql_142]; exact Nat.le_of_ble_eq_true rfl) (Nat.le_of_ble_eq_true rfl) hd rfl hz
theorem b_139_26 {E : js_E} {d : Nat} {σ : js_S} {x1 x2 x3 x4 : Int} : js_J E d 139 26 [(2, 56), (0, x1), (0, x2), (0, x3), (0, x4), (9, 0), (9, 0), (9, 0)] [] σ = js_J E d 139 29 [(2, 56), (0, x1), (0, x2), (0, x3), (0, x4), (0, 0), (9, 0), (9, 0)] [] σ :=
  (j_iconst q_139_26).trans <| (j_istore (l2 := [(2, 56), (0, x1), (0, x2), (0, x3), (0, x4), (0, 0), (9, 0), (9, 0)]) q_139_27 rfl (Nat.le_of_ble_eq_true rfl)).trans <| rfl
theorem b_139_29 {E : js_E} {d : Nat} {σ : js_S} {x1 x2 x3 x4 x5 b : Int} (hb : b = 0 ∨ b = 25) (hp : σ 56 1 = 7 + b) : js_J E d 139 29 [(2, 56), (0, x1), (0, x2), (0, x3), (0, x4), (0, x5), (9, 0), (9, 0)] [] σ = (if js_w x5 < 1000000 then (if js_w x5 < js_w x3 then (if js_w (σ 65 0) = 0 then js_J E d 139 69 [(2, 56), (0, x1), (0, x2), (0, x3), (0, x4), (0, x5), (9, 0), (9, 0)] [] σ else js_J E d 139 60 [(2, 56), (0, x1), (0, x2), (0, x3), (0, x4), (0, x5), (9, 0), (9, 0)] [(2, 7 + b), (2, 65)] σ) else js_J E d 139 69 [(2, 56), (0, x1), (0, x2), (0, x3), (0, x4), (0, x5), (9, 0), (9, 0)] [] σ) else js_J E d 139 69 [(2, 56), (0, x1), (0, x2), (0, x3), (0, x4), (0, x5), (9, 0), (9, 0)] [] σ) :=
  (j_iload q_139_29 rfl).trans <| (j_ldc (v := (0, 1000000)) q_139_31 (js_Co qy_139 qc_6_170)).trans <| (j_cmpgeB (t := 69) q_139_33 rfl ww_1000000).trans (js_ite ((j_iload q_139_36 rfl).trans <| (j_iload_n q_139_38 rfl).trans <| (j_cmpge (t := 69) q_139_39 rfl).trans (js_ite ((j_aload_n q_139_42 rfl).trans <| (j_get (ji := 10) (v := (2, 65)) q_139_43 (js_Fo qy_139 qf_6_24) js_o56 rfl rfl rfl rfl).trans <| (j_get (ji := 0) (v := (0, σ 65 0)) q_139_46 (js_Fo qy_139 qf_6_110) js_o65 rfl rfl rfl rfl).trans <| (j_ifeq (t := 69) q_139_49 rfl).trans (js_ite (rfl) ((j_aload_n q_139_52 rfl).trans <| (j_get (ji := 10) (v := (2, 65)) q_139_53 (js_Fo qy_139 qf_6_24) js_o56 rfl rfl rfl rfl).trans <| (j_aload_n q_139_56 rfl).trans <| (j_get (ji := 1) (v := (2, 7 + b)) q_139_57 (js_Fo qy_139 qf_6_39) js_o56 rfl rfl rfl (congrArg (Prod.mk 2) hp)).trans <| rfl))) (rfl))) (rfl))
theorem k_139_60 {E : js_E} {d : Nat} {σ σ2 : js_S} {x1 x2 x3 x4 x5 b : Int} (hd : 1 ≤ d) (hz : js_J E (d - 1) 145 0 [(2, 65), (2, 7 + b), (9, 0)] [] σ = js_r0 E σ2) : js_J E d 139 60 [(2, 56), (0, x1), (0, x2), (0, x3), (0, x4), (0, x5), (9, 0), (9, 0)] [(2, 7 + b), (2, 65)] σ = js_J E d 139 63 [(2, 56), (0, x1), (0, x2), (0, x3), (0, x4), (0, x5), (9, 0), (9, 0)] [] σ2 :=
  j_call0 (m := 1) (js_caV q_139_60 (js_Mo qy_139 qm_6_123)) (js_agV (av := [(2, 7 + b)]) (st := []) rfl rfl js_o65 rfl) rfl rfl (by rw [ql_145]; exact Nat.le_of_ble_eq_true rfl) (Nat.le_of_ble_eq_true rfl) hd hz
theorem kt_139_60 {E : js_E} {d : Nat} {σ σ2 : js_S} {x1 x2 x3 x4 x5 b : Int} {w : Int} (hd : 1 ≤ d) (hz : js_J E (d - 1) 145 0 [(2, 65), (2, 7 + b), (9, 0)] [] σ = js_t E w σ2) : js_J E d 139 60 [(2, 56), (0, x1), (0, x2), (0, x3), (0, x4), (0, x5), (9, 0), (9, 0)] [(2, 7 + b), (2, 65)] σ = js_t E w σ2 :=
  j_callT (m := 1) (js_caV q_139_60 (js_Mo qy_139 qm_6_123)) (js_agV (av := [(2, 7 + b)]) (st := []) rfl rfl js_o65 rfl) rfl rfl (by rw [ql_145]; exact Nat.le_of_ble_eq_true rfl) (Nat.le_of_ble_eq_true rfl) hd rfl hz
theorem b_139_63 {E : js_E} {d : Nat} {σ : js_S} {x1 x2 x3 x4 x5 : Int} : js_J E d 139 63 [(2, 56), (0, x1), (0, x2), (0, x3), (0, x4), (0, x5), (9, 0), (9, 0)] [] σ = js_J E d 139 29 [(2, 56), (0, x1), (0, x2), (0, x3), (0, x4), (0, x5 + 1), (9, 0), (9, 0)] [] σ :=
  (j_iinc (l2 := [(2, 56), (0, x1), (0, x2), (0, x3), (0, x4), (0, x5 + 1), (9, 0), (9, 0)]) q_139_63 rfl rfl).trans <| (j_goto (t := 29) q_139_66 rfl).trans <| rfl
theorem b_139_69 {E : js_E} {d : Nat} {σ : js_S} {x1 x2 x3 x4 x5 : Int} : js_J E d 139 69 [(2, 56), (0, x1), (0, x2), (0, x3), (0, x4), (0, x5), (9, 0), (9, 0)] [] σ = (if js_w (σ 65 0) = 0 then js_J E d 139 84 [(2, 56), (0, x1), (0, x2), (0, x3), (0, x4), (0, x5), (9, 0), (9, 0)] [(0, 0)] σ else js_J E d 139 84 [(2, 56), (0, x1), (0, x2), (0, x3), (0, x4), (0, x5), (9, 0), (9, 0)] [(0, 1)] σ) :=
  (j_aload_n q_139_69 rfl).trans <| (j_get (ji := 10) (v := (2, 65)) q_139_70 (js_Fo qy_139 qf_6_24) js_o56 rfl rfl rfl rfl).trans <| (j_get (ji := 0) (v := (0, σ 65 0)) q_139_73 (js_Fo qy_139 qf_6_110) js_o65 rfl rfl rfl rfl).trans <| (j_ifeq (t := 83) q_139_76 rfl).trans (js_ite ((j_iconst q_139_83).trans <| rfl) ((j_iconst q_139_79).trans <| (j_goto (t := 84) q_139_80 rfl).trans <| rfl))
theorem b_139_84 {E : js_E} {d : Nat} {σ : js_S} {x1 x2 x3 x4 x5 z0 b : Int} (hb : b = 0 ∨ b = 25) (hp : σ 56 1 = 7 + b) : js_J E d 139 84 [(2, 56), (0, x1), (0, x2), (0, x3), (0, x4), (0, x5), (9, 0), (9, 0)] [(0, z0)] σ = (if js_w z0 = 0 then js_J E d 139 109 [(2, 56), (0, x1), (0, x2), (0, x3), (0, x4), (0, z0), (9, 0), (9, 0)] [] σ else js_J E d 139 106 [(2, 56), (0, x1), (0, x2), (0, x3), (0, x4), (0, z0), (9, 0), (9, 0)] [(0, σ (7 + b) 2), (2, 65), (2, 72)] σ) :=
  (j_istore (l2 := [(2, 56), (0, x1), (0, x2), (0, x3), (0, x4), (0, z0), (9, 0), (9, 0)]) q_139_84 rfl (Nat.le_of_ble_eq_true rfl)).trans <| (j_iload q_139_86 rfl).trans <| (j_ifeq (t := 109) q_139_88 rfl).trans (js_ite (rfl) ((j_aload_n q_139_91 rfl).trans <| (j_get (ji := 11) (v := (2, 72)) q_139_92 (js_Fo qy_139 qf_6_27) js_o56 rfl rfl rfl rfl).trans <| (j_aload_n q_139_95 rfl).trans <| (j_get (ji := 10) (v := (2, 65)) q_139_96 (js_Fo qy_139 qf_6_24) js_o56 rfl rfl rfl rfl).trans <| (j_aload_n q_139_99 rfl).trans <| (j_get (ji := 1) (v := (2, 7 + b)) q_139_100 (js_Fo qy_139 qf_6_39) js_o56 rfl rfl rfl (congrArg (Prod.mk 2) hp)).trans <| (j_get (ji := 2) (v := (0, σ (7 + b) 2)) q_139_103 (js_Fo qy_139 qf_6_77) (js_o7b hb) rfl rfl rfl rfl).trans <| rfl))
theorem k_139_106 {E : js_E} {d : Nat} {σ σ2 : js_S} {x1 x2 x3 x4 x5 z2 : Int} (hd : 1 ≤ d) (hz : js_J E (d - 1) 140 0 [(2, 72), (2, 65), (0, z2)] [] σ = js_r0 E σ2) : js_J E d 139 106 [(2, 56), (0, x1), (0, x2), (0, x3), (0, x4), (0, x5), (9, 0), (9, 0)] [(0, z2), (2, 65), (2, 72)] σ = js_J E d 139 109 [(2, 56), (0, x1), (0, x2), (0, x3), (0, x4), (0, x5), (9, 0), (9, 0)] [] σ2 :=
  j_call0 (m := 0) (js_caV q_139_106 (js_Mo qy_139 qm_6_166)) (js_agV (av := [(2, 65), (0, z2)]) (st := []) rfl rfl js_o72 rfl) rfl rfl (by rw [ql_140]; exact Nat.le_of_ble_eq_true rfl) (Nat.le_of_ble_eq_true rfl) hd hz
theorem kt_139_106 {E : js_E} {d : Nat} {σ σ2 : js_S} {x1 x2 x3 x4 x5 z2 : Int} {w : Int} (hd : 1 ≤ d) (hz : js_J E (d - 1) 140 0 [(2, 72), (2, 65), (0, z2)] [] σ = js_t E w σ2) : js_J E d 139 106 [(2, 56), (0, x1), (0, x2), (0, x3), (0, x4), (0, x5), (9, 0), (9, 0)] [(0, z2), (2, 65), (2, 72)] σ = js_t E w σ2 :=
  j_callT (m := 0) (js_caV q_139_106 (js_Mo qy_139 qm_6_166)) (js_agV (av := [(2, 65), (0, z2)]) (st := []) rfl rfl js_o72 rfl) rfl rfl (by rw [ql_140]; exact Nat.le_of_ble_eq_true rfl) (Nat.le_of_ble_eq_true rfl) hd rfl hz
theorem b_139_109 {E : js_E} {d : Nat} {σ : js_S} {x1 x2 x3 x4 x5 b : Int} (hb : b = 0 ∨ b = 25) (hp : σ 56 1 = 7 + b) : js_J E d 139 109 [(2, 56), (0, x1), (0, x2), (0, x3), (0, x4), (0, x5), (9, 0), (9, 0)] [] σ = js_J E d 139 117 [(2, 56), (0, x1), (0, x2), (0, x3), (0, x4), (0, x5), (9, 0), (9, 0)] [(2, 7 + b), (2, 65)] σ :=
  (j_aload_n q_139_109 rfl).trans <| (j_get (ji := 10) (v := (2, 65)) q_139_110 (js_Fo qy_139 qf_6_24) js_o56 rfl rfl rfl rfl).trans <| (j_aload_n q_139_113 rfl).trans <| (j_get (ji := 1) (v := (2, 7 + b)) q_139_114 (js_Fo qy_139 qf_6_39) js_o56 rfl rfl rfl (congrArg (Prod.mk 2) hp)).trans <| rfl
theorem k_139_117 {E : js_E} {d : Nat} {σ σ2 : js_S} {x1 x2 x3 x4 x5 b : Int} (hd : 1 ≤ d) (hz : js_J E (d - 1) 162 0 [(2, 65), (2, 7 + b), (9, 0)] [] σ = js_r0 E σ2) : js_J E d 139 117 [(2, 56), (0, x1), (0, x2), (0, x3), (0, x4), (0, x5), (9, 0), (9, 0)] [(2, 7 + b), (2, 65)] σ = js_J E d 139 120 [(2, 56), (0, x1), (0, x2), (0, x3), (0, x4), (0, x5), (9, 0), (9, 0)] [] σ2 :=
  j_call0 (m := 1) (js_caV q_139_117 (js_Mo qy_139 qm_6_171)) (js_agV (av := [(2, 7 + b)]) (st := []) rfl rfl js_o65 rfl) rfl rfl (by rw [ql_162]; exact Nat.le_of_ble_eq_true rfl) (Nat.le_of_ble_eq_true rfl) hd hz
theorem kt_139_117 {E : js_E} {d : Nat} {σ σ2 : js_S} {x1 x2 x3 x4 x5 b : Int} {w : Int} (hd : 1 ≤ d) (hz : js_J E (d - 1) 162 0 [(2, 65), (2, 7 + b), (9, 0)] [] σ = js_t E w σ2) : js_J E d 139 117 [(2, 56), (0, x1), (0, x2), (0, x3), (0, x4), (0, x5), (9, 0), (9, 0)] [(2, 7 + b), (2, 65)] σ = js_t E w σ2 :=
  j_callT (m := 1) (js_caV q_139_117 (js_Mo qy_139 qm_6_171)) (js_agV (av := [(2, 7 + b)]) (st := []) rfl rfl js_o65 rfl) rfl rfl (by rw [ql_162]; exact Nat.le_of_ble_eq_true rfl) (Nat.le_of_ble_eq_true rfl) hd rfl hz
theorem b_139_120 {E : js_E} {d : Nat} {σ : js_S} {x1 x2 x3 x4 x5 : Int} : js_J E d 139 120 [(2, 56), (0, x1), (0, x2), (0, x3), (0, x4), (0, x5), (9, 0), (9, 0)] [] σ = (if js_w (σ 65 2) = 4 then (if js_w x5 = 0 then (if js_w x4 = 0 then js_r E (0, 64) σ else js_r E (0, 0) σ) else js_J E d 139 160 [(2, 56), (0, x1), (0, x2), (0, x3), (0, x4), (0, x5), (9, 0), (9, 0)] [(0, 0), (2, 80), (2, 65), (2, 56)] σ) else js_r E (0, (-1)) σ) :=
  (j_aload_n q_139_120 rfl).trans <| (j_get (ji := 10) (v := (2, 65)) q_139_121 (js_Fo qy_139 qf_6_24) js_o56 rfl rfl rfl rfl).trans <| (j_get (ji := 2) (v := (0, σ 65 2)) q_139_124 (js_Fo qy_139 qf_6_144) js_o65 rfl rfl rfl rfl).trans <| (j_iconst q_139_127).trans <| (j_cmpeqB (t := 133) q_139_128 rfl ww_4).trans (js_ite ((j_iload q_139_133 rfl).trans <| (j_ifne (t := 150) q_139_135 rfl).trans (js_ite ((j_iload q_139_138 rfl).trans <| (j_ifne (t := 148) q_139_140 rfl).trans (js_ite ((j_bi q_139_143 rfl).trans <| (j_goto (t := 149) q_139_145 rfl).trans <| j_ireturn q_139_149 qr_139) ((j_iconst q_139_148).trans <| j_ireturn q_139_149 qr_139))) ((j_aload_n q_139_150 rfl).trans <| (j_aload_n q_139_151 rfl).trans <| (j_get (ji := 10) (v := (2, 65)) q_139_152 (js_Fo qy_139 qf_6_24) js_o56 rfl rfl rfl rfl).trans <| (j_aload_n q_139_155 rfl).trans <| (j_get (ji := 12) (v := (2, 80)) q_139_156 (js_Fo qy_139 qf_6_33) js_o56 rfl rfl rfl rfl).trans <| (j_iconst q_139_159).trans <| rfl))) ((j_iconst q_139_131).trans <| j_ireturn q_139_132 qr_139))
theorem k_139_160 {E : js_E} {d : Nat} {σ σ2 : js_S} {x1 x2 x3 x4 x5 z3 : Int} (hd : 1 ≤ d) (hz : js_J E (d - 1) 163 0 [(2, 56), (2, 65), (2, 80), (0, z3), (9, 0), (9, 0), (9, 0), (9, 0)] [] σ = js_r0 E σ2) : js_J E d 139 160 [(2, 56), (0, x1), (0, x2), (0, x3), (0, x4), (0, x5), (9, 0), (9, 0)] [(0, z3), (2, 80), (2, 65), (2, 56)] σ = js_J E d 139 163 [(2, 56), (0, x1), (0, x2), (0, x3), (0, x4), (0, x5), (9, 0), (9, 0)] [] σ2 :=
  j_call0 (m := 4) (js_caV q_139_160 (js_Mo qy_139 qm_6_150)) (js_agV (av := [(2, 65), (2, 80), (0, z3)]) (st := []) rfl rfl js_o56 rfl) rfl rfl (by rw [ql_163]; exact Nat.le_of_ble_eq_true rfl) (Nat.le_of_ble_eq_true rfl) hd hz
theorem kt_139_160 {E : js_E} {d : Nat} {σ σ2 : js_S} {x1 x2 x3 x4 x5 z3 : Int} {w : Int} (hd : 1 ≤ d) (hz : js_J E (d - 1) 163 0 [(2, 56), (2, 65), (2, 80), (0, z3), (9, 0), (9, 0), (9, 0), (9, 0)] [] σ = js_t E w σ2) : js_J E d 139 160 [(2, 56), (0, x1), (0, x2), (0, x3), (0, x4), (0, x5), (9, 0), (9, 0)] [(0, z3), (2, 80), (2, 65), (2, 56)] σ = js_t E w σ2 :=
  j_callT (m := 4) (js_caV q_139_160 (js_Mo qy_139 qm_6_150)) (js_agV (av := [(2, 65), (2, 80), (0, z3)]) (st := []) rfl rfl js_o56 rfl) rfl rfl (by rw [ql_163]; exact Nat.le_of_ble_eq_true rfl) (Nat.le_of_ble_eq_true rfl) hd rfl hz
theorem b_139_163 {E : js_E} {d : Nat} {σ : js_S} {x1 x2 x3 x4 x5 : Int} : js_J E d 139 163 [(2, 56), (0, x1), (0, x2), (0, x3), (0, x4), (0, x5), (9, 0), (9, 0)] [] σ = js_J E d 139 169 [(2, 56), (0, x1), (0, x2), (0, x3), (0, x4), (0, x5), (0, 0), (0, 0)] [] σ :=
  (j_iconst q_139_163).trans <| (j_istore (l2 := [(2, 56), (0, x1), (0, x2), (0, x3), (0, x4), (0, x5), (0, 0), (9, 0)]) q_139_164 rfl (Nat.le_of_ble_eq_true rfl)).trans <| (j_iconst q_139_166).trans <| (j_istore (l2 := [(2, 56), (0, x1), (0, x2), (0, x3), (0, x4), (0, x5), (0, 0), (0, 0)]) q_139_167 rfl (Nat.le_of_ble_eq_true rfl)).trans <| rfl
theorem b_139_169 {E : js_E} {d : Nat} {σ : js_S} {x1 x2 x3 x4 x5 x6 x7 b : Int} (hb : b = 0 ∨ b = 25) (hp : σ 56 1 = 7 + b) : js_J E d 139 169 [(2, 56), (0, x1), (0, x2), (0, x3), (0, x4), (0, x5), (0, x6), (0, x7)] [] σ = (if js_w x7 < 64 then js_J E d 139 191 [(2, 56), (0, x1), (0, x2), (0, x3), (0, x4), (0, x5), (0, x6), (0, x7)] [(0, σ (7 + b) 2), (2, 72), (2, 65)] σ else js_r E (0, x6) σ) :=
  (j_iload q_139_169 rfl).trans <| (j_bi q_139_171 rfl).trans <| (j_cmpgeB (t := 237) q_139_173 rfl ww_64).trans (js_ite ((j_aload_n q_139_176 rfl).trans <| (j_get (ji := 10) (v := (2, 65)) q_139_177 (js_Fo qy_139 qf_6_24) js_o56 rfl rfl rfl rfl).trans <| (j_aload_n q_139_180 rfl).trans <| (j_get (ji := 11) (v := (2, 72)) q_139_181 (js_Fo qy_139 qf_6_27) js_o56 rfl rfl rfl rfl).trans <| (j_aload_n q_139_184 rfl).trans <| (j_get (ji := 1) (v := (2, 7 + b)) q_139_185 (js_Fo qy_139 qf_6_39) js_o56 rfl rfl rfl (congrArg (Prod.mk 2) hp)).trans <| (j_get (ji := 2) (v := (0, σ (7 + b) 2)) q_139_188 (js_Fo qy_139 qf_6_77) (js_o7b hb) rfl rfl rfl rfl).trans <| rfl) ((j_iload q_139_237 rfl).trans <| j_ireturn q_139_239 qr_139))
theorem k_139_191 {E : js_E} {d : Nat} {σ σ2 : js_S} {x1 x2 x3 x4 x5 x6 x7 z2 : Int} (hd : 1 ≤ d) (hz : js_J E (d - 1) 140 0 [(2, 65), (2, 72), (0, z2)] [] σ = js_r0 E σ2) : js_J E d 139 191 [(2, 56), (0, x1), (0, x2), (0, x3), (0, x4), (0, x5), (0, x6), (0, x7)] [(0, z2), (2, 72), (2, 65)] σ = js_J E d 139 194 [(2, 56), (0, x1), (0, x2), (0, x3), (0, x4), (0, x5), (0, x6), (0, x7)] [] σ2 :=
  j_call0 (m := 0) (js_caV q_139_191 (js_Mo qy_139 qm_6_166)) (js_agV (av := [(2, 72), (0, z2)]) (st := []) rfl rfl js_o65 rfl) rfl rfl (by rw [ql_140]; exact Nat.le_of_ble_eq_true rfl) (Nat.le_of_ble_eq_true rfl) hd hz
theorem kt_139_191 {E : js_E} {d : Nat} {σ σ2 : js_S} {x1 x2 x3 x4 x5 x6 x7 z2 : Int} {w : Int} (hd : 1 ≤ d) (hz : js_J E (d - 1) 140 0 [(2, 65), (2, 72), (0, z2)] [] σ = js_t E w σ2) : js_J E d 139 191 [(2, 56), (0, x1), (0, x2), (0, x3), (0, x4), (0, x5), (0, x6), (0, x7)] [(0, z2), (2, 72), (2, 65)] σ = js_t E w σ2 :=
  j_callT (m := 0) (js_caV q_139_191 (js_Mo qy_139 qm_6_166)) (js_agV (av := [(2, 72), (0, z2)]) (st := []) rfl rfl js_o65 rfl) rfl rfl (by rw [ql_140]; exact Nat.le_of_ble_eq_true rfl) (Nat.le_of_ble_eq_true rfl) hd rfl hz
theorem b_139_194 {E : js_E} {d : Nat} {σ : js_S} {x1 x2 x3 x4 x5 x6 x7 : Int} : js_J E d 139 194 [(2, 56), (0, x1), (0, x2), (0, x3), (0, x4), (0, x5), (0, x6), (0, x7)] [] σ = js_J E d 139 199 [(2, 56), (0, x1), (0, x2), (0, x3), (0, x4), (0, x5), (0, x6), (0, x7)] [(0, x1), (2, 65)] σ :=
  (j_aload_n q_139_194 rfl).trans <| (j_get (ji := 10) (v := (2, 65)) q_139_195 (js_Fo qy_139 qf_6_24) js_o56 rfl rfl rfl rfl).trans <| (j_iload_n q_139_198 rfl).trans <| rfl
theorem k_139_199 {E : js_E} {d : Nat} {σ σ2 : js_S} {x1 x2 x3 x4 x5 x6 x7 z1 : Int} {v : Int} (hd : 1 ≤ d) (hz : js_J E (d - 1) 146 0 [(2, 65), (0, z1)] [] σ = js_r E (2, v) σ2) : js_J E d 139 199 [(2, 56), (0, x1), (0, x2), (0, x3), (0, x4), (0, x5), (0, x6), (0, x7)] [(0, z1), (2, 65)] σ = js_J E d 139 202 [(2, 56), (0, x1), (0, x2), (0, x3), (0, x4), (0, x5), (0, x6), (0, x7)] [(2, v)] σ2 :=
  j_call (m := 0) (js_caV q_139_199 (js_Mo qy_139 qm_6_135)) (js_agV (av := [(0, z1)]) (st := []) rfl rfl js_o65 rfl) rfl rfl (by rw [ql_146]; exact Nat.le_of_ble_eq_true rfl) (Nat.le_of_ble_eq_true rfl) hd hz
theorem kt_139_199 {E : js_E} {d : Nat} {σ σ2 : js_S} {x1 x2 x3 x4 x5 x6 x7 z1 : Int} {w : Int} (hd : 1 ≤ d) (hz : js_J E (d - 1) 146 0 [(2, 65), (0, z1)] [] σ = js_t E w σ2) : js_J E d 139 199 [(2, 56), (0, x1), (0, x2), (0, x3), (0, x4), (0, x5), (0, x6), (0, x7)] [(0, z1), (2, 65)] σ = js_t E w σ2 :=
  j_callT (m := 0) (js_caV q_139_199 (js_Mo qy_139 qm_6_135)) (js_agV (av := [(0, z1)]) (st := []) rfl rfl js_o65 rfl) rfl rfl (by rw [ql_146]; exact Nat.le_of_ble_eq_true rfl) (Nat.le_of_ble_eq_true rfl) hd rfl hz
theorem b_139_202 {E : js_E} {d : Nat} {σ : js_S} {x1 x2 x3 x4 x5 x6 x7 z0 : Int} : js_J E d 139 202 [(2, 56), (0, x1), (0, x2), (0, x3), (0, x4), (0, x5), (0, x6), (0, x7)] [(2, z0)] σ = js_J E d 139 205 [(2, 56), (0, x1), (0, x2), (0, x3), (0, x4), (0, x5), (0, x6), (0, x7)] [(0, x7), (0, x2), (2, z0)] σ :=
  (j_iload_n q_139_202 rfl).trans <| (j_iload q_139_203 rfl).trans <| rfl
theorem k_139_205 {E : js_E} {d : Nat} {σ σ2 : js_S} {x1 x2 x3 x4 x5 x6 x7 z0 z1 z2 oz0 : Int} (hC_z0 : js_isC E.1 z0 oz0) (hd : 1 ≤ d) (hz : js_J E (d - 1) 164 0 [(2, z0), (0, z1), (0, z2), (9, 0), (9, 0)] [] σ = js_r0 E σ2) : js_J E d 139 205 [(2, 56), (0, x1), (0, x2), (0, x3), (0, x4), (0, x5), (0, x6), (0, x7)] [(0, z2), (0, z1), (2, z0)] σ = js_J E d 139 208 [(2, 56), (0, x1), (0, x2), (0, x3), (0, x4), (0, x5), (0, x6), (0, x7)] [] σ2 :=
  j_call0 (m := 2) (js_caV q_139_205 (js_Mo qy_139 qm_6_139)) (js_agV (av := [(0, z1), (0, z2)]) (st := []) rfl rfl (hC_z0 _).1 rfl) rfl rfl (by rw [ql_164]; exact Nat.le_of_ble_eq_true rfl) (Nat.le_of_ble_eq_true rfl) hd hz
theorem kt_139_205 {E : js_E} {d : Nat} {σ σ2 : js_S} {x1 x2 x3 x4 x5 x6 x7 z0 z1 z2 oz0 : Int} (hC_z0 : js_isC E.1 z0 oz0) {w : Int} (hd : 1 ≤ d) (hz : js_J E (d - 1) 164 0 [(2, z0), (0, z1), (0, z2), (9, 0), (9, 0)] [] σ = js_t E w σ2) : js_J E d 139 205 [(2, 56), (0, x1), (0, x2), (0, x3), (0, x4), (0, x5), (0, x6), (0, x7)] [(0, z2), (0, z1), (2, z0)] σ = js_t E w σ2 :=
  j_callT (m := 2) (js_caV q_139_205 (js_Mo qy_139 qm_6_139)) (js_agV (av := [(0, z1), (0, z2)]) (st := []) rfl rfl (hC_z0 _).1 rfl) rfl rfl (by rw [ql_164]; exact Nat.le_of_ble_eq_true rfl) (Nat.le_of_ble_eq_true rfl) hd rfl hz
theorem b_139_208 {E : js_E} {d : Nat} {σ : js_S} {x1 x2 x3 x4 x5 x6 x7 b : Int} (hb : b = 0 ∨ b = 25) (hp : σ 56 1 = 7 + b) : js_J E d 139 208 [(2, 56), (0, x1), (0, x2), (0, x3), (0, x4), (0, x5), (0, x6), (0, x7)] [] σ = js_J E d 139 216 [(2, 56), (0, x1), (0, x2), (0, x3), (0, x4), (0, x5), (0, x6), (0, x7)] [(2, 7 + b), (2, 65)] σ :=
  (j_aload_n q_139_208 rfl).trans <| (j_get (ji := 10) (v := (2, 65)) q_139_209 (js_Fo qy_139 qf_6_24) js_o56 rfl rfl rfl rfl).trans <| (j_aload_n q_139_212 rfl).trans <| (j_get (ji := 1) (v := (2, 7 + b)) q_139_213 (js_Fo qy_139 qf_6_39) js_o56 rfl rfl rfl (congrArg (Prod.mk 2) hp)).trans <| rfl
theorem k_139_216 {E : js_E} {d : Nat} {σ σ2 : js_S} {x1 x2 x3 x4 x5 x6 x7 b : Int} (hd : 1 ≤ d) (hz : js_J E (d - 1) 162 0 [(2, 65), (2, 7 + b), (9, 0)] [] σ = js_r0 E σ2) : js_J E d 139 216 [(2, 56), (0, x1), (0, x2), (0, x3), (0, x4), (0, x5), (0, x6), (0, x7)] [(2, 7 + b), (2, 65)] σ = js_J E d 139 219 [(2, 56), (0, x1), (0, x2), (0, x3), (0, x4), (0, x5), (0, x6), (0, x7)] [] σ2 :=
  j_call0 (m := 1) (js_caV q_139_216 (js_Mo qy_139 qm_6_171)) (js_agV (av := [(2, 7 + b)]) (st := []) rfl rfl js_o65 rfl) rfl rfl (by rw [ql_162]; exact Nat.le_of_ble_eq_true rfl) (Nat.le_of_ble_eq_true rfl) hd hz
theorem kt_139_216 {E : js_E} {d : Nat} {σ σ2 : js_S} {x1 x2 x3 x4 x5 x6 x7 b : Int} {w : Int} (hd : 1 ≤ d) (hz : js_J E (d - 1) 162 0 [(2, 65), (2, 7 + b), (9, 0)] [] σ = js_t E w σ2) : js_J E d 139 216 [(2, 56), (0, x1), (0, x2), (0, x3), (0, x4), (0, x5), (0, x6), (0, x7)] [(2, 7 + b), (2, 65)] σ = js_t E w σ2 :=
  j_callT (m := 1) (js_caV q_139_216 (js_Mo qy_139 qm_6_171)) (js_agV (av := [(2, 7 + b)]) (st := []) rfl rfl js_o65 rfl) rfl rfl (by rw [ql_162]; exact Nat.le_of_ble_eq_true rfl) (Nat.le_of_ble_eq_true rfl) hd rfl hz
theorem b_139_219 {E : js_E} {d : Nat} {σ : js_S} {x1 x2 x3 x4 x5 x6 x7 : Int} : js_J E d 139 219 [(2, 56), (0, x1), (0, x2), (0, x3), (0, x4), (0, x5), (0, x6), (0, x7)] [] σ = js_J E d 139 220 [(2, 56), (0, x1), (0, x2), (0, x3), (0, x4), (0, x5), (0, x6), (0, x7)] [(2, 56)] σ :=
  (j_aload_n q_139_219 rfl).trans <| rfl
theorem k_139_220 {E : js_E} {d : Nat} {σ σ2 : js_S} {x1 x2 x3 x4 x5 x6 x7 : Int} {v : Int} (hd : 1 ≤ d) (hz : js_J E (d - 1) 165 0 [(2, 56), (9, 0), (9, 0), (9, 0), (9, 0)] [] σ = js_r E (0, v) σ2) : js_J E d 139 220 [(2, 56), (0, x1), (0, x2), (0, x3), (0, x4), (0, x5), (0, x6), (0, x7)] [(2, 56)] σ = js_J E d 139 223 [(2, 56), (0, x1), (0, x2), (0, x3), (0, x4), (0, x5), (0, x6), (0, x7)] [(0, v)] σ2 :=
  j_call (m := 4) (js_caV q_139_220 (js_Mo qy_139 qm_6_174)) (js_agV (av := []) (st := []) rfl rfl js_o56 rfl) rfl rfl (by rw [ql_165]; exact Nat.le_of_ble_eq_true rfl) (Nat.le_of_ble_eq_true rfl) hd hz
theorem kt_139_220 {E : js_E} {d : Nat} {σ σ2 : js_S} {x1 x2 x3 x4 x5 x6 x7 : Int} {w : Int} (hd : 1 ≤ d) (hz : js_J E (d - 1) 165 0 [(2, 56), (9, 0), (9, 0), (9, 0), (9, 0)] [] σ = js_t E w σ2) : js_J E d 139 220 [(2, 56), (0, x1), (0, x2), (0, x3), (0, x4), (0, x5), (0, x6), (0, x7)] [(2, 56)] σ = js_t E w σ2 :=
  j_callT (m := 4) (js_caV q_139_220 (js_Mo qy_139 qm_6_174)) (js_agV (av := []) (st := []) rfl rfl js_o56 rfl) rfl rfl (by rw [ql_165]; exact Nat.le_of_ble_eq_true rfl) (Nat.le_of_ble_eq_true rfl) hd rfl hz
theorem b_139_223 {E : js_E} {d : Nat} {σ : js_S} {x1 x2 x3 x4 x5 x6 x7 z0 : Int} : js_J E d 139 223 [(2, 56), (0, x1), (0, x2), (0, x3), (0, x4), (0, x5), (0, x6), (0, x7)] [(0, z0)] σ = (if js_w z0 = js_w x4 then js_J E d 139 231 [(2, 56), (0, x1), (0, x2), (0, x3), (0, x4), (0, x5), (0, x6 + 1), (0, x7)] [] σ else js_J E d 139 231 [(2, 56), (0, x1), (0, x2), (0, x3), (0, x4), (0, x5), (0, x6), (0, x7)] [] σ) :=
  (j_iload q_139_223 rfl).trans <| (j_cmpne (t := 231) q_139_225 rfl).trans (js_ite ((j_iinc (l2 := [(2, 56), (0, x1), (0, x2), (0, x3), (0, x4), (0, x5), (0, x6 + 1), (0, x7)]) q_139_228 rfl rfl).trans <| rfl) (rfl))
theorem b_139_231 {E : js_E} {d : Nat} {σ : js_S} {x1 x2 x3 x4 x5 x6 x7 : Int} : js_J E d 139 231 [(2, 56), (0, x1), (0, x2), (0, x3), (0, x4), (0, x5), (0, x6), (0, x7)] [] σ = js_J E d 139 169 [(2, 56), (0, x1), (0, x2), (0, x3), (0, x4), (0, x5), (0, x6), (0, x7 + 1)] [] σ :=
  (j_iinc (l2 := [(2, 56), (0, x1), (0, x2), (0, x3), (0, x4), (0, x5), (0, x6), (0, x7 + 1)]) q_139_231 rfl rfl).trans <| (j_goto (t := 169) q_139_234 rfl).trans <| rfl
-- 140: VitalTwin$Run.takeFrom (LVitalTwin$Run;I)V
theorem b_140_0 {E : js_E} {d : Nat} {σ : js_S} {x2 r q : Int} (hq : q = 0 ∨ q = 7 ∨ q = 14) (hr : r = 0 ∨ r = 7 ∨ r = 14) : js_J E d 140 0 [(2, 58 + r), (2, 58 + q), (0, x2)] [] σ = js_J E d 140 41 [(2, 58 + r), (2, 58 + q), (0, x2)] [(0, x2), (2, 59 + q), (2, 59 + r)] (js_up (js_up (js_up (js_up σ (58 + r) 0 (σ (58 + q) 0)) (58 + r) 1 ((js_up σ (58 + r) 0 (σ (58 + q) 0)) (58 + q) 1)) (58 + r) 3 ((js_up (js_up σ (58 + r) 0 (σ (58 + q) 0)) (58 + r) 1 ((js_up σ (58 + r) 0 (σ (58 + q) 0)) (58 + q) 1)) (58 + q) 3)) (58 + r) 2 ((js_up (js_up (js_up σ (58 + r) 0 (σ (58 + q) 0)) (58 + r) 1 ((js_up σ (58 + r) 0 (σ (58 + q) 0)) (58 + q) 1)) (58 + r) 3 ((js_up (js_up σ (58 + r) 0 (σ (58 + q) 0)) (58 + r) 1 ((js_up σ (58 + r) 0 (σ (58 + q) 0)) (58 + q) 1)) (58 + q) 3)) (58 + q) 2)) :=
  (j_aload_n q_140_0 rfl).trans <| (j_aload_n q_140_1 rfl).trans <| (j_get (ji := 0) (v := (0, σ (58 + q) 0)) q_140_2 (js_Fo qy_140 qf_9_25) (js_o58r hq) rfl rfl rfl rfl).trans <| (j_putI (ji := 0) q_140_5 (js_Fo qy_140 qf_9_25) rfl (js_o58r hr) rfl rfl rfl).trans <| (j_aload_n q_140_8 rfl).trans <| (j_aload_n q_140_9 rfl).trans <| (j_get (ji := 1) (v := (0, (js_up σ (58 + r) 0 (σ (58 + q) 0)) (58 + q) 1)) q_140_10 (js_Fo qy_140 qf_9_29) (js_o58r hq) rfl rfl rfl rfl).trans <| (j_putI (ji := 1) q_140_13 (js_Fo qy_140 qf_9_29) rfl (js_o58r hr) rfl rfl rfl).trans <| (j_aload_n q_140_16 rfl).trans <| (j_aload_n q_140_17 rfl).trans <| (j_get (ji := 3) (v := (0, (js_up (js_up σ (58 + r) 0 (σ (58 + q) 0)) (58 + r) 1 ((js_up σ (58 + r) 0 (σ (58 + q) 0)) (58 + q) 1)) (58 + q) 3)) q_140_18 (js_Fo qy_140 qf_9_32) (js_o58r hq) rfl rfl rfl rfl).trans <| (j_putI (ji := 3) q_140_21 (js_Fo qy_140 qf_9_32) rfl (js_o58r hr) rfl rfl rfl).trans <| (j_aload_n q_140_24 rfl).trans <| (j_aload_n q_140_25 rfl).trans <| (j_get (ji := 2) (v := (0, (js_up (js_up (js_up σ (58 + r) 0 (σ (58 + q) 0)) (58 + r) 1 ((js_up σ (58 + r) 0 (σ (58 + q) 0)) (58 + q) 1)) (58 + r) 3 ((js_up (js_up σ (58 + r) 0 (σ (58 + q) 0)) (58 + r) 1 ((js_up σ (58 + r) 0 (σ (58 + q) 0)) (58 + q) 1)) (58 + q) 3)) (58 + q) 2)) q_140_26 (js_Fo qy_140 qf_9_35) (js_o58r hq) rfl rfl rfl rfl).trans <| (j_putI (ji := 2) q_140_29 (js_Fo qy_140 qf_9_35) rfl (js_o58r hr) rfl rfl rfl).trans <| (j_aload_n q_140_32 rfl).trans <| (j_get (ji := 4) (v := (2, 59 + r)) q_140_33 (js_Fo qy_140 qf_9_14) (js_o58r hr) rfl rfl rfl rfl).trans <| (j_aload_n q_140_36 rfl).trans <| (j_get (ji := 4) (v := (2, 59 + q)) q_140_37 (js_Fo qy_140 qf_9_14) (js_o58r hq) rfl rfl rfl rfl).trans <| (j_iload_n q_140_40 rfl).trans <| rfl
theorem k_140_41 {E : js_E} {d : Nat} {σ σ2 : js_S} {x2 z2 r q : Int} (hr : r = 0 ∨ r = 7 ∨ r = 14) (hd : 1 ≤ d) (hz : js_J E (d - 1) 141 0 [(2, 59 + r), (2, 59 + q), (0, z2)] [] σ = js_r0 E σ2) : js_J E d 140 41 [(2, 58 + r), (2, 58 + q), (0, x2)] [(0, z2), (2, 59 + q), (2, 59 + r)] σ = js_J E d 140 44 [(2, 58 + r), (2, 58 + q), (0, x2)] [] σ2 :=
  j_call0 (m := 0) (js_caV q_140_41 (js_Mo qy_140 qm_9_42)) (js_agV (av := [(2, 59 + q), (0, z2)]) (st := []) rfl rfl (js_o59r hr) rfl) rfl rfl (by rw [ql_141]; exact Nat.le_of_ble_eq_true rfl) (Nat.le_of_ble_eq_true rfl) hd hz
theorem kt_140_41 {E : js_E} {d : Nat} {σ σ2 : js_S} {x2 z2 r q : Int} (hr : r = 0 ∨ r = 7 ∨ r = 14) {w : Int} (hd : 1 ≤ d) (hz : js_J E (d - 1) 141 0 [(2, 59 + r), (2, 59 + q), (0, z2)] [] σ = js_t E w σ2) : js_J E d 140 41 [(2, 58 + r), (2, 58 + q), (0, x2)] [(0, z2), (2, 59 + q), (2, 59 + r)] σ = js_t E w σ2 :=
  j_callT (m := 0) (js_caV q_140_41 (js_Mo qy_140 qm_9_42)) (js_agV (av := [(2, 59 + q), (0, z2)]) (st := []) rfl rfl (js_o59r hr) rfl) rfl rfl (by rw [ql_141]; exact Nat.le_of_ble_eq_true rfl) (Nat.le_of_ble_eq_true rfl) hd rfl hz
theorem b_140_44 {E : js_E} {d : Nat} {σ : js_S} {x2 r q : Int} (hr : r = 0 ∨ r = 7 ∨ r = 14) (hq : q = 0 ∨ q = 7 ∨ q = 14) : js_J E d 140 44 [(2, 58 + r), (2, 58 + q), (0, x2)] [] σ = js_J E d 140 53 [(2, 58 + r), (2, 58 + q), (0, x2)] [(0, x2), (2, 62 + q), (2, 62 + r)] σ :=
  (j_aload_n q_140_44 rfl).trans <| (j_get (ji := 5) (v := (2, 62 + r)) q_140_45 (js_Fo qy_140 qf_9_22) (js_o58r hr) rfl rfl rfl rfl).trans <| (j_aload_n q_140_48 rfl).trans <| (j_get (ji := 5) (v := (2, 62 + q)) q_140_49 (js_Fo qy_140 qf_9_22) (js_o58r hq) rfl rfl rfl rfl).trans <| (j_iload_n q_140_52 rfl).trans <| rfl
theorem k_140_53 {E : js_E} {d : Nat} {σ σ2 : js_S} {x2 z2 r q : Int} (hr : r = 0 ∨ r = 7 ∨ r = 14) (hd : 1 ≤ d) (hz : js_J E (d - 1) 141 0 [(2, 62 + r), (2, 62 + q), (0, z2)] [] σ = js_r0 E σ2) : js_J E d 140 53 [(2, 58 + r), (2, 58 + q), (0, x2)] [(0, z2), (2, 62 + q), (2, 62 + r)] σ = js_J E d 140 56 [(2, 58 + r), (2, 58 + q), (0, x2)] [] σ2 :=
  j_call0 (m := 0) (js_caV q_140_53 (js_Mo qy_140 qm_9_42)) (js_agV (av := [(2, 62 + q), (0, z2)]) (st := []) rfl rfl (js_o62r hr) rfl) rfl rfl (by rw [ql_141]; exact Nat.le_of_ble_eq_true rfl) (Nat.le_of_ble_eq_true rfl) hd hz
theorem kt_140_53 {E : js_E} {d : Nat} {σ σ2 : js_S} {x2 z2 r q : Int} (hr : r = 0 ∨ r = 7 ∨ r = 14) {w : Int} (hd : 1 ≤ d) (hz : js_J E (d - 1) 141 0 [(2, 62 + r), (2, 62 + q), (0, z2)] [] σ = js_t E w σ2) : js_J E d 140 53 [(2, 58 + r), (2, 58 + q), (0, x2)] [(0, z2), (2, 62 + q), (2, 62 + r)] σ = js_t E w σ2 :=
  j_callT (m := 0) (js_caV q_140_53 (js_Mo qy_140 qm_9_42)) (js_agV (av := [(2, 62 + q), (0, z2)]) (st := []) rfl rfl (js_o62r hr) rfl) rfl rfl (by rw [ql_141]; exact Nat.le_of_ble_eq_true rfl) (Nat.le_of_ble_eq_true rfl) hd rfl hz
theorem b_140_56 {E : js_E} {d : Nat} {σ : js_S} {x2 r q : Int} : js_J E d 140 56 [(2, 58 + r), (2, 58 + q), (0, x2)] [] σ = js_r0 E σ :=
  j_return q_140_56 qr_140
-- 141: VitalTwin$Copy.takeFrom (LVitalTwin$Copy;I)V
theorem b_141_0 {E : js_E} {d : Nat} {σ : js_S} {x0 x1 x2 ox0 ox1 : Int} (hd : 4 ≤ d) (hC_x1 : js_isC E.1 x1 ox1) (hC_x0 : js_isC E.1 x0 ox0) (hL_x0 : 59 ≤ x0 ∧ x0 ≤ 76) (hL_x1 : 59 ≤ x1 ∧ x1 ≤ 76) (hcp_47 : 0 ≤ js_w 0 ∧ 0 ≤ js_w 0 ∧ 0 ≤ js_w 16 ∧ js_w 0 + js_w 16 ≤ 16 ∧ js_w 0 + js_w 16 ≤ 16) (hM : 0 ≤ E.1) (hcp_73 : 0 ≤ js_w 0 ∧ 0 ≤ js_w 0 ∧ 0 ≤ js_w (if js_w 0 < js_w (if js_w E.1 < js_w x2 then E.1 else x2) then (if js_w E.1 < js_w x2 then E.1 else x2) else 0) ∧ js_w 0 + js_w (if js_w 0 < js_w (if js_w E.1 < js_w x2 then E.1 else x2) then (if js_w E.1 < js_w x2 then E.1 else x2) else 0) ≤ E.1 ∧ js_w 0 + js_w (if js_w 0 < js_w (if js_w E.1 < js_w x2 then E.1 else x2) then (if js_w E.1 < js_w x2 then E.1 else x2) else 0) ≤ E.1) : js_J E d 141 0 [(2, x0), (2, x1), (0, x2)] [] σ = js_r0 E (js_cp (js_cp (js_up (js_up (js_up (js_up σ x0 0 (σ x1 0)) x0 1 ((js_up σ x0 0 (σ x1 0)) x1 1)) x0 2 ((js_up (js_up σ x0 0 (σ x1 0)) x0 1 ((js_up σ x0 0 (σ x1 0)) x1 1)) x1 2)) x0 3 ((js_up (js_up (js_up σ x0 0 (σ x1 0)) x0 1 ((js_up σ x0 0 (σ x1 0)) x1 1)) x0 2 ((js_up (js_up σ x0 0 (σ x1 0)) x0 1 ((js_up σ x0 0 (σ x1 0)) x1 1)) x1 2)) x1 3)) (x1 + 1) (js_w 0) (x0 + 1) (js_w 0) (js_w 16)) (x1 + 2) (js_w 0) (x0 + 2) (js_w 0) (js_w (if js_w 0 < js_w (if js_w E.1 < js_w x2 then E.1 else x2) then (if js_w E.1 < js_w x2 then E.1 else x2) else 0))) :=
  (j_aload_n q_141_0 rfl).trans <| (j_aload_n q_141_1 rfl).trans <| (j_get (ji := 0) (v := (1, σ x1 0)) q_141_2 (js_Fo qy_141 qf_3_23) (hC_x1 _).1 rfl rfl rfl rfl).trans <| (j_putL (ji := 0) q_141_5 (js_Fo qy_141 qf_3_23) rfl (hC_x0 _).1 rfl rfl rfl).trans <| (j_aload_n q_141_8 rfl).trans <| (j_aload_n q_141_9 rfl).trans <| (j_get (ji := 1) (v := (1, (js_up σ x0 0 (σ x1 0)) x1 1)) q_141_10 (js_Fo qy_141 qf_3_26) (hC_x1 _).1 rfl rfl rfl rfl).trans <| (j_putL (ji := 1) q_141_13 (js_Fo qy_141 qf_3_26) rfl (hC_x0 _).1 rfl rfl rfl).trans <| (j_aload_n q_141_16 rfl).trans <| (j_aload_n q_141_17 rfl).trans <| (j_get (ji := 2) (v := (0, (js_up (js_up σ x0 0 (σ x1 0)) x0 1 ((js_up σ x0 0 (σ x1 0)) x1 1)) x1 2)) q_141_18 (js_Fo qy_141 qf_3_29) (hC_x1 _).1 rfl rfl rfl rfl).trans <| (j_putI (ji := 2) q_141_21 (js_Fo qy_141 qf_3_29) rfl (hC_x0 _).1 rfl rfl rfl).trans <| (j_aload_n q_141_24 rfl).trans <| (j_aload_n q_141_25 rfl).trans <| (j_get (ji := 3) (v := (0, (js_up (js_up (js_up σ x0 0 (σ x1 0)) x0 1 ((js_up σ x0 0 (σ x1 0)) x1 1)) x0 2 ((js_up (js_up σ x0 0 (σ x1 0)) x0 1 ((js_up σ x0 0 (σ x1 0)) x1 1)) x1 2)) x1 3)) q_141_26 (js_Fo qy_141 qf_3_33) (hC_x1 _).1 rfl rfl rfl rfl).trans <| (j_putI (ji := 3) q_141_29 (js_Fo qy_141 qf_3_33) rfl (hC_x0 _).1 rfl rfl rfl).trans <| (j_aload_n q_141_32 rfl).trans <| (j_get (ji := 6) (v := (2, x1 + 1)) q_141_33 (js_Fo qy_141 qf_3_9) (hC_x1 _).1 rfl rfl rfl rfl).trans <| (j_iconst q_141_36).trans <| (j_aload_n q_141_37 rfl).trans <| (j_get (ji := 6) (v := (2, x0 + 1)) q_141_38 (js_Fo qy_141 qf_3_9) (hC_x0 _).1 rfl rfl rfl rfl).trans <| (j_iconst q_141_41).trans <| (j_aload_n q_141_42 rfl).trans <| (j_get (ji := 6) (v := (2, x0 + 1)) q_141_43 (js_Fo qy_141 qf_3_9) (hC_x0 _).1 rfl rfl rfl rfl).trans <| (j_alen q_141_46 (hC_x0 _).2.1 (by decide) (by decide)).trans <| (j_acpI (js_clS q_141_47 (js_Mo qy_141 qm_3_36)) (hC_x1 _).2.1 (hC_x0 _).2.1 (Nat.le_of_ble_eq_true rfl) hd hcp_47).trans <| (j_aload_n q_141_50 rfl).trans <| (j_get (ji := 5) (v := (2, x1 + 2)) q_141_51 (js_Fo qy_141 qf_3_15) (hC_x1 _).1 rfl rfl rfl rfl).trans <| (j_iconst q_141_54).trans <| (j_aload_n q_141_55 rfl).trans <| (j_get (ji := 5) (v := (2, x0 + 2)) q_141_56 (js_Fo qy_141 qf_3_15) (hC_x0 _).1 rfl rfl rfl rfl).trans <| (j_iconst q_141_59).trans <| (j_iconst q_141_60).trans <| (j_iload_n q_141_61 rfl).trans <| (j_aload_n q_141_62 rfl).trans <| (j_get (ji := 5) (v := (2, x0 + 2)) q_141_63 (js_Fo qy_141 qf_3_15) (hC_x0 _).1 rfl rfl rfl rfl).trans <| (j_alen q_141_66 (hC_x0 _).2.2 (by decide) (by omega)).trans <| (j_min (js_clS q_141_67 (js_Mo qy_141 qm_3_42)) (Nat.le_of_ble_eq_true rfl) hd).trans <| (j_max (js_clS q_141_70 (js_Mo qy_141 qm_3_48)) (Nat.le_of_ble_eq_true rfl) hd).trans <| (j_acpL (js_clS q_141_73 (js_Mo qy_141 qm_3_36)) (hC_x1 _).2.2 (hC_x0 _).2.2 (Nat.le_of_ble_eq_true rfl) hd hcp_73).trans <| j_return q_141_76 qr_141
-- 142: VitalTwin$Machine.begin (LVitalTwin$Run;)V
theorem b_142_0 {E : js_E} {d : Nat} {σ : js_S} {q : Int} : js_J E d 142 0 [(2, 56), (2, 58 + q), (9, 0), (9, 0), (9, 0)] [] σ = js_J E d 142 2 [(2, 56), (2, 58 + q), (0, 0), (9, 0), (9, 0)] [] σ :=
  (j_iconst q_142_0).trans <| (j_istore_n (l2 := [(2, 56), (2, 58 + q), (0, 0), (9, 0), (9, 0)]) q_142_1 rfl (Nat.le_of_ble_eq_true rfl)).trans <| rfl
theorem b_142_2 {E : js_E} {d : Nat} {σ : js_S} {x2 b q : Int} {ux3 ux4 : js_v} (hb : b = 0 ∨ b = 25) (hp : σ 56 1 = 7 + b) : js_J E d 142 2 [(2, 56), (2, 58 + q), (0, x2), ux3, ux4] [] σ = (if js_w x2 < js_w (σ (7 + b) 1) then js_J E d 142 18 [(2, 56), (2, 58 + q), (0, x2), ux3, ux4] [(0, x2), (2, 7 + b)] σ else js_J E d 142 97 [(2, 56), (2, 58 + q), (0, x2), ux3, ux4] [(0, σ (7 + b) 3), (2, 58 + q)] σ) :=
  (j_iload_n q_142_2 rfl).trans <| (j_aload_n q_142_3 rfl).trans <| (j_get (ji := 1) (v := (2, 7 + b)) q_142_4 (js_Fo qy_142 qf_6_39) js_o56 rfl rfl rfl (congrArg (Prod.mk 2) hp)).trans <| (j_get (ji := 1) (v := (0, σ (7 + b) 1)) q_142_7 (js_Fo qy_142 qf_6_47) (js_o7b hb) rfl rfl rfl rfl).trans <| (j_cmpge (t := 89) q_142_10 rfl).trans (js_ite ((j_aload_n q_142_13 rfl).trans <| (j_get (ji := 1) (v := (2, 7 + b)) q_142_14 (js_Fo qy_142 qf_6_39) js_o56 rfl rfl rfl (congrArg (Prod.mk 2) hp)).trans <| (j_iload_n q_142_17 rfl).trans <| rfl) ((j_aload_n q_142_89 rfl).trans <| (j_aload_n q_142_90 rfl).trans <| (j_get (ji := 1) (v := (2, 7 + b)) q_142_91 (js_Fo qy_142 qf_6_39) js_o56 rfl rfl rfl (congrArg (Prod.mk 2) hp)).trans <| (j_get (ji := 3) (v := (0, σ (7 + b) 3)) q_142_94 (js_Fo qy_142 qf_6_130) (js_o7b hb) rfl rfl rfl rfl).trans <| rfl))
theorem k_142_18 {E : js_E} {d : Nat} {σ σ2 : js_S} {x2 z1 b q : Int} {ux3 ux4 : js_v} (hb : b = 0 ∨ b = 25) {v : Int} (hd : 1 ≤ d) (hz : js_J E (d - 1) 67 0 [(2, 7 + b), (0, z1)] [] σ = js_r E (2, v) σ2) : js_J E d 142 18 [(2, 56), (2, 58 + q), (0, x2), ux3, ux4] [(0, z1), (2, 7 + b)] σ = js_J E d 142 21 [(2, 56), (2, 58 + q), (0, x2), ux3, ux4] [(2, v)] σ2 :=
  j_call (m := 0) (js_caV q_142_18 (js_Mo qy_142 qm_6_53)) (js_agV (av := [(0, z1)]) (st := []) rfl rfl (js_o7b hb) rfl) rfl rfl (by rw [ql_67]; exact Nat.le_of_ble_eq_true rfl) (Nat.le_of_ble_eq_true rfl) hd hz
theorem kt_142_18 {E : js_E} {d : Nat} {σ σ2 : js_S} {x2 z1 b q : Int} {ux3 ux4 : js_v} (hb : b = 0 ∨ b = 25) {w : Int} (hd : 1 ≤ d) (hz : js_J E (d - 1) 67 0 [(2, 7 + b), (0, z1)] [] σ = js_t E w σ2) : js_J E d 142 18 [(2, 56), (2, 58 + q), (0, x2), ux3, ux4] [(0, z1), (2, 7 + b)] σ = js_t E w σ2 :=
  j_callT (m := 0) (js_caV q_142_18 (js_Mo qy_142 qm_6_53)) (js_agV (av := [(0, z1)]) (st := []) rfl rfl (js_o7b hb) rfl) rfl rfl (by rw [ql_67]; exact Nat.le_of_ble_eq_true rfl) (Nat.le_of_ble_eq_true rfl) hd rfl hz
theorem b_142_21 {E : js_E} {d : Nat} {σ : js_S} {x2 z0 q : Int} {ux3 ux4 : js_v} : js_J E d 142 21 [(2, 56), (2, 58 + q), (0, x2), ux3, ux4] [(2, z0)] σ = (if z0 < 0 then js_J E d 142 83 [(2, 56), (2, 58 + q), (0, x2), (2, z0), ux4] [] σ else js_J E d 142 26 [(2, 56), (2, 58 + q), (0, x2), (2, z0), ux4] [] σ) :=
  (j_astore_n (l2 := [(2, 56), (2, 58 + q), (0, x2), (2, z0), ux4]) q_142_21 rfl (Nat.le_of_ble_eq_true rfl)).trans <| (j_aload_n q_142_22 rfl).trans <| (j_ifnull (t := 83) q_142_23 rfl).trans (js_ite (rfl) (rfl))
theorem b_142_26 {E : js_E} {d : Nat} {σ : js_S} {x2 x3 q : Int} {ux4 : js_v} (hs_x3 : js_desc E.1 σ x3 = some (0, 11, js_sym)) : js_J E d 142 26 [(2, 56), (2, 58 + q), (0, x2), (2, x3), ux4] [] σ = (if js_w (σ x3 1) = 1 then js_J E d 142 40 [(2, 56), (2, 58 + q), (0, x2), (2, x3), (0, σ x3 5)] [] σ else js_J E d 142 83 [(2, 56), (2, 58 + q), (0, x2), (2, x3), ux4] [] σ) :=
  (j_aload_n q_142_26 rfl).trans <| (j_get (ji := 1) (v := (0, σ x3 1)) q_142_27 (js_Fo qy_142 qf_6_57) hs_x3 rfl rfl rfl rfl).trans <| (j_iconst q_142_30).trans <| (j_cmpneB (t := 83) q_142_31 rfl ww_1).trans (js_ite ((j_aload_n q_142_34 rfl).trans <| (j_get (ji := 5) (v := (0, σ x3 5)) q_142_35 (js_Fo qy_142 qf_6_68) hs_x3 rfl rfl rfl rfl).trans <| (j_istore (l2 := [(2, 56), (2, 58 + q), (0, x2), (2, x3), (0, σ x3 5)]) q_142_38 rfl (Nat.le_of_ble_eq_true rfl)).trans <| rfl) (rfl))
theorem b_142_40 {E : js_E} {d : Nat} {σ : js_S} {x2 x3 x4 q : Int} (hs_x3 : js_desc E.1 σ x3 = some (0, 11, js_sym)) (hM : 0 ≤ E.1) : js_J E d 142 40 [(2, 56), (2, 58 + q), (0, x2), (2, x3), (0, x4)] [] σ = (if js_w x4 < js_w ((σ x3 5) + (σ x3 6)) then (if js_w x4 < js_w E.1 then (if 0 ≤ js_w x4 ∧ js_w x4 < E.1 then js_J E d 142 74 [(2, 56), (2, 58 + q), (0, x2), (2, x3), (0, x4)] [(0, σ 79 (js_w x4)), (0, x4), (2, 58 + q)] σ else none) else js_J E d 142 83 [(2, 56), (2, 58 + q), (0, x2), (2, x3), (0, x4)] [] σ) else js_J E d 142 83 [(2, 56), (2, 58 + q), (0, x2), (2, x3), (0, x4)] [] σ) :=
  (j_iload q_142_40 rfl).trans <| (j_aload_n q_142_42 rfl).trans <| (j_get (ji := 5) (v := (0, σ x3 5)) q_142_43 (js_Fo qy_142 qf_6_68) hs_x3 rfl rfl rfl rfl).trans <| (j_aload_n q_142_46 rfl).trans <| (j_get (ji := 6) (v := (0, σ x3 6)) q_142_47 (js_Fo qy_142 qf_6_71) hs_x3 rfl rfl rfl rfl).trans <| (j_iadd q_142_50).trans <| (j_cmpge (t := 83) q_142_51 rfl).trans (js_ite ((j_iload q_142_54 rfl).trans <| (j_aload_n q_142_56 rfl).trans <| (j_get (ji := 5) (v := (2, 79)) q_142_57 (js_Fo qy_142 qf_6_30) js_o56 rfl rfl rfl rfl).trans <| (j_alen q_142_60 js_o79 (by decide) (by omega)).trans <| (j_cmpge (t := 83) q_142_61 rfl).trans (js_ite ((j_aload_n q_142_64 rfl).trans <| (j_iload q_142_65 rfl).trans <| (j_aload_n q_142_67 rfl).trans <| (j_get (ji := 5) (v := (2, 79)) q_142_68 (js_Fo qy_142 qf_6_30) js_o56 rfl rfl rfl rfl).trans <| (j_iload q_142_71 rfl).trans <| (j_iaload q_142_73 js_o79).trans <| js_itp fun g0 => rfl) (rfl))) (rfl))
theorem k_142_74 {E : js_E} {d : Nat} {σ σ2 : js_S} {x2 x3 x4 z1 z2 q : Int} (hq : q = 0 ∨ q = 7 ∨ q = 14) (hd : 1 ≤ d) (hz : js_J E (d - 1) 120 0 [(2, 58 + q), (0, z1), (0, z2)] [] σ = js_r0 E σ2) : js_J E d 142 74 [(2, 56), (2, 58 + q), (0, x2), (2, x3), (0, x4)] [(0, z2), (0, z1), (2, 58 + q)] σ = js_J E d 142 77 [(2, 56), (2, 58 + q), (0, x2), (2, x3), (0, x4)] [] σ2 :=
  j_call0 (m := 0) (js_caV q_142_74 (js_Mo qy_142 qm_6_86)) (js_agV (av := [(0, z1), (0, z2)]) (st := []) rfl rfl (js_o58r hq) rfl) rfl rfl (by rw [ql_120]; exact Nat.le_of_ble_eq_true rfl) (Nat.le_of_ble_eq_true rfl) hd hz
theorem kt_142_74 {E : js_E} {d : Nat} {σ σ2 : js_S} {x2 x3 x4 z1 z2 q : Int} (hq : q = 0 ∨ q = 7 ∨ q = 14) {w : Int} (hd : 1 ≤ d) (hz : js_J E (d - 1) 120 0 [(2, 58 + q), (0, z1), (0, z2)] [] σ = js_t E w σ2) : js_J E d 142 74 [(2, 56), (2, 58 + q), (0, x2), (2, x3), (0, x4)] [(0, z2), (0, z1), (2, 58 + q)] σ = js_t E w σ2 :=
  j_callT (m := 0) (js_caV q_142_74 (js_Mo qy_142 qm_6_86)) (js_agV (av := [(0, z1), (0, z2)]) (st := []) rfl rfl (js_o58r hq) rfl) rfl rfl (by rw [ql_120]; exact Nat.le_of_ble_eq_true rfl) (Nat.le_of_ble_eq_true rfl) hd rfl hz
theorem b_142_77 {E : js_E} {d : Nat} {σ : js_S} {x2 x3 x4 q : Int} : js_J E d 142 77 [(2, 56), (2, 58 + q), (0, x2), (2, x3), (0, x4)] [] σ = js_J E d 142 40 [(2, 56), (2, 58 + q), (0, x2), (2, x3), (0, x4 + 1)] [] σ :=
  (j_iinc (l2 := [(2, 56), (2, 58 + q), (0, x2), (2, x3), (0, x4 + 1)]) q_142_77 rfl rfl).trans <| (j_goto (t := 40) q_142_80 rfl).trans <| rfl
theorem b_142_83 {E : js_E} {d : Nat} {σ : js_S} {x2 x3 q : Int} {ux4 : js_v} : js_J E d 142 83 [(2, 56), (2, 58 + q), (0, x2), (2, x3), ux4] [] σ = js_J E d 142 2 [(2, 56), (2, 58 + q), (0, x2 + 1), (2, x3), ux4] [] σ :=
  (j_iinc (l2 := [(2, 56), (2, 58 + q), (0, x2 + 1), (2, x3), ux4]) q_142_83 rfl rfl).trans <| (j_goto (t := 2) q_142_86 rfl).trans <| rfl
theorem k_142_97 {E : js_E} {d : Nat} {σ σ2 : js_S} {x2 z1 q : Int} {ux3 ux4 : js_v} (hq : q = 0 ∨ q = 7 ∨ q = 14) (hd : 1 ≤ d) (hz : js_J E (d - 1) 143 0 [(2, 58 + q), (0, z1)] [] σ = js_r0 E σ2) : js_J E d 142 97 [(2, 56), (2, 58 + q), (0, x2), ux3, ux4] [(0, z1), (2, 58 + q)] σ = js_J E d 142 100 [(2, 56), (2, 58 + q), (0, x2), ux3, ux4] [] σ2 :=
  j_call0 (m := 0) (js_caV q_142_97 (js_Mo qy_142 qm_6_133)) (js_agV (av := [(0, z1)]) (st := []) rfl rfl (js_o58r hq) rfl) rfl rfl (by rw [ql_143]; exact Nat.le_of_ble_eq_true rfl) (Nat.le_of_ble_eq_true rfl) hd hz
theorem kt_142_97 {E : js_E} {d : Nat} {σ σ2 : js_S} {x2 z1 q : Int} {ux3 ux4 : js_v} (hq : q = 0 ∨ q = 7 ∨ q = 14) {w : Int} (hd : 1 ≤ d) (hz : js_J E (d - 1) 143 0 [(2, 58 + q), (0, z1)] [] σ = js_t E w σ2) : js_J E d 142 97 [(2, 56), (2, 58 + q), (0, x2), ux3, ux4] [(0, z1), (2, 58 + q)] σ = js_t E w σ2 :=
  j_callT (m := 0) (js_caV q_142_97 (js_Mo qy_142 qm_6_133)) (js_agV (av := [(0, z1)]) (st := []) rfl rfl (js_o58r hq) rfl) rfl rfl (by rw [ql_143]; exact Nat.le_of_ble_eq_true rfl) (Nat.le_of_ble_eq_true rfl) hd rfl hz
theorem b_142_100 {E : js_E} {d : Nat} {σ : js_S} {x2 q : Int} {ux3 ux4 : js_v} : js_J E d 142 100 [(2, 56), (2, 58 + q), (0, x2), ux3, ux4] [] σ = js_r0 E σ :=
  j_return q_142_100 qr_142
-- 143: VitalTwin$Run.begin (I)V
theorem b_143_0 {E : js_E} {d : Nat} {σ : js_S} {x1 r : Int} (hr : r = 0 ∨ r = 7 ∨ r = 14) : js_J E d 143 0 [(2, 58 + r), (0, x1)] [] σ = js_J E d 143 25 [(2, 58 + r), (0, x1)] [(0, x1), (2, 59 + r)] (js_up (js_up (js_up (js_up σ (58 + r) 0 1) (58 + r) 1 0) (58 + r) 3 0) (58 + r) 2 0) :=
  (j_aload_n q_143_0 rfl).trans <| (j_iconst q_143_1).trans <| (j_putI (ji := 0) q_143_2 (js_Fo qy_143 qf_9_25) rfl (js_o58r hr) rfl rfl rfl).trans <| (j_aload_n q_143_5 rfl).trans <| (j_iconst q_143_6).trans <| (j_putI (ji := 1) q_143_7 (js_Fo qy_143 qf_9_29) rfl (js_o58r hr) rfl rfl rfl).trans <| (j_aload_n q_143_10 rfl).trans <| (j_iconst q_143_11).trans <| (j_putI (ji := 3) q_143_12 (js_Fo qy_143 qf_9_32) rfl (js_o58r hr) rfl rfl rfl).trans <| (j_aload_n q_143_15 rfl).trans <| (j_iconst q_143_16).trans <| (j_putI (ji := 2) q_143_17 (js_Fo qy_143 qf_9_35) rfl (js_o58r hr) rfl rfl rfl).trans <| (j_aload_n q_143_20 rfl).trans <| (j_get (ji := 4) (v := (2, 59 + r)) q_143_21 (js_Fo qy_143 qf_9_14) (js_o58r hr) rfl rfl rfl rfl).trans <| (j_iload_n q_143_24 rfl).trans <| rfl
theorem k_143_25 {E : js_E} {d : Nat} {σ σ2 : js_S} {x1 z1 r : Int} (hr : r = 0 ∨ r = 7 ∨ r = 14) (hd : 1 ≤ d) (hz : js_J E (d - 1) 144 0 [(2, 59 + r), (0, z1)] [] σ = js_r0 E σ2) : js_J E d 143 25 [(2, 58 + r), (0, x1)] [(0, z1), (2, 59 + r)] σ = js_J E d 143 28 [(2, 58 + r), (0, x1)] [] σ2 :=
  j_call0 (m := 0) (js_caV q_143_25 (js_Mo qy_143 qm_9_49)) (js_agV (av := [(0, z1)]) (st := []) rfl rfl (js_o59r hr) rfl) rfl rfl (by rw [ql_144]; exact Nat.le_of_ble_eq_true rfl) (Nat.le_of_ble_eq_true rfl) hd hz
theorem kt_143_25 {E : js_E} {d : Nat} {σ σ2 : js_S} {x1 z1 r : Int} (hr : r = 0 ∨ r = 7 ∨ r = 14) {w : Int} (hd : 1 ≤ d) (hz : js_J E (d - 1) 144 0 [(2, 59 + r), (0, z1)] [] σ = js_t E w σ2) : js_J E d 143 25 [(2, 58 + r), (0, x1)] [(0, z1), (2, 59 + r)] σ = js_t E w σ2 :=
  j_callT (m := 0) (js_caV q_143_25 (js_Mo qy_143 qm_9_49)) (js_agV (av := [(0, z1)]) (st := []) rfl rfl (js_o59r hr) rfl) rfl rfl (by rw [ql_144]; exact Nat.le_of_ble_eq_true rfl) (Nat.le_of_ble_eq_true rfl) hd rfl hz
theorem b_143_28 {E : js_E} {d : Nat} {σ : js_S} {x1 r : Int} : js_J E d 143 28 [(2, 58 + r), (0, x1)] [] σ = js_r0 E σ :=
  j_return q_143_28 qr_143
-- 144: VitalTwin$Copy.begin (I)V
theorem b_144_0 {E : js_E} {d : Nat} {σ : js_S} {x0 x1 ox0 : Int} (hC_x0 : js_isC E.1 x0 ox0) : js_J E d 144 0 [(2, x0), (0, x1)] [] σ = js_r0 E (js_up (js_up (js_up (js_up σ x0 0 0) x0 1 0) x0 2 x1) x0 3 0) :=
  (j_aload_n q_144_0 rfl).trans <| (j_lconst0 q_144_1).trans <| (j_putL (ji := 0) q_144_2 (js_Fo qy_144 qf_3_23) rfl (hC_x0 _).1 rfl rfl rfl).trans <| (j_aload_n q_144_5 rfl).trans <| (j_lconst0 q_144_6).trans <| (j_putL (ji := 1) q_144_7 (js_Fo qy_144 qf_3_26) rfl (hC_x0 _).1 rfl rfl rfl).trans <| (j_aload_n q_144_10 rfl).trans <| (j_iload_n q_144_11 rfl).trans <| (j_putI (ji := 2) q_144_12 (js_Fo qy_144 qf_3_29) rfl (hC_x0 _).1 rfl rfl rfl).trans <| (j_aload_n q_144_15 rfl).trans <| (j_iconst q_144_16).trans <| (j_putI (ji := 3) q_144_17 (js_Fo qy_144 qf_3_33) rfl (hC_x0 _).1 rfl rfl rfl).trans <| j_return q_144_20 qr_144
-- 145: VitalTwin$Run.step (LVitalTwin$Program;)V
theorem b_145_0 {E : js_E} {d : Nat} {σ : js_S} {b r : Int} (hr : r = 0 ∨ r = 7 ∨ r = 14) : js_J E d 145 0 [(2, 58 + r), (2, 7 + b), (9, 0)] [] σ = js_J E d 145 7 [(2, 58 + r), (2, 7 + b), (9, 0)] [(0, (σ (58 + r) 0) - 1), (2, 58 + r)] σ :=
  (j_aload_n q_145_0 rfl).trans <| (j_aload_n q_145_1 rfl).trans <| (j_get (ji := 0) (v := (0, σ (58 + r) 0)) q_145_2 (js_Fo qy_145 qf_9_25) (js_o58r hr) rfl rfl rfl rfl).trans <| (j_iconst q_145_5).trans <| (j_isub q_145_6).trans <| rfl
theorem k_145_7 {E : js_E} {d : Nat} {σ σ2 : js_S} {z1 b r : Int} (hr : r = 0 ∨ r = 7 ∨ r = 14) {v : Int} (hd : 1 ≤ d) (hz : js_J E (d - 1) 146 0 [(2, 58 + r), (0, z1)] [] σ = js_r E (2, v) σ2) : js_J E d 145 7 [(2, 58 + r), (2, 7 + b), (9, 0)] [(0, z1), (2, 58 + r)] σ = js_J E d 145 10 [(2, 58 + r), (2, 7 + b), (9, 0)] [(2, v)] σ2 :=
  j_call (m := 0) (js_caV q_145_7 (js_Mo qy_145 qm_9_52)) (js_agV (av := [(0, z1)]) (st := []) rfl rfl (js_o58r hr) rfl) rfl rfl (by rw [ql_146]; exact Nat.le_of_ble_eq_true rfl) (Nat.le_of_ble_eq_true rfl) hd hz
theorem kt_145_7 {E : js_E} {d : Nat} {σ σ2 : js_S} {z1 b r : Int} (hr : r = 0 ∨ r = 7 ∨ r = 14) {w : Int} (hd : 1 ≤ d) (hz : js_J E (d - 1) 146 0 [(2, 58 + r), (0, z1)] [] σ = js_t E w σ2) : js_J E d 145 7 [(2, 58 + r), (2, 7 + b), (9, 0)] [(0, z1), (2, 58 + r)] σ = js_t E w σ2 :=
  j_callT (m := 0) (js_caV q_145_7 (js_Mo qy_145 qm_9_52)) (js_agV (av := [(0, z1)]) (st := []) rfl rfl (js_o58r hr) rfl) rfl rfl (by rw [ql_146]; exact Nat.le_of_ble_eq_true rfl) (Nat.le_of_ble_eq_true rfl) hd rfl hz
theorem b_145_10 {E : js_E} {d : Nat} {σ : js_S} {z0 b r : Int} (hb : b = 0 ∨ b = 25) : js_J E d 145 10 [(2, 58 + r), (2, 7 + b), (9, 0)] [(2, z0)] σ = js_J E d 145 14 [(2, 58 + r), (2, 7 + b), (9, 0)] [(2, 8 + b), (2, z0)] σ :=
  (j_aload_n q_145_10 rfl).trans <| (j_get (ji := 0) (v := (2, 8 + b)) q_145_11 (js_Fo qy_145 qf_9_56) (js_o7b hb) rfl rfl rfl rfl).trans <| rfl
theorem k_145_14 {E : js_E} {d : Nat} {σ σ2 : js_S} {z0 b r oz0 : Int} (hC_z0 : js_isC E.1 z0 oz0) {v : Int} (hd : 1 ≤ d) (hz : js_J E (d - 1) 147 0 [(2, z0), (2, 8 + b), (9, 0), (9, 0), (9, 0)] [] σ = js_r E (0, v) σ2) : js_J E d 145 14 [(2, 58 + r), (2, 7 + b), (9, 0)] [(2, 8 + b), (2, z0)] σ = js_J E d 145 17 [(2, 58 + r), (2, 7 + b), (9, 0)] [(0, v)] σ2 :=
  j_call (m := 3) (js_caV q_145_14 (js_Mo qy_145 qm_9_62)) (js_agV (av := [(2, 8 + b)]) (st := []) rfl rfl (hC_z0 _).1 rfl) rfl rfl (by rw [ql_147]; exact Nat.le_of_ble_eq_true rfl) (Nat.le_of_ble_eq_true rfl) hd hz
theorem kt_145_14 {E : js_E} {d : Nat} {σ σ2 : js_S} {z0 b r oz0 : Int} (hC_z0 : js_isC E.1 z0 oz0) {w : Int} (hd : 1 ≤ d) (hz : js_J E (d - 1) 147 0 [(2, z0), (2, 8 + b), (9, 0), (9, 0), (9, 0)] [] σ = js_t E w σ2) : js_J E d 145 14 [(2, 58 + r), (2, 7 + b), (9, 0)] [(2, 8 + b), (2, z0)] σ = js_t E w σ2 :=
  j_callT (m := 3) (js_caV q_145_14 (js_Mo qy_145 qm_9_62)) (js_agV (av := [(2, 8 + b)]) (st := []) rfl rfl (hC_z0 _).1 rfl) rfl rfl (by rw [ql_147]; exact Nat.le_of_ble_eq_true rfl) (Nat.le_of_ble_eq_true rfl) hd rfl hz
theorem b_145_17 {E : js_E} {d : Nat} {σ : js_S} {z0 b r : Int} (hr : r = 0 ∨ r = 7 ∨ r = 14) (hb : b = 0 ∨ b = 25) : js_J E d 145 17 [(2, 58 + r), (2, 7 + b), (9, 0)] [(0, z0)] σ = (if js_w z0 = 2 then js_J E d 145 35 [(2, 58 + r), (2, 7 + b), (0, z0)] [(0, 1), (2, 58 + r)] (js_up σ (58 + r) 1 ((σ (58 + r) 1) + 1)) else (if js_w z0 = 0 then (if js_w (((σ (58 + r) 1) + 1) - (σ (58 + r) 3)) < js_w (σ (7 + b) 4) then js_J E d 145 121 [(2, 58 + r), (2, 7 + b), (0, z0)] [] (js_up σ (58 + r) 1 ((σ (58 + r) 1) + 1)) else js_J E d 145 63 [(2, 58 + r), (2, 7 + b), (0, z0)] [(0, 2), (2, 58 + r)] (js_up σ (58 + r) 1 ((σ (58 + r) 1) + 1))) else (if js_w (σ (58 + r) 0) = 1 then js_J E d 145 98 [(2, 58 + r), (2, 7 + b), (0, z0)] [(0, σ (7 + b) 3), (2, 62 + r)] (js_up (js_up (js_up σ (58 + r) 1 ((σ (58 + r) 1) + 1)) (58 + r) 0 2) (58 + r) 3 ((σ (58 + r) 1) + 1)) else js_J E d 145 107 [(2, 58 + r), (2, 7 + b), (0, z0)] [(2, 7 + b), (2, 58 + r), (2, 58 + r)] (js_up σ (58 + r) 1 ((σ (58 + r) 1) + 1))))) :=
  (j_istore_n (l2 := [(2, 58 + r), (2, 7 + b), (0, z0)]) q_145_17 rfl (Nat.le_of_ble_eq_true rfl)).trans <| (j_aload_n q_145_18 rfl).trans <| (j_dupr q_145_19).trans <| (j_get (ji := 1) (v := (0, σ (58 + r) 1)) q_145_20 (js_Fo qy_145 qf_9_29) (js_o58r hr) rfl rfl rfl rfl).trans <| (j_iconst q_145_23).trans <| (j_iadd q_145_24).trans <| (j_putI (ji := 1) q_145_25 (js_Fo qy_145 qf_9_29) rfl (js_o58r hr) rfl rfl rfl).trans <| (j_iload_n q_145_28 rfl).trans <| (j_iconst q_145_29).trans <| (j_cmpneB (t := 41) q_145_30 rfl ww_2).trans (js_ite ((j_aload_n q_145_33 rfl).trans <| (j_iconst q_145_34).trans <| rfl) ((j_iload_n q_145_41 rfl).trans <| (j_ifne (t := 69) q_145_42 rfl).trans (js_ite ((j_aload_n q_145_45 rfl).trans <| (j_get (ji := 1) (v := (0, (σ (58 + r) 1) + 1)) q_145_46 (js_Fo qy_145 qf_9_29) (js_o58r hr) rfl rfl rfl (congrArg (Prod.mk 0) ((js_up_same _ _ _ _)))).trans <| (j_aload_n q_145_49 rfl).trans <| (j_get (ji := 3) (v := (0, σ (58 + r) 3)) q_145_50 (js_Fo qy_145 qf_9_32) (js_o58r hr) rfl rfl rfl (congrArg (Prod.mk 0) ((js_up_ne _ (by omega))))).trans <| (j_isub q_145_53).trans <| (j_aload_n q_145_54 rfl).trans <| (j_get (ji := 4) (v := (0, σ (7 + b) 4)) q_145_55 (js_Fo qy_145 qf_9_69) (js_o7b hb) rfl rfl rfl (congrArg (Prod.mk 0) ((js_up_ne _ (by omega))))).trans <| (j_cmplt (t := 121) q_145_58 rfl).trans (js_ite (rfl) ((j_aload_n q_145_61 rfl).trans <| (j_iconst q_145_62).trans <| rfl))) ((j_aload_n q_145_69 rfl).trans <| (j_get (ji := 0) (v := (0, σ (58 + r) 0)) q_145_70 (js_Fo qy_145 qf_9_25) (js_o58r hr) rfl rfl rfl (congrArg (Prod.mk 0) ((js_up_ne _ (by omega))))).trans <| (j_iconst q_145_73).trans <| (j_cmpneB (t := 104) q_145_74 rfl ww_1).trans (js_ite ((j_aload_n q_145_77 rfl).trans <| (j_iconst q_145_78).trans <| (j_putI (ji := 0) q_145_79 (js_Fo qy_145 qf_9_25) rfl (js_o58r hr) rfl rfl rfl).trans <| (j_aload_n q_145_82 rfl).trans <| (j_aload_n q_145_83 rfl).trans <| (j_get (ji := 1) (v := (0, (σ (58 + r) 1) + 1)) q_145_84 (js_Fo qy_145 qf_9_29) (js_o58r hr) rfl rfl rfl (congrArg (Prod.mk 0) ((js_up_ne _ (by omega)).trans <| (js_up_same _ _ _ _)))).trans <| (j_putI (ji := 3) q_145_87 (js_Fo qy_145 qf_9_32) rfl (js_o58r hr) rfl rfl rfl).trans <| (j_aload_n q_145_90 rfl).trans <| (j_get (ji := 5) (v := (2, 62 + r)) q_145_91 (js_Fo qy_145 qf_9_22) (js_o58r hr) rfl rfl rfl rfl).trans <| (j_aload_n q_145_94 rfl).trans <| (j_get (ji := 3) (v := (0, σ (7 + b) 3)) q_145_95 (js_Fo qy_145 qf_9_72) (js_o7b hb) rfl rfl rfl (congrArg (Prod.mk 0) ((js_up_ne _ (by omega)).trans <| (js_up_ne _ (by omega)).trans <| (js_up_ne _ (by omega))))).trans <| rfl) ((j_aload_n q_145_104 rfl).trans <| (j_aload_n q_145_105 rfl).trans <| (j_aload_n q_145_106 rfl).trans <| rfl))))))
theorem k_145_35 {E : js_E} {d : Nat} {σ σ2 : js_S} {x2 z1 b r : Int} (hr : r = 0 ∨ r = 7 ∨ r = 14) (hd : 1 ≤ d) (hz : js_J E (d - 1) 159 0 [(2, 58 + r), (0, z1)] [] σ = js_r0 E σ2) : js_J E d 145 35 [(2, 58 + r), (2, 7 + b), (0, x2)] [(0, z1), (2, 58 + r)] σ = js_J E d 145 38 [(2, 58 + r), (2, 7 + b), (0, x2)] [] σ2 :=
  j_call0 (m := 0) (js_caV q_145_35 (js_Mo qy_145 qm_9_66)) (js_agV (av := [(0, z1)]) (st := []) rfl rfl (js_o58r hr) rfl) rfl rfl (by rw [ql_159]; exact Nat.le_of_ble_eq_true rfl) (Nat.le_of_ble_eq_true rfl) hd hz
theorem kt_145_35 {E : js_E} {d : Nat} {σ σ2 : js_S} {x2 z1 b r : Int} (hr : r = 0 ∨ r = 7 ∨ r = 14) {w : Int} (hd : 1 ≤ d) (hz : js_J E (d - 1) 159 0 [(2, 58 + r), (0, z1)] [] σ = js_t E w σ2) : js_J E d 145 35 [(2, 58 + r), (2, 7 + b), (0, x2)] [(0, z1), (2, 58 + r)] σ = js_t E w σ2 :=
  j_callT (m := 0) (js_caV q_145_35 (js_Mo qy_145 qm_9_66)) (js_agV (av := [(0, z1)]) (st := []) rfl rfl (js_o58r hr) rfl) rfl rfl (by rw [ql_159]; exact Nat.le_of_ble_eq_true rfl) (Nat.le_of_ble_eq_true rfl) hd rfl hz
theorem b_145_38 {E : js_E} {d : Nat} {σ : js_S} {x2 b r : Int} : js_J E d 145 38 [(2, 58 + r), (2, 7 + b), (0, x2)] [] σ = js_J E d 145 121 [(2, 58 + r), (2, 7 + b), (0, x2)] [] σ :=
  (j_goto (t := 121) q_145_38 rfl).trans <| rfl
theorem k_145_63 {E : js_E} {d : Nat} {σ σ2 : js_S} {x2 z1 b r : Int} (hr : r = 0 ∨ r = 7 ∨ r = 14) (hd : 1 ≤ d) (hz : js_J E (d - 1) 159 0 [(2, 58 + r), (0, z1)] [] σ = js_r0 E σ2) : js_J E d 145 63 [(2, 58 + r), (2, 7 + b), (0, x2)] [(0, z1), (2, 58 + r)] σ = js_J E d 145 66 [(2, 58 + r), (2, 7 + b), (0, x2)] [] σ2 :=
  j_call0 (m := 0) (js_caV q_145_63 (js_Mo qy_145 qm_9_66)) (js_agV (av := [(0, z1)]) (st := []) rfl rfl (js_o58r hr) rfl) rfl rfl (by rw [ql_159]; exact Nat.le_of_ble_eq_true rfl) (Nat.le_of_ble_eq_true rfl) hd hz
theorem kt_145_63 {E : js_E} {d : Nat} {σ σ2 : js_S} {x2 z1 b r : Int} (hr : r = 0 ∨ r = 7 ∨ r = 14) {w : Int} (hd : 1 ≤ d) (hz : js_J E (d - 1) 159 0 [(2, 58 + r), (0, z1)] [] σ = js_t E w σ2) : js_J E d 145 63 [(2, 58 + r), (2, 7 + b), (0, x2)] [(0, z1), (2, 58 + r)] σ = js_t E w σ2 :=
  j_callT (m := 0) (js_caV q_145_63 (js_Mo qy_145 qm_9_66)) (js_agV (av := [(0, z1)]) (st := []) rfl rfl (js_o58r hr) rfl) rfl rfl (by rw [ql_159]; exact Nat.le_of_ble_eq_true rfl) (Nat.le_of_ble_eq_true rfl) hd rfl hz
theorem b_145_66 {E : js_E} {d : Nat} {σ : js_S} {x2 b r : Int} : js_J E d 145 66 [(2, 58 + r), (2, 7 + b), (0, x2)] [] σ = js_J E d 145 121 [(2, 58 + r), (2, 7 + b), (0, x2)] [] σ :=
  (j_goto (t := 121) q_145_66 rfl).trans <| rfl
theorem k_145_98 {E : js_E} {d : Nat} {σ σ2 : js_S} {x2 z1 b r : Int} (hr : r = 0 ∨ r = 7 ∨ r = 14) (hd : 1 ≤ d) (hz : js_J E (d - 1) 144 0 [(2, 62 + r), (0, z1)] [] σ = js_r0 E σ2) : js_J E d 145 98 [(2, 58 + r), (2, 7 + b), (0, x2)] [(0, z1), (2, 62 + r)] σ = js_J E d 145 101 [(2, 58 + r), (2, 7 + b), (0, x2)] [] σ2 :=
  j_call0 (m := 0) (js_caV q_145_98 (js_Mo qy_145 qm_9_49)) (js_agV (av := [(0, z1)]) (st := []) rfl rfl (js_o62r hr) rfl) rfl rfl (by rw [ql_144]; exact Nat.le_of_ble_eq_true rfl) (Nat.le_of_ble_eq_true rfl) hd hz
theorem kt_145_98 {E : js_E} {d : Nat} {σ σ2 : js_S} {x2 z1 b r : Int} (hr : r = 0 ∨ r = 7 ∨ r = 14) {w : Int} (hd : 1 ≤ d) (hz : js_J E (d - 1) 144 0 [(2, 62 + r), (0, z1)] [] σ = js_t E w σ2) : js_J E d 145 98 [(2, 58 + r), (2, 7 + b), (0, x2)] [(0, z1), (2, 62 + r)] σ = js_t E w σ2 :=
  j_callT (m := 0) (js_caV q_145_98 (js_Mo qy_145 qm_9_49)) (js_agV (av := [(0, z1)]) (st := []) rfl rfl (js_o62r hr) rfl) rfl rfl (by rw [ql_144]; exact Nat.le_of_ble_eq_true rfl) (Nat.le_of_ble_eq_true rfl) hd rfl hz
theorem b_145_101 {E : js_E} {d : Nat} {σ : js_S} {x2 b r : Int} : js_J E d 145 101 [(2, 58 + r), (2, 7 + b), (0, x2)] [] σ = js_J E d 145 121 [(2, 58 + r), (2, 7 + b), (0, x2)] [] σ :=
  (j_goto (t := 121) q_145_101 rfl).trans <| rfl
theorem k_145_107 {E : js_E} {d : Nat} {σ σ2 : js_S} {x2 b r : Int} (hr : r = 0 ∨ r = 7 ∨ r = 14) {v : Int} (hd : 1 ≤ d) (hz : js_J E (d - 1) 160 0 [(2, 58 + r), (2, 7 + b), (9, 0), (9, 0)] [] σ = js_r E (0, v) σ2) : js_J E d 145 107 [(2, 58 + r), (2, 7 + b), (0, x2)] [(2, 7 + b), (2, 58 + r), (2, 58 + r)] σ = js_J E d 145 110 [(2, 58 + r), (2, 7 + b), (0, x2)] [(0, v), (2, 58 + r)] σ2 :=
  j_call (m := 2) (js_caV q_145_107 (js_Mo qy_145 qm_9_75)) (js_agV (av := [(2, 7 + b)]) (st := [(2, 58 + r)]) rfl rfl (js_o58r hr) rfl) rfl rfl (by rw [ql_160]; exact Nat.le_of_ble_eq_true rfl) (Nat.le_of_ble_eq_true rfl) hd hz
theorem kt_145_107 {E : js_E} {d : Nat} {σ σ2 : js_S} {x2 b r : Int} (hr : r = 0 ∨ r = 7 ∨ r = 14) {w : Int} (hd : 1 ≤ d) (hz : js_J E (d - 1) 160 0 [(2, 58 + r), (2, 7 + b), (9, 0), (9, 0)] [] σ = js_t E w σ2) : js_J E d 145 107 [(2, 58 + r), (2, 7 + b), (0, x2)] [(2, 7 + b), (2, 58 + r), (2, 58 + r)] σ = js_t E w σ2 :=
  j_callT (m := 2) (js_caV q_145_107 (js_Mo qy_145 qm_9_75)) (js_agV (av := [(2, 7 + b)]) (st := [(2, 58 + r)]) rfl rfl (js_o58r hr) rfl) rfl rfl (by rw [ql_160]; exact Nat.le_of_ble_eq_true rfl) (Nat.le_of_ble_eq_true rfl) hd rfl hz
theorem b_145_110 {E : js_E} {d : Nat} {σ : js_S} {x2 z1 b r : Int} : js_J E d 145 110 [(2, 58 + r), (2, 7 + b), (0, x2)] [(0, z1), (2, 58 + r)] σ = (if js_w z1 = 0 then js_J E d 145 118 [(2, 58 + r), (2, 7 + b), (0, x2)] [(0, 3), (2, 58 + r)] σ else js_J E d 145 118 [(2, 58 + r), (2, 7 + b), (0, x2)] [(0, 4), (2, 58 + r)] σ) :=
  (j_ifeq (t := 117) q_145_110 rfl).trans (js_ite ((j_iconst q_145_117).trans <| rfl) ((j_iconst q_145_113).trans <| (j_goto (t := 118) q_145_114 rfl).trans <| rfl))
theorem k_145_118 {E : js_E} {d : Nat} {σ σ2 : js_S} {x2 z1 b r : Int} (hr : r = 0 ∨ r = 7 ∨ r = 14) (hd : 1 ≤ d) (hz : js_J E (d - 1) 159 0 [(2, 58 + r), (0, z1)] [] σ = js_r0 E σ2) : js_J E d 145 118 [(2, 58 + r), (2, 7 + b), (0, x2)] [(0, z1), (2, 58 + r)] σ = js_J E d 145 121 [(2, 58 + r), (2, 7 + b), (0, x2)] [] σ2 :=
  j_call0 (m := 0) (js_caV q_145_118 (js_Mo qy_145 qm_9_66)) (js_agV (av := [(0, z1)]) (st := []) rfl rfl (js_o58r hr) rfl) rfl rfl (by rw [ql_159]; exact Nat.le_of_ble_eq_true rfl) (Nat.le_of_ble_eq_true rfl) hd hz
theorem kt_145_118 {E : js_E} {d : Nat} {σ σ2 : js_S} {x2 z1 b r : Int} (hr : r = 0 ∨ r = 7 ∨ r = 14) {w : Int} (hd : 1 ≤ d) (hz : js_J E (d - 1) 159 0 [(2, 58 + r), (0, z1)] [] σ = js_t E w σ2) : js_J E d 145 118 [(2, 58 + r), (2, 7 + b), (0, x2)] [(0, z1), (2, 58 + r)] σ = js_t E w σ2 :=
  j_callT (m := 0) (js_caV q_145_118 (js_Mo qy_145 qm_9_66)) (js_agV (av := [(0, z1)]) (st := []) rfl rfl (js_o58r hr) rfl) rfl rfl (by rw [ql_159]; exact Nat.le_of_ble_eq_true rfl) (Nat.le_of_ble_eq_true rfl) hd rfl hz
theorem b_145_121 {E : js_E} {d : Nat} {σ : js_S} {x2 b r : Int} : js_J E d 145 121 [(2, 58 + r), (2, 7 + b), (0, x2)] [] σ = js_r0 E σ :=
  j_return q_145_121 qr_145
-- 146: VitalTwin$Run.of (I)LVitalTwin$Copy;
theorem b_146_0 {E : js_E} {d : Nat} {σ : js_S} {x1 r : Int} (hr : r = 0 ∨ r = 7 ∨ r = 14) : js_J E d 146 0 [(2, 58 + r), (0, x1)] [] σ = (if js_w x1 = 0 then js_r E (2, 59 + r) σ else js_r E (2, 62 + r) σ) :=
  (j_iload_n q_146_0 rfl).trans <| (j_ifne (t := 11) q_146_1 rfl).trans (js_ite ((j_aload_n q_146_4 rfl).trans <| (j_get (ji := 4) (v := (2, 59 + r)) q_146_5 (js_Fo qy_146 qf_9_14) (js_o58r hr) rfl rfl rfl rfl).trans <| (j_goto (t := 15) q_146_8 rfl).trans <| j_areturn q_146_15 qr_146) ((j_aload_n q_146_11 rfl).trans <| (j_get (ji := 5) (v := (2, 62 + r)) q_146_12 (js_Fo qy_146 qf_9_22) (js_o58r hr) rfl rfl rfl rfl).trans <| j_areturn q_146_15 qr_146))
-- 147: VitalTwin$Copy.step (LVitalTwin$Code;)I
theorem b_147_0 {E : js_E} {d : Nat} {σ : js_S} {x0 b ox0 : Int} (hC_x0 : js_isC E.1 x0 ox0) : js_J E d 147 0 [(2, x0), (2, 8 + b), (9, 0), (9, 0), (9, 0)] [] σ = js_J E d 147 7 [(2, x0), (2, 8 + b), (0, σ x0 2), (9, 0), (9, 0)] [(0, σ x0 2), (2, 8 + b)] σ :=
  (j_aload_n q_147_0 rfl).trans <| (j_get (ji := 2) (v := (0, σ x0 2)) q_147_1 (js_Fo qy_147 qf_3_29) (hC_x0 _).1 rfl rfl rfl rfl).trans <| (j_istore_n (l2 := [(2, x0), (2, 8 + b), (0, σ x0 2), (9, 0), (9, 0)]) q_147_4 rfl (Nat.le_of_ble_eq_true rfl)).trans <| (j_aload_n q_147_5 rfl).trans <| (j_iload_n q_147_6 rfl).trans <| rfl
theorem k_147_7 {E : js_E} {d : Nat} {σ σ2 : js_S} {x0 x2 z1 b : Int} (hb : b = 0 ∨ b = 25) {v : Int} (hd : 1 ≤ d) (hz : js_J E (d - 1) 92 0 [(2, 8 + b), (0, z1)] [] σ = js_r E (0, v) σ2) : js_J E d 147 7 [(2, x0), (2, 8 + b), (0, x2), (9, 0), (9, 0)] [(0, z1), (2, 8 + b)] σ = js_J E d 147 10 [(2, x0), (2, 8 + b), (0, x2), (9, 0), (9, 0)] [(0, v)] σ2 :=
  j_call (m := 0) (js_caV q_147_7 (js_Mo qy_147 qm_3_59)) (js_agV (av := [(0, z1)]) (st := []) rfl rfl (js_o8b hb) rfl) rfl rfl (by rw [ql_92]; exact Nat.le_of_ble_eq_true rfl) (Nat.le_of_ble_eq_true rfl) hd hz
theorem kt_147_7 {E : js_E} {d : Nat} {σ σ2 : js_S} {x0 x2 z1 b : Int} (hb : b = 0 ∨ b = 25) {w : Int} (hd : 1 ≤ d) (hz : js_J E (d - 1) 92 0 [(2, 8 + b), (0, z1)] [] σ = js_t E w σ2) : js_J E d 147 7 [(2, x0), (2, 8 + b), (0, x2), (9, 0), (9, 0)] [(0, z1), (2, 8 + b)] σ = js_t E w σ2 :=
  j_callT (m := 0) (js_caV q_147_7 (js_Mo qy_147 qm_3_59)) (js_agV (av := [(0, z1)]) (st := []) rfl rfl (js_o8b hb) rfl) rfl rfl (by rw [ql_92]; exact Nat.le_of_ble_eq_true rfl) (Nat.le_of_ble_eq_true rfl) hd rfl hz
theorem b_147_10 {E : js_E} {d : Nat} {σ : js_S} {x0 x2 z0 b ox0 : Int} (hC_x0 : js_isC E.1 x0 ox0) (hb : b = 0 ∨ b = 25) (hL_x0 : 59 ≤ x0 ∧ x0 ≤ 76) : js_J E d 147 10 [(2, x0), (2, 8 + b), (0, x2), (9, 0), (9, 0)] [(0, z0)] σ = (if js_w z0 = 0 then js_r E (0, 2) σ else (if 0 ≤ js_w x2 ∧ js_w x2 < 8192 then js_J E d 147 39 [(2, x0), (2, 8 + b), (0, x2), (0, σ (10 + b) (js_w x2)), (0, σ (9 + b) (js_w x2))] [(0, σ (9 + b) (js_w x2))] (js_up σ x0 2 (x2 + 1)) else none)) :=
  (j_ifne (t := 15) q_147_10 rfl).trans (js_ite ((j_iconst q_147_13).trans <| j_ireturn q_147_14 qr_147) ((j_aload_n q_147_15 rfl).trans <| (j_iload_n q_147_16 rfl).trans <| (j_iconst q_147_17).trans <| (j_iadd q_147_18).trans <| (j_putI (ji := 2) q_147_19 (js_Fo qy_147 qf_3_29) rfl (hC_x0 _).1 rfl rfl rfl).trans <| (j_aload_n q_147_22 rfl).trans <| (j_get (ji := 1) (v := (2, 10 + b)) q_147_23 (js_Fo qy_147 qf_3_65) (js_o8b hb) rfl rfl rfl rfl).trans <| (j_iload_n q_147_26 rfl).trans <| (j_ialoadv q_147_27 (js_o10b hb) ((js_up_ne _ (by omega)))).trans <| js_itp fun g0 => (j_istore_n (l2 := [(2, x0), (2, 8 + b), (0, x2), (0, σ (10 + b) (js_w x2)), (9, 0)]) q_147_28 rfl (Nat.le_of_ble_eq_true rfl)).trans <| (j_aload_n q_147_29 rfl).trans <| (j_get (ji := 0) (v := (2, 9 + b)) q_147_30 (js_Fo qy_147 qf_3_68) (js_o8b hb) rfl rfl rfl rfl).trans <| (j_iload_n q_147_33 rfl).trans <| (j_ialoadv q_147_34 (js_o9b hb) ((js_up_ne _ (by omega)))).trans <| (if_pos g0).trans <| (j_istore (l2 := [(2, x0), (2, 8 + b), (0, x2), (0, σ (10 + b) (js_w x2)), (0, σ (9 + b) (js_w x2))]) q_147_35 rfl (Nat.le_of_ble_eq_true rfl)).trans <| (j_iload q_147_37 rfl).trans <| rfl))
theorem s_147_39_0 {E : js_E} {d : Nat} {σ : js_S} {x0 x2 x3 x4 z0 b : Int} (h : js_w z0 = 0) : js_J E d 147 39 [(2, x0), (2, 8 + b), (0, x2), (0, x3), (0, x4)] [(0, z0)] σ = js_J E d 147 148 [(2, x0), (2, 8 + b), (0, x2), (0, x3), (0, x4)] [] σ :=
  j_tsw (t := 148) (off := 109) q_147_39 (by rw [h]; decide) (by rw [h]; decide) (by rw [h]; rfl) rfl
theorem s_147_39_1 {E : js_E} {d : Nat} {σ : js_S} {x0 x2 x3 x4 z0 b : Int} (h : js_w z0 = 1) : js_J E d 147 39 [(2, x0), (2, 8 + b), (0, x2), (0, x3), (0, x4)] [(0, z0)] σ = js_J E d 147 161 [(2, x0), (2, 8 + b), (0, x2), (0, x3), (0, x4)] [] σ :=
  j_tsw (t := 161) (off := 122) q_147_39 (by rw [h]; decide) (by rw [h]; decide) (by rw [h]; rfl) rfl
theorem s_147_39_2 {E : js_E} {d : Nat} {σ : js_S} {x0 x2 x3 x4 z0 b : Int} (h : js_w z0 = 2) : js_J E d 147 39 [(2, x0), (2, 8 + b), (0, x2), (0, x3), (0, x4)] [(0, z0)] σ = js_J E d 147 172 [(2, x0), (2, 8 + b), (0, x2), (0, x3), (0, x4)] [] σ :=
  j_tsw (t := 172) (off := 133) q_147_39 (by rw [h]; decide) (by rw [h]; decide) (by rw [h]; rfl) rfl
theorem s_147_39_3 {E : js_E} {d : Nat} {σ : js_S} {x0 x2 x3 x4 z0 b : Int} (h : js_w z0 = 3) : js_J E d 147 39 [(2, x0), (2, 8 + b), (0, x2), (0, x3), (0, x4)] [(0, z0)] σ = js_J E d 147 183 [(2, x0), (2, 8 + b), (0, x2), (0, x3), (0, x4)] [] σ :=
  j_tsw (t := 183) (off := 144) q_147_39 (by rw [h]; decide) (by rw [h]; decide) (by rw [h]; rfl) rfl
theorem s_147_39_4 {E : js_E} {d : Nat} {σ : js_S} {x0 x2 x3 x4 z0 b : Int} (h : js_w z0 = 4) : js_J E d 147 39 [(2, x0), (2, 8 + b), (0, x2), (0, x3), (0, x4)] [(0, z0)] σ = js_J E d 147 193 [(2, x0), (2, 8 + b), (0, x2), (0, x3), (0, x4)] [] σ :=
  j_tsw (t := 193) (off := 154) q_147_39 (by rw [h]; decide) (by rw [h]; decide) (by rw [h]; rfl) rfl
theorem s_147_39_5 {E : js_E} {d : Nat} {σ : js_S} {x0 x2 x3 x4 z0 b : Int} (h : js_w z0 = 5) : js_J E d 147 39 [(2, x0), (2, 8 + b), (0, x2), (0, x3), (0, x4)] [(0, z0)] σ = js_J E d 147 205 [(2, x0), (2, 8 + b), (0, x2), (0, x3), (0, x4)] [] σ :=
  j_tsw (t := 205) (off := 166) q_147_39 (by rw [h]; decide) (by rw [h]; decide) (by rw [h]; rfl) rfl
theorem s_147_39_6 {E : js_E} {d : Nat} {σ : js_S} {x0 x2 x3 x4 z0 b : Int} (h : js_w z0 = 6) : js_J E d 147 39 [(2, x0), (2, 8 + b), (0, x2), (0, x3), (0, x4)] [(0, z0)] σ = js_J E d 147 257 [(2, x0), (2, 8 + b), (0, x2), (0, x3), (0, x4)] [] σ :=
  j_tsw (t := 257) (off := 218) q_147_39 (by rw [h]; decide) (by rw [h]; decide) (by rw [h]; rfl) rfl
theorem s_147_39_7 {E : js_E} {d : Nat} {σ : js_S} {x0 x2 x3 x4 z0 b : Int} (h : js_w z0 = 7) : js_J E d 147 39 [(2, x0), (2, 8 + b), (0, x2), (0, x3), (0, x4)] [(0, z0)] σ = js_J E d 147 257 [(2, x0), (2, 8 + b), (0, x2), (0, x3), (0, x4)] [] σ :=
  j_tsw (t := 257) (off := 218) q_147_39 (by rw [h]; decide) (by rw [h]; decide) (by rw [h]; rfl) rfl
theorem s_147_39_8 {E : js_E} {d : Nat} {σ : js_S} {x0 x2 x3 x4 z0 b : Int} (h : js_w z0 = 8) : js_J E d 147 39 [(2, x0), (2, 8 + b), (0, x2), (0, x3), (0, x4)] [(0, z0)] σ = js_J E d 147 257 [(2, x0), (2, 8 + b), (0, x2), (0, x3), (0, x4)] [] σ :=
  j_tsw (t := 257) (off := 218) q_147_39 (by rw [h]; decide) (by rw [h]; decide) (by rw [h]; rfl) rfl
theorem s_147_39_9 {E : js_E} {d : Nat} {σ : js_S} {x0 x2 x3 x4 z0 b : Int} (h : js_w z0 = 9) : js_J E d 147 39 [(2, x0), (2, 8 + b), (0, x2), (0, x3), (0, x4)] [(0, z0)] σ = js_J E d 147 257 [(2, x0), (2, 8 + b), (0, x2), (0, x3), (0, x4)] [] σ :=
  j_tsw (t := 257) (off := 218) q_147_39 (by rw [h]; decide) (by rw [h]; decide) (by rw [h]; rfl) rfl
theorem s_147_39_10 {E : js_E} {d : Nat} {σ : js_S} {x0 x2 x3 x4 z0 b : Int} (h : js_w z0 = 10) : js_J E d 147 39 [(2, x0), (2, 8 + b), (0, x2), (0, x3), (0, x4)] [(0, z0)] σ = js_J E d 147 257 [(2, x0), (2, 8 + b), (0, x2), (0, x3), (0, x4)] [] σ :=
  j_tsw (t := 257) (off := 218) q_147_39 (by rw [h]; decide) (by rw [h]; decide) (by rw [h]; rfl) rfl
theorem s_147_39_11 {E : js_E} {d : Nat} {σ : js_S} {x0 x2 x3 x4 z0 b : Int} (h : js_w z0 = 11) : js_J E d 147 39 [(2, x0), (2, 8 + b), (0, x2), (0, x3), (0, x4)] [(0, z0)] σ = js_J E d 147 257 [(2, x0), (2, 8 + b), (0, x2), (0, x3), (0, x4)] [] σ :=
  j_tsw (t := 257) (off := 218) q_147_39 (by rw [h]; decide) (by rw [h]; decide) (by rw [h]; rfl) rfl
theorem s_147_39_12 {E : js_E} {d : Nat} {σ : js_S} {x0 x2 x3 x4 z0 b : Int} (h : js_w z0 = 12) : js_J E d 147 39 [(2, x0), (2, 8 + b), (0, x2), (0, x3), (0, x4)] [(0, z0)] σ = js_J E d 147 257 [(2, x0), (2, 8 + b), (0, x2), (0, x3), (0, x4)] [] σ :=
  j_tsw (t := 257) (off := 218) q_147_39 (by rw [h]; decide) (by rw [h]; decide) (by rw [h]; rfl) rfl
theorem s_147_39_13 {E : js_E} {d : Nat} {σ : js_S} {x0 x2 x3 x4 z0 b : Int} (h : js_w z0 = 13) : js_J E d 147 39 [(2, x0), (2, 8 + b), (0, x2), (0, x3), (0, x4)] [(0, z0)] σ = js_J E d 147 257 [(2, x0), (2, 8 + b), (0, x2), (0, x3), (0, x4)] [] σ :=
  j_tsw (t := 257) (off := 218) q_147_39 (by rw [h]; decide) (by rw [h]; decide) (by rw [h]; rfl) rfl
theorem s_147_39_14 {E : js_E} {d : Nat} {σ : js_S} {x0 x2 x3 x4 z0 b : Int} (h : js_w z0 = 14) : js_J E d 147 39 [(2, x0), (2, 8 + b), (0, x2), (0, x3), (0, x4)] [(0, z0)] σ = js_J E d 147 257 [(2, x0), (2, 8 + b), (0, x2), (0, x3), (0, x4)] [] σ :=
  j_tsw (t := 257) (off := 218) q_147_39 (by rw [h]; decide) (by rw [h]; decide) (by rw [h]; rfl) rfl
theorem s_147_39_15 {E : js_E} {d : Nat} {σ : js_S} {x0 x2 x3 x4 z0 b : Int} (h : js_w z0 = 15) : js_J E d 147 39 [(2, x0), (2, 8 + b), (0, x2), (0, x3), (0, x4)] [(0, z0)] σ = js_J E d 147 257 [(2, x0), (2, 8 + b), (0, x2), (0, x3), (0, x4)] [] σ :=
  j_tsw (t := 257) (off := 218) q_147_39 (by rw [h]; decide) (by rw [h]; decide) (by rw [h]; rfl) rfl
theorem s_147_39_16 {E : js_E} {d : Nat} {σ : js_S} {x0 x2 x3 x4 z0 b : Int} (h : js_w z0 = 16) : js_J E d 147 39 [(2, x0), (2, 8 + b), (0, x2), (0, x3), (0, x4)] [(0, z0)] σ = js_J E d 147 257 [(2, x0), (2, 8 + b), (0, x2), (0, x3), (0, x4)] [] σ :=
  j_tsw (t := 257) (off := 218) q_147_39 (by rw [h]; decide) (by rw [h]; decide) (by rw [h]; rfl) rfl
theorem s_147_39_17 {E : js_E} {d : Nat} {σ : js_S} {x0 x2 x3 x4 z0 b : Int} (h : js_w z0 = 17) : js_J E d 147 39 [(2, x0), (2, 8 + b), (0, x2), (0, x3), (0, x4)] [(0, z0)] σ = js_J E d 147 257 [(2, x0), (2, 8 + b), (0, x2), (0, x3), (0, x4)] [] σ :=
  j_tsw (t := 257) (off := 218) q_147_39 (by rw [h]; decide) (by rw [h]; decide) (by rw [h]; rfl) rfl
theorem s_147_39_18 {E : js_E} {d : Nat} {σ : js_S} {x0 x2 x3 x4 z0 b : Int} (h : js_w z0 = 18) : js_J E d 147 39 [(2, x0), (2, 8 + b), (0, x2), (0, x3), (0, x4)] [(0, z0)] σ = js_J E d 147 257 [(2, x0), (2, 8 + b), (0, x2), (0, x3), (0, x4)] [] σ :=
  j_tsw (t := 257) (off := 218) q_147_39 (by rw [h]; decide) (by rw [h]; decide) (by rw [h]; rfl) rfl
theorem s_147_39_19 {E : js_E} {d : Nat} {σ : js_S} {x0 x2 x3 x4 z0 b : Int} (h : js_w z0 = 19) : js_J E d 147 39 [(2, x0), (2, 8 + b), (0, x2), (0, x3), (0, x4)] [(0, z0)] σ = js_J E d 147 257 [(2, x0), (2, 8 + b), (0, x2), (0, x3), (0, x4)] [] σ :=
  j_tsw (t := 257) (off := 218) q_147_39 (by rw [h]; decide) (by rw [h]; decide) (by rw [h]; rfl) rfl
theorem s_147_39_20 {E : js_E} {d : Nat} {σ : js_S} {x0 x2 x3 x4 z0 b : Int} (h : js_w z0 = 20) : js_J E d 147 39 [(2, x0), (2, 8 + b), (0, x2), (0, x3), (0, x4)] [(0, z0)] σ = js_J E d 147 257 [(2, x0), (2, 8 + b), (0, x2), (0, x3), (0, x4)] [] σ :=
  j_tsw (t := 257) (off := 218) q_147_39 (by rw [h]; decide) (by rw [h]; decide) (by rw [h]; rfl) rfl
theorem s_147_39_21 {E : js_E} {d : Nat} {σ : js_S} {x0 x2 x3 x4 z0 b : Int} (h : js_w z0 = 21) : js_J E d 147 39 [(2, x0), (2, 8 + b), (0, x2), (0, x3), (0, x4)] [(0, z0)] σ = js_J E d 147 257 [(2, x0), (2, 8 + b), (0, x2), (0, x3), (0, x4)] [] σ :=
  j_tsw (t := 257) (off := 218) q_147_39 (by rw [h]; decide) (by rw [h]; decide) (by rw [h]; rfl) rfl
theorem s_147_39_22 {E : js_E} {d : Nat} {σ : js_S} {x0 x2 x3 x4 z0 b : Int} (h : js_w z0 = 22) : js_J E d 147 39 [(2, x0), (2, 8 + b), (0, x2), (0, x3), (0, x4)] [(0, z0)] σ = js_J E d 147 217 [(2, x0), (2, 8 + b), (0, x2), (0, x3), (0, x4)] [] σ :=
  j_tsw (t := 217) (off := 178) q_147_39 (by rw [h]; decide) (by rw [h]; decide) (by rw [h]; rfl) rfl
theorem s_147_39_23 {E : js_E} {d : Nat} {σ : js_S} {x0 x2 x3 x4 z0 b : Int} (h : js_w z0 = 23) : js_J E d 147 39 [(2, x0), (2, 8 + b), (0, x2), (0, x3), (0, x4)] [(0, z0)] σ = js_J E d 147 237 [(2, x0), (2, 8 + b), (0, x2), (0, x3), (0, x4)] [] σ :=
  j_tsw (t := 237) (off := 198) q_147_39 (by rw [h]; decide) (by rw [h]; decide) (by rw [h]; rfl) rfl
theorem s_147_39_d {E : js_E} {d : Nat} {σ : js_S} {x0 x2 x3 x4 z0 b : Int} (h : js_w z0 < 0 ∨ 23 < js_w z0) : js_J E d 147 39 [(2, x0), (2, 8 + b), (0, x2), (0, x3), (0, x4)] [(0, z0)] σ = js_J E d 147 257 [(2, x0), (2, 8 + b), (0, x2), (0, x3), (0, x4)] [] σ :=
  j_tswd (t := 257) q_147_39 h rfl
theorem b_147_148 {E : js_E} {d : Nat} {σ : js_S} {x0 x2 x3 x4 b ox0 : Int} (hC_x0 : js_isC E.1 x0 ox0) : js_J E d 147 148 [(2, x0), (2, 8 + b), (0, x2), (0, x3), (0, x4)] [] σ = js_r E (0, 0) (js_up σ x0 0 ((js_w x3) * ox0)) :=
  (j_aload_n q_147_148 rfl).trans <| (j_iload_n q_147_149 rfl).trans <| (j_i2l q_147_150).trans <| (j_aload_n q_147_151 rfl).trans <| (j_get (ji := 4) (v := (1, ox0)) q_147_152 (js_Fo qy_147 qf_3_19) (hC_x0 _).1 rfl rfl rfl rfl).trans <| (j_lmul q_147_155).trans <| (j_putL (ji := 0) q_147_156 (js_Fo qy_147 qf_3_23) rfl (hC_x0 _).1 rfl rfl rfl).trans <| (j_iconst q_147_159).trans <| j_ireturn q_147_160 qr_147
theorem b_147_161 {E : js_E} {d : Nat} {σ : js_S} {x0 x2 x3 x4 b : Int} : js_J E d 147 161 [(2, x0), (2, 8 + b), (0, x2), (0, x3), (0, x4)] [] σ = js_J E d 147 164 [(2, x0), (2, 8 + b), (0, x2), (0, x3), (0, x4)] [(0, x3), (2, x0), (2, x0)] σ :=
  (j_aload_n q_147_161 rfl).trans <| (j_aload_n q_147_162 rfl).trans <| (j_iload_n q_147_163 rfl).trans <| rfl
theorem k_147_164 {E : js_E} {d : Nat} {σ σ2 : js_S} {x0 x2 x3 x4 z0 z1 z2 b oz1 : Int} (hC_z1 : js_isC E.1 z1 oz1) {v : Int} (hd : 1 ≤ d) (hz : js_J E (d - 1) 148 0 [(2, z1), (0, z2)] [] σ = js_r E (1, v) σ2) : js_J E d 147 164 [(2, x0), (2, 8 + b), (0, x2), (0, x3), (0, x4)] [(0, z2), (2, z1), (2, z0)] σ = js_J E d 147 167 [(2, x0), (2, 8 + b), (0, x2), (0, x3), (0, x4)] [(1, v), (2, z0)] σ2 :=
  j_call (m := 0) (js_caV q_147_164 (js_Mo qy_147 qm_3_55)) (js_agV (av := [(0, z2)]) (st := [(2, z0)]) rfl rfl (hC_z1 _).1 rfl) rfl rfl (by rw [ql_148]; exact Nat.le_of_ble_eq_true rfl) (Nat.le_of_ble_eq_true rfl) hd hz
theorem kt_147_164 {E : js_E} {d : Nat} {σ σ2 : js_S} {x0 x2 x3 x4 z0 z1 z2 b oz1 : Int} (hC_z1 : js_isC E.1 z1 oz1) {w : Int} (hd : 1 ≤ d) (hz : js_J E (d - 1) 148 0 [(2, z1), (0, z2)] [] σ = js_t E w σ2) : js_J E d 147 164 [(2, x0), (2, 8 + b), (0, x2), (0, x3), (0, x4)] [(0, z2), (2, z1), (2, z0)] σ = js_t E w σ2 :=
  j_callT (m := 0) (js_caV q_147_164 (js_Mo qy_147 qm_3_55)) (js_agV (av := [(0, z2)]) (st := [(2, z0)]) rfl rfl (hC_z1 _).1 rfl) rfl rfl (by rw [ql_148]; exact Nat.le_of_ble_eq_true rfl) (Nat.le_of_ble_eq_true rfl) hd rfl hz
theorem b_147_167 {E : js_E} {d : Nat} {σ : js_S} {x0 x2 x3 x4 z0 z1 b oz0 : Int} (hC_z0 : js_isC E.1 z0 oz0) : js_J E d 147 167 [(2, x0), (2, 8 + b), (0, x2), (0, x3), (0, x4)] [(1, z1), (2, z0)] σ = js_r E (0, 0) (js_up σ z0 0 z1) :=
  (j_putL (ji := 0) q_147_167 (js_Fo qy_147 qf_3_23) rfl (hC_z0 _).1 rfl rfl rfl).trans <| (j_iconst q_147_170).trans <| j_ireturn q_147_171 qr_147
theorem b_147_172 {E : js_E} {d : Nat} {σ : js_S} {x0 x2 x3 x4 b ox0 : Int} (hC_x0 : js_isC E.1 x0 ox0) : js_J E d 147 172 [(2, x0), (2, 8 + b), (0, x2), (0, x3), (0, x4)] [] σ = js_J E d 147 178 [(2, x0), (2, 8 + b), (0, x2), (0, x3), (0, x4)] [(1, σ x0 0), (0, x3), (2, x0)] σ :=
  (j_aload_n q_147_172 rfl).trans <| (j_iload_n q_147_173 rfl).trans <| (j_aload_n q_147_174 rfl).trans <| (j_get (ji := 0) (v := (1, σ x0 0)) q_147_175 (js_Fo qy_147 qf_3_23) (hC_x0 _).1 rfl rfl rfl rfl).trans <| rfl
theorem k_147_178 {E : js_E} {d : Nat} {σ σ2 : js_S} {x0 x2 x3 x4 z0 z1 z2 b oz0 : Int} (hC_z0 : js_isC E.1 z0 oz0) (hd : 1 ≤ d) (hz : js_J E (d - 1) 122 0 [(2, z0), (0, z1), (1, z2), (9, 0)] [] σ = js_r0 E σ2) : js_J E d 147 178 [(2, x0), (2, 8 + b), (0, x2), (0, x3), (0, x4)] [(1, z2), (0, z1), (2, z0)] σ = js_J E d 147 181 [(2, x0), (2, 8 + b), (0, x2), (0, x3), (0, x4)] [] σ2 :=
  j_call0 (m := 0) (js_caV q_147_178 (js_Mo qy_147 qm_3_51)) (js_agV (av := [(0, z1), (1, z2)]) (st := []) rfl rfl (hC_z0 _).1 rfl) rfl rfl (by rw [ql_122]; exact Nat.le_of_ble_eq_true rfl) (Nat.le_of_ble_eq_true rfl) hd hz
theorem kt_147_178 {E : js_E} {d : Nat} {σ σ2 : js_S} {x0 x2 x3 x4 z0 z1 z2 b oz0 : Int} (hC_z0 : js_isC E.1 z0 oz0) {w : Int} (hd : 1 ≤ d) (hz : js_J E (d - 1) 122 0 [(2, z0), (0, z1), (1, z2), (9, 0)] [] σ = js_t E w σ2) : js_J E d 147 178 [(2, x0), (2, 8 + b), (0, x2), (0, x3), (0, x4)] [(1, z2), (0, z1), (2, z0)] σ = js_t E w σ2 :=
  j_callT (m := 0) (js_caV q_147_178 (js_Mo qy_147 qm_3_51)) (js_agV (av := [(0, z1), (1, z2)]) (st := []) rfl rfl (hC_z0 _).1 rfl) rfl rfl (by rw [ql_122]; exact Nat.le_of_ble_eq_true rfl) (Nat.le_of_ble_eq_true rfl) hd rfl hz
theorem b_147_181 {E : js_E} {d : Nat} {σ : js_S} {x0 x2 x3 x4 b : Int} : js_J E d 147 181 [(2, x0), (2, 8 + b), (0, x2), (0, x3), (0, x4)] [] σ = js_r E (0, 0) σ :=
  (j_iconst q_147_181).trans <| j_ireturn q_147_182 qr_147
theorem b_147_183 {E : js_E} {d : Nat} {σ : js_S} {x0 x2 x3 x4 b ox0 : Int} (hC_x0 : js_isC E.1 x0 ox0) : js_J E d 147 183 [(2, x0), (2, 8 + b), (0, x2), (0, x3), (0, x4)] [] σ = js_r E (0, 0) (js_up σ x0 1 (σ x0 0)) :=
  (j_aload_n q_147_183 rfl).trans <| (j_aload_n q_147_184 rfl).trans <| (j_get (ji := 0) (v := (1, σ x0 0)) q_147_185 (js_Fo qy_147 qf_3_23) (hC_x0 _).1 rfl rfl rfl rfl).trans <| (j_putL (ji := 1) q_147_188 (js_Fo qy_147 qf_3_26) rfl (hC_x0 _).1 rfl rfl rfl).trans <| (j_iconst q_147_191).trans <| j_ireturn q_147_192 qr_147
theorem b_147_193 {E : js_E} {d : Nat} {σ : js_S} {x0 x2 x3 x4 b : Int} (hb : b = 0 ∨ b = 25) : js_J E d 147 193 [(2, x0), (2, 8 + b), (0, x2), (0, x3), (0, x4)] [] σ = (if 0 ≤ js_w x2 ∧ js_w x2 < 8192 then js_J E d 147 201 [(2, x0), (2, 8 + b), (0, x2), (0, x3), (0, x4)] [(0, σ (11 + b) (js_w x2)), (0, x3), (2, x0)] σ else none) :=
  (j_aload_n q_147_193 rfl).trans <| (j_iload_n q_147_194 rfl).trans <| (j_aload_n q_147_195 rfl).trans <| (j_get (ji := 2) (v := (2, 11 + b)) q_147_196 (js_Fo qy_147 qf_3_71) (js_o8b hb) rfl rfl rfl rfl).trans <| (j_iload_n q_147_199 rfl).trans <| (j_iaload q_147_200 (js_o11b hb)).trans <| js_itp fun g0 => rfl
theorem k_147_201 {E : js_E} {d : Nat} {σ σ2 : js_S} {x0 x2 x3 x4 z0 z1 z2 b oz0 : Int} (hC_z0 : js_isC E.1 z0 oz0) {v : Int} (hd : 1 ≤ d) (hz : js_J E (d - 1) 149 0 [(2, z0), (0, z1), (0, z2), (9, 0)] [] σ = js_r E (0, v) σ2) : js_J E d 147 201 [(2, x0), (2, 8 + b), (0, x2), (0, x3), (0, x4)] [(0, z2), (0, z1), (2, z0)] σ = js_J E d 147 204 [(2, x0), (2, 8 + b), (0, x2), (0, x3), (0, x4)] [(0, v)] σ2 :=
  j_call (m := 1) (js_caV q_147_201 (js_Mo qy_147 qm_3_74)) (js_agV (av := [(0, z1), (0, z2)]) (st := []) rfl rfl (hC_z0 _).1 rfl) rfl rfl (by rw [ql_149]; exact Nat.le_of_ble_eq_true rfl) (Nat.le_of_ble_eq_true rfl) hd hz
theorem kt_147_201 {E : js_E} {d : Nat} {σ σ2 : js_S} {x0 x2 x3 x4 z0 z1 z2 b oz0 : Int} (hC_z0 : js_isC E.1 z0 oz0) {w : Int} (hd : 1 ≤ d) (hz : js_J E (d - 1) 149 0 [(2, z0), (0, z1), (0, z2), (9, 0)] [] σ = js_t E w σ2) : js_J E d 147 201 [(2, x0), (2, 8 + b), (0, x2), (0, x3), (0, x4)] [(0, z2), (0, z1), (2, z0)] σ = js_t E w σ2 :=
  j_callT (m := 1) (js_caV q_147_201 (js_Mo qy_147 qm_3_74)) (js_agV (av := [(0, z1), (0, z2)]) (st := []) rfl rfl (hC_z0 _).1 rfl) rfl rfl (by rw [ql_149]; exact Nat.le_of_ble_eq_true rfl) (Nat.le_of_ble_eq_true rfl) hd rfl hz
theorem b_147_204 {E : js_E} {d : Nat} {σ : js_S} {x0 x2 x3 x4 z0 b : Int} : js_J E d 147 204 [(2, x0), (2, 8 + b), (0, x2), (0, x3), (0, x4)] [(0, z0)] σ = js_r E (0, z0) σ :=
  j_ireturn q_147_204 qr_147
theorem b_147_205 {E : js_E} {d : Nat} {σ : js_S} {x0 x2 x3 x4 b : Int} (hb : b = 0 ∨ b = 25) : js_J E d 147 205 [(2, x0), (2, 8 + b), (0, x2), (0, x3), (0, x4)] [] σ = (if 0 ≤ js_w x2 ∧ js_w x2 < 8192 then js_J E d 147 213 [(2, x0), (2, 8 + b), (0, x2), (0, x3), (0, x4)] [(0, σ (11 + b) (js_w x2)), (0, x3), (2, x0)] σ else none) :=
  (j_aload_n q_147_205 rfl).trans <| (j_iload_n q_147_206 rfl).trans <| (j_aload_n q_147_207 rfl).trans <| (j_get (ji := 2) (v := (2, 11 + b)) q_147_208 (js_Fo qy_147 qf_3_71) (js_o8b hb) rfl rfl rfl rfl).trans <| (j_iload_n q_147_211 rfl).trans <| (j_iaload q_147_212 (js_o11b hb)).trans <| js_itp fun g0 => rfl
theorem k_147_213 {E : js_E} {d : Nat} {σ σ2 : js_S} {x0 x2 x3 x4 z0 z1 z2 b oz0 : Int} (hC_z0 : js_isC E.1 z0 oz0) {v : Int} (hd : 1 ≤ d) (hz : js_J E (d - 1) 151 0 [(2, z0), (0, z1), (0, z2), (9, 0)] [] σ = js_r E (0, v) σ2) : js_J E d 147 213 [(2, x0), (2, 8 + b), (0, x2), (0, x3), (0, x4)] [(0, z2), (0, z1), (2, z0)] σ = js_J E d 147 216 [(2, x0), (2, 8 + b), (0, x2), (0, x3), (0, x4)] [(0, v)] σ2 :=
  j_call (m := 1) (js_caV q_147_213 (js_Mo qy_147 qm_3_77)) (js_agV (av := [(0, z1), (0, z2)]) (st := []) rfl rfl (hC_z0 _).1 rfl) rfl rfl (by rw [ql_151]; exact Nat.le_of_ble_eq_true rfl) (Nat.le_of_ble_eq_true rfl) hd hz
theorem kt_147_213 {E : js_E} {d : Nat} {σ σ2 : js_S} {x0 x2 x3 x4 z0 z1 z2 b oz0 : Int} (hC_z0 : js_isC E.1 z0 oz0) {w : Int} (hd : 1 ≤ d) (hz : js_J E (d - 1) 151 0 [(2, z0), (0, z1), (0, z2), (9, 0)] [] σ = js_t E w σ2) : js_J E d 147 213 [(2, x0), (2, 8 + b), (0, x2), (0, x3), (0, x4)] [(0, z2), (0, z1), (2, z0)] σ = js_t E w σ2 :=
  j_callT (m := 1) (js_caV q_147_213 (js_Mo qy_147 qm_3_77)) (js_agV (av := [(0, z1), (0, z2)]) (st := []) rfl rfl (hC_z0 _).1 rfl) rfl rfl (by rw [ql_151]; exact Nat.le_of_ble_eq_true rfl) (Nat.le_of_ble_eq_true rfl) hd rfl hz
theorem b_147_216 {E : js_E} {d : Nat} {σ : js_S} {x0 x2 x3 x4 z0 b : Int} : js_J E d 147 216 [(2, x0), (2, 8 + b), (0, x2), (0, x3), (0, x4)] [(0, z0)] σ = js_r E (0, z0) σ :=
  j_ireturn q_147_216 qr_147
theorem b_147_217 {E : js_E} {d : Nat} {σ : js_S} {x0 x2 x3 x4 b ox0 : Int} (hd : 4 ≤ d) (hC_x0 : js_isC E.1 x0 ox0) : js_J E d 147 217 [(2, x0), (2, 8 + b), (0, x2), (0, x3), (0, x4)] [] σ = js_r E (0, 0) (js_up σ x0 0 (if js_l ((js_w x3) * ox0) < js_l (σ x0 0) then (σ x0 0) else ((js_w x3) * ox0))) :=
  (j_aload_n q_147_217 rfl).trans <| (j_aload_n q_147_218 rfl).trans <| (j_get (ji := 0) (v := (1, σ x0 0)) q_147_219 (js_Fo qy_147 qf_3_23) (hC_x0 _).1 rfl rfl rfl rfl).trans <| (j_iload_n q_147_222 rfl).trans <| (j_i2l q_147_223).trans <| (j_aload_n q_147_224 rfl).trans <| (j_get (ji := 4) (v := (1, ox0)) q_147_225 (js_Fo qy_147 qf_3_19) (hC_x0 _).1 rfl rfl rfl rfl).trans <| (j_lmul q_147_228).trans <| (j_lmax (js_clS q_147_229 (js_Mo qy_147 qm_3_80)) (Nat.le_of_ble_eq_true rfl) hd).trans <| (j_putL (ji := 0) q_147_232 (js_Fo qy_147 qf_3_23) rfl (hC_x0 _).1 rfl rfl rfl).trans <| (j_iconst q_147_235).trans <| j_ireturn q_147_236 qr_147
theorem b_147_237 {E : js_E} {d : Nat} {σ : js_S} {x0 x2 x3 x4 b ox0 : Int} (hd : 4 ≤ d) (hC_x0 : js_isC E.1 x0 ox0) : js_J E d 147 237 [(2, x0), (2, 8 + b), (0, x2), (0, x3), (0, x4)] [] σ = js_r E (0, 0) (js_up σ x0 0 (if js_l ((js_w x3) * ox0) < js_l (σ x0 0) then ((js_w x3) * ox0) else (σ x0 0))) :=
  (j_aload_n q_147_237 rfl).trans <| (j_aload_n q_147_238 rfl).trans <| (j_get (ji := 0) (v := (1, σ x0 0)) q_147_239 (js_Fo qy_147 qf_3_23) (hC_x0 _).1 rfl rfl rfl rfl).trans <| (j_iload_n q_147_242 rfl).trans <| (j_i2l q_147_243).trans <| (j_aload_n q_147_244 rfl).trans <| (j_get (ji := 4) (v := (1, ox0)) q_147_245 (js_Fo qy_147 qf_3_19) (hC_x0 _).1 rfl rfl rfl rfl).trans <| (j_lmul q_147_248).trans <| (j_lmin (js_clS q_147_249 (js_Mo qy_147 qm_3_83)) (Nat.le_of_ble_eq_true rfl) hd).trans <| (j_putL (ji := 0) q_147_252 (js_Fo qy_147 qf_3_23) rfl (hC_x0 _).1 rfl rfl rfl).trans <| (j_iconst q_147_255).trans <| j_ireturn q_147_256 qr_147
theorem b_147_257 {E : js_E} {d : Nat} {σ : js_S} {x0 x2 x3 x4 b : Int} : js_J E d 147 257 [(2, x0), (2, 8 + b), (0, x2), (0, x3), (0, x4)] [] σ = (if js_w x4 < 24 then js_J E d 147 277 [(2, x0), (2, 8 + b), (0, x2), (0, x3), (0, x4)] [(0, x4), (2, x0)] σ else js_J E d 147 268 [(2, x0), (2, 8 + b), (0, x2), (0, x3), (0, x4)] [(0, x3), (0, x4), (2, x0)] σ) :=
  (j_iload q_147_257 rfl).trans <| (j_bi q_147_259 rfl).trans <| (j_cmpltB (t := 274) q_147_261 rfl ww_24).trans (js_ite ((j_aload_n q_147_274 rfl).trans <| (j_iload q_147_275 rfl).trans <| rfl) ((j_aload_n q_147_264 rfl).trans <| (j_iload q_147_265 rfl).trans <| (j_iload_n q_147_267 rfl).trans <| rfl))
theorem k_147_268 {E : js_E} {d : Nat} {σ σ2 : js_S} {x0 x2 x3 x4 z0 z1 z2 b oz0 : Int} (hC_z0 : js_isC E.1 z0 oz0) {v : Int} (hd : 1 ≤ d) (hz : js_J E (d - 1) 152 0 [(2, z0), (0, z1), (0, z2)] [] σ = js_r E (0, v) σ2) : js_J E d 147 268 [(2, x0), (2, 8 + b), (0, x2), (0, x3), (0, x4)] [(0, z2), (0, z1), (2, z0)] σ = js_J E d 147 271 [(2, x0), (2, 8 + b), (0, x2), (0, x3), (0, x4)] [(0, v)] σ2 :=
  j_call (m := 0) (js_caV q_147_268 (js_Mo qy_147 qm_3_85)) (js_agV (av := [(0, z1), (0, z2)]) (st := []) rfl rfl (hC_z0 _).1 rfl) rfl rfl (by rw [ql_152]; exact Nat.le_of_ble_eq_true rfl) (Nat.le_of_ble_eq_true rfl) hd hz
theorem kt_147_268 {E : js_E} {d : Nat} {σ σ2 : js_S} {x0 x2 x3 x4 z0 z1 z2 b oz0 : Int} (hC_z0 : js_isC E.1 z0 oz0) {w : Int} (hd : 1 ≤ d) (hz : js_J E (d - 1) 152 0 [(2, z0), (0, z1), (0, z2)] [] σ = js_t E w σ2) : js_J E d 147 268 [(2, x0), (2, 8 + b), (0, x2), (0, x3), (0, x4)] [(0, z2), (0, z1), (2, z0)] σ = js_t E w σ2 :=
  j_callT (m := 0) (js_caV q_147_268 (js_Mo qy_147 qm_3_85)) (js_agV (av := [(0, z1), (0, z2)]) (st := []) rfl rfl (hC_z0 _).1 rfl) rfl rfl (by rw [ql_152]; exact Nat.le_of_ble_eq_true rfl) (Nat.le_of_ble_eq_true rfl) hd rfl hz
theorem b_147_271 {E : js_E} {d : Nat} {σ : js_S} {x0 x2 x3 x4 z0 b : Int} : js_J E d 147 271 [(2, x0), (2, 8 + b), (0, x2), (0, x3), (0, x4)] [(0, z0)] σ = js_J E d 147 280 [(2, x0), (2, 8 + b), (0, x2), (0, x3), (0, x4)] [(0, z0)] σ :=
  (j_goto (t := 280) q_147_271 rfl).trans <| rfl
theorem k_147_277 {E : js_E} {d : Nat} {σ σ2 : js_S} {x0 x2 x3 x4 z0 z1 b oz0 : Int} (hC_z0 : js_isC E.1 z0 oz0) {v : Int} (hd : 1 ≤ d) (hz : js_J E (d - 1) 155 0 [(2, z0), (0, z1)] [] σ = js_r E (0, v) σ2) : js_J E d 147 277 [(2, x0), (2, 8 + b), (0, x2), (0, x3), (0, x4)] [(0, z1), (2, z0)] σ = js_J E d 147 280 [(2, x0), (2, 8 + b), (0, x2), (0, x3), (0, x4)] [(0, v)] σ2 :=
  j_call (m := 0) (js_caV q_147_277 (js_Mo qy_147 qm_3_88)) (js_agV (av := [(0, z1)]) (st := []) rfl rfl (hC_z0 _).1 rfl) rfl rfl (by rw [ql_155]; exact Nat.le_of_ble_eq_true rfl) (Nat.le_of_ble_eq_true rfl) hd hz
theorem kt_147_277 {E : js_E} {d : Nat} {σ σ2 : js_S} {x0 x2 x3 x4 z0 z1 b oz0 : Int} (hC_z0 : js_isC E.1 z0 oz0) {w : Int} (hd : 1 ≤ d) (hz : js_J E (d - 1) 155 0 [(2, z0), (0, z1)] [] σ = js_t E w σ2) : js_J E d 147 277 [(2, x0), (2, 8 + b), (0, x2), (0, x3), (0, x4)] [(0, z1), (2, z0)] σ = js_t E w σ2 :=
  j_callT (m := 0) (js_caV q_147_277 (js_Mo qy_147 qm_3_88)) (js_agV (av := [(0, z1)]) (st := []) rfl rfl (hC_z0 _).1 rfl) rfl rfl (by rw [ql_155]; exact Nat.le_of_ble_eq_true rfl) (Nat.le_of_ble_eq_true rfl) hd rfl hz
theorem b_147_280 {E : js_E} {d : Nat} {σ : js_S} {x0 x2 x3 x4 z0 b : Int} : js_J E d 147 280 [(2, x0), (2, 8 + b), (0, x2), (0, x3), (0, x4)] [(0, z0)] σ = js_r E (0, z0) σ :=
  j_ireturn q_147_280 qr_147
-- 148: VitalTwin$Copy.read (I)J
theorem b_148_0 {E : js_E} {d : Nat} {σ : js_S} {x0 x1 ox0 : Int} (hC_x0 : js_isC E.1 x0 ox0) (hM : 0 ≤ E.1) : js_J E d 148 0 [(2, x0), (0, x1)] [] σ = (if js_w x1 < 0 then js_r E (1, 0) σ else (if js_w x1 < js_w E.1 then (if 0 ≤ js_w x1 ∧ js_w x1 < E.1 then js_r E (1, σ (x0 + 2) (js_w x1)) σ else none) else js_r E (1, 0) σ)) :=
  (j_iload_n q_148_0 rfl).trans <| (j_iflt (t := 22) q_148_1 rfl).trans (js_ite ((j_lconst0 q_148_22).trans <| j_lreturn q_148_23 qr_148) ((j_iload_n q_148_4 rfl).trans <| (j_aload_n q_148_5 rfl).trans <| (j_get (ji := 5) (v := (2, x0 + 2)) q_148_6 (js_Fo qy_148 qf_3_15) (hC_x0 _).1 rfl rfl rfl rfl).trans <| (j_alen q_148_9 (hC_x0 _).2.2 (by decide) (by omega)).trans <| (j_cmpge (t := 22) q_148_10 rfl).trans (js_ite ((j_aload_n q_148_13 rfl).trans <| (j_get (ji := 5) (v := (2, x0 + 2)) q_148_14 (js_Fo qy_148 qf_3_15) (hC_x0 _).1 rfl rfl rfl rfl).trans <| (j_iload_n q_148_17 rfl).trans <| (j_laload q_148_18 (hC_x0 _).2.2).trans <| js_itp fun g0 => (j_goto (t := 23) q_148_19 rfl).trans <| j_lreturn q_148_23 qr_148) ((j_lconst0 q_148_22).trans <| j_lreturn q_148_23 qr_148))))
-- 149: VitalTwin$Copy.loadElement (II)I
theorem b_149_0 {E : js_E} {d : Nat} {σ : js_S} {x0 x1 x2 ox0 : Int} (hC_x0 : js_isC E.1 x0 ox0) : js_J E d 149 0 [(2, x0), (0, x1), (0, x2), (9, 0)] [] σ = js_J E d 149 6 [(2, x0), (0, x1), (0, x2), (9, 0)] [(0, x2), (1, σ x0 0), (2, x0)] σ :=
  (j_aload_n q_149_0 rfl).trans <| (j_aload_n q_149_1 rfl).trans <| (j_get (ji := 0) (v := (1, σ x0 0)) q_149_2 (js_Fo qy_149 qf_3_23) (hC_x0 _).1 rfl rfl rfl rfl).trans <| (j_iload_n q_149_5 rfl).trans <| rfl
theorem k_149_6 {E : js_E} {d : Nat} {σ σ2 : js_S} {x0 x1 x2 z0 z1 z2 oz0 : Int} (hC_z0 : js_isC E.1 z0 oz0) {v : Int} (hd : 1 ≤ d) (hz : js_J E (d - 1) 150 0 [(2, z0), (1, z1), (9, 0), (0, z2), (9, 0), (9, 0)] [] σ = js_r E (0, v) σ2) : js_J E d 149 6 [(2, x0), (0, x1), (0, x2), (9, 0)] [(0, z2), (1, z1), (2, z0)] σ = js_J E d 149 9 [(2, x0), (0, x1), (0, x2), (9, 0)] [(0, v)] σ2 :=
  j_call (m := 2) (js_caV q_149_6 (js_Mo qy_149 qm_3_92)) (js_agV (av := [(1, z1), (0, z2)]) (st := []) rfl rfl (hC_z0 _).1 rfl) rfl rfl (by rw [ql_150]; exact Nat.le_of_ble_eq_true rfl) (Nat.le_of_ble_eq_true rfl) hd hz
theorem kt_149_6 {E : js_E} {d : Nat} {σ σ2 : js_S} {x0 x1 x2 z0 z1 z2 oz0 : Int} (hC_z0 : js_isC E.1 z0 oz0) {w : Int} (hd : 1 ≤ d) (hz : js_J E (d - 1) 150 0 [(2, z0), (1, z1), (9, 0), (0, z2), (9, 0), (9, 0)] [] σ = js_t E w σ2) : js_J E d 149 6 [(2, x0), (0, x1), (0, x2), (9, 0)] [(0, z2), (1, z1), (2, z0)] σ = js_t E w σ2 :=
  j_callT (m := 2) (js_caV q_149_6 (js_Mo qy_149 qm_3_92)) (js_agV (av := [(1, z1), (0, z2)]) (st := []) rfl rfl (hC_z0 _).1 rfl) rfl rfl (by rw [ql_150]; exact Nat.le_of_ble_eq_true rfl) (Nat.le_of_ble_eq_true rfl) hd rfl hz
theorem b_149_9 {E : js_E} {d : Nat} {σ : js_S} {x0 x1 x2 z0 : Int} : js_J E d 149 9 [(2, x0), (0, x1), (0, x2), (9, 0)] [(0, z0)] σ = (if js_w z0 < 0 then js_r E (0, 2) σ else js_J E d 149 21 [(2, x0), (0, x1), (0, x2), (0, z0)] [(0, x1 + z0), (2, x0), (2, x0)] σ) :=
  (j_istore_n (l2 := [(2, x0), (0, x1), (0, x2), (0, z0)]) q_149_9 rfl (Nat.le_of_ble_eq_true rfl)).trans <| (j_iload_n q_149_10 rfl).trans <| (j_ifge (t := 16) q_149_11 rfl).trans (js_ite ((j_iconst q_149_14).trans <| j_ireturn q_149_15 qr_149) ((j_aload_n q_149_16 rfl).trans <| (j_aload_n q_149_17 rfl).trans <| (j_iload_n q_149_18 rfl).trans <| (j_iload_n q_149_19 rfl).trans <| (j_iadd q_149_20).trans <| rfl))
theorem k_149_21 {E : js_E} {d : Nat} {σ σ2 : js_S} {x0 x1 x2 x3 z0 z1 z2 oz1 : Int} (hC_z1 : js_isC E.1 z1 oz1) {v : Int} (hd : 1 ≤ d) (hz : js_J E (d - 1) 148 0 [(2, z1), (0, z2)] [] σ = js_r E (1, v) σ2) : js_J E d 149 21 [(2, x0), (0, x1), (0, x2), (0, x3)] [(0, z2), (2, z1), (2, z0)] σ = js_J E d 149 24 [(2, x0), (0, x1), (0, x2), (0, x3)] [(1, v), (2, z0)] σ2 :=
  j_call (m := 0) (js_caV q_149_21 (js_Mo qy_149 qm_3_55)) (js_agV (av := [(0, z2)]) (st := [(2, z0)]) rfl rfl (hC_z1 _).1 rfl) rfl rfl (by rw [ql_148]; exact Nat.le_of_ble_eq_true rfl) (Nat.le_of_ble_eq_true rfl) hd hz
theorem kt_149_21 {E : js_E} {d : Nat} {σ σ2 : js_S} {x0 x1 x2 x3 z0 z1 z2 oz1 : Int} (hC_z1 : js_isC E.1 z1 oz1) {w : Int} (hd : 1 ≤ d) (hz : js_J E (d - 1) 148 0 [(2, z1), (0, z2)] [] σ = js_t E w σ2) : js_J E d 149 21 [(2, x0), (0, x1), (0, x2), (0, x3)] [(0, z2), (2, z1), (2, z0)] σ = js_t E w σ2 :=
  j_callT (m := 0) (js_caV q_149_21 (js_Mo qy_149 qm_3_55)) (js_agV (av := [(0, z2)]) (st := [(2, z0)]) rfl rfl (hC_z1 _).1 rfl) rfl rfl (by rw [ql_148]; exact Nat.le_of_ble_eq_true rfl) (Nat.le_of_ble_eq_true rfl) hd rfl hz
theorem b_149_24 {E : js_E} {d : Nat} {σ : js_S} {x0 x1 x2 x3 z0 z1 oz0 : Int} (hC_z0 : js_isC E.1 z0 oz0) : js_J E d 149 24 [(2, x0), (0, x1), (0, x2), (0, x3)] [(1, z1), (2, z0)] σ = js_r E (0, 0) (js_up σ z0 0 z1) :=
  (j_putL (ji := 0) q_149_24 (js_Fo qy_149 qf_3_23) rfl (hC_z0 _).1 rfl rfl rfl).trans <| (j_iconst q_149_27).trans <| j_ireturn q_149_28 qr_149
-- 150: VitalTwin$Copy.indexOf (JI)I
theorem b_150_0 {E : js_E} {d : Nat} {σ : js_S} {x0 x1 x3 ox0 : Int} (hC_x0 : js_isC E.1 x0 ox0) : js_J E d 150 0 [(2, x0), (1, x1), (9, 0), (0, x3), (9, 0), (9, 0)] [] σ = (if js_l ox0 = 0 then js_r E (0, (-1)) σ else (if js_l ox0 = 0 then none else (if js_l ((js_l x1).tmod (js_l ox0)) = 0 then (if js_l ox0 = 0 then none else (if js_l ((js_l x1).tdiv (js_l ox0)) < 0 then js_r E (0, (-1)) σ else (if js_l ((js_l x1).tdiv (js_l ox0)) < js_l (js_w x3) then js_r E (0, (js_l x1).tdiv (js_l ox0)) σ else js_r E (0, (-1)) σ))) else js_r E (0, (-1)) σ))) :=
  (j_aload_n q_150_0 rfl).trans <| (j_get (ji := 4) (v := (1, ox0)) q_150_1 (js_Fo qy_150 qf_3_19) (hC_x0 _).1 rfl rfl rfl rfl).trans <| (j_lconst0 q_150_4).trans <| (j_leqB (t := 20) q_150_5 q_150_6 rfl wl_0).trans (js_ite ((j_iconst q_150_20).trans <| j_ireturn q_150_21 qr_150) ((j_lload_n q_150_9 rfl).trans <| (j_aload_n q_150_10 rfl).trans <| (j_get (ji := 4) (v := (1, ox0)) q_150_11 (js_Fo qy_150 qf_3_19) (hC_x0 _).1 rfl rfl rfl rfl).trans <| (j_lrem q_150_14).trans <| js_ite rfl <| (j_lconst0 q_150_15).trans <| (j_leqB (t := 22) q_150_16 q_150_17 rfl wl_0).trans (js_ite ((j_lload_n q_150_22 rfl).trans <| (j_aload_n q_150_23 rfl).trans <| (j_get (ji := 4) (v := (1, ox0)) q_150_24 (js_Fo qy_150 qf_3_19) (hC_x0 _).1 rfl rfl rfl rfl).trans <| (j_ldiv q_150_27).trans <| js_ite rfl <| (j_lstore (l2 := [(2, x0), (1, x1), (9, 0), (0, x3), (1, (js_l x1).tdiv (js_l ox0)), (9, 0)]) q_150_28 rfl (Nat.le_of_ble_eq_true rfl)).trans <| (j_lload q_150_30 rfl).trans <| (j_lconst0 q_150_32).trans <| (j_lltB (t := 45) q_150_33 q_150_34 rfl wl_0).trans (js_ite ((j_iconst q_150_45).trans <| (j_goto (t := 52) q_150_46 rfl).trans <| j_ireturn q_150_52 qr_150) ((j_lload q_150_37 rfl).trans <| (j_iload_n q_150_39 rfl).trans <| (j_i2l q_150_40).trans <| (j_llt (t := 49) q_150_41 q_150_42 rfl).trans (js_ite ((j_lload q_150_49 rfl).trans <| (j_l2i q_150_51).trans <| j_ireturn q_150_52 qr_150) ((j_iconst q_150_45).trans <| (j_goto (t := 52) q_150_46 rfl).trans <| j_ireturn q_150_52 qr_150))))) ((j_iconst q_150_20).trans <| j_ireturn q_150_21 qr_150))))
-- 151: VitalTwin$Copy.storeElement (II)I
theorem b_151_0 {E : js_E} {d : Nat} {σ : js_S} {x0 x1 x2 ox0 : Int} (hC_x0 : js_isC E.1 x0 ox0) : js_J E d 151 0 [(2, x0), (0, x1), (0, x2), (9, 0)] [] σ = js_J E d 151 6 [(2, x0), (0, x1), (0, x2), (9, 0)] [(0, x2), (1, σ x0 1), (2, x0)] σ :=
  (j_aload_n q_151_0 rfl).trans <| (j_aload_n q_151_1 rfl).trans <| (j_get (ji := 1) (v := (1, σ x0 1)) q_151_2 (js_Fo qy_151 qf_3_26) (hC_x0 _).1 rfl rfl rfl rfl).trans <| (j_iload_n q_151_5 rfl).trans <| rfl
theorem k_151_6 {E : js_E} {d : Nat} {σ σ2 : js_S} {x0 x1 x2 z0 z1 z2 oz0 : Int} (hC_z0 : js_isC E.1 z0 oz0) {v : Int} (hd : 1 ≤ d) (hz : js_J E (d - 1) 150 0 [(2, z0), (1, z1), (9, 0), (0, z2), (9, 0), (9, 0)] [] σ = js_r E (0, v) σ2) : js_J E d 151 6 [(2, x0), (0, x1), (0, x2), (9, 0)] [(0, z2), (1, z1), (2, z0)] σ = js_J E d 151 9 [(2, x0), (0, x1), (0, x2), (9, 0)] [(0, v)] σ2 :=
  j_call (m := 2) (js_caV q_151_6 (js_Mo qy_151 qm_3_92)) (js_agV (av := [(1, z1), (0, z2)]) (st := []) rfl rfl (hC_z0 _).1 rfl) rfl rfl (by rw [ql_150]; exact Nat.le_of_ble_eq_true rfl) (Nat.le_of_ble_eq_true rfl) hd hz
theorem kt_151_6 {E : js_E} {d : Nat} {σ σ2 : js_S} {x0 x1 x2 z0 z1 z2 oz0 : Int} (hC_z0 : js_isC E.1 z0 oz0) {w : Int} (hd : 1 ≤ d) (hz : js_J E (d - 1) 150 0 [(2, z0), (1, z1), (9, 0), (0, z2), (9, 0), (9, 0)] [] σ = js_t E w σ2) : js_J E d 151 6 [(2, x0), (0, x1), (0, x2), (9, 0)] [(0, z2), (1, z1), (2, z0)] σ = js_t E w σ2 :=
  j_callT (m := 2) (js_caV q_151_6 (js_Mo qy_151 qm_3_92)) (js_agV (av := [(1, z1), (0, z2)]) (st := []) rfl rfl (hC_z0 _).1 rfl) rfl rfl (by rw [ql_150]; exact Nat.le_of_ble_eq_true rfl) (Nat.le_of_ble_eq_true rfl) hd rfl hz
theorem b_151_9 {E : js_E} {d : Nat} {σ : js_S} {x0 x1 x2 z0 ox0 : Int} (hC_x0 : js_isC E.1 x0 ox0) : js_J E d 151 9 [(2, x0), (0, x1), (0, x2), (9, 0)] [(0, z0)] σ = (if js_w z0 < 0 then js_r E (0, 2) σ else js_J E d 151 24 [(2, x0), (0, x1), (0, x2), (0, z0)] [(1, σ x0 0), (0, x1 + z0), (2, x0)] σ) :=
  (j_istore_n (l2 := [(2, x0), (0, x1), (0, x2), (0, z0)]) q_151_9 rfl (Nat.le_of_ble_eq_true rfl)).trans <| (j_iload_n q_151_10 rfl).trans <| (j_ifge (t := 16) q_151_11 rfl).trans (js_ite ((j_iconst q_151_14).trans <| j_ireturn q_151_15 qr_151) ((j_aload_n q_151_16 rfl).trans <| (j_iload_n q_151_17 rfl).trans <| (j_iload_n q_151_18 rfl).trans <| (j_iadd q_151_19).trans <| (j_aload_n q_151_20 rfl).trans <| (j_get (ji := 0) (v := (1, σ x0 0)) q_151_21 (js_Fo qy_151 qf_3_23) (hC_x0 _).1 rfl rfl rfl rfl).trans <| rfl))
theorem k_151_24 {E : js_E} {d : Nat} {σ σ2 : js_S} {x0 x1 x2 x3 z0 z1 z2 oz0 : Int} (hC_z0 : js_isC E.1 z0 oz0) (hd : 1 ≤ d) (hz : js_J E (d - 1) 122 0 [(2, z0), (0, z1), (1, z2), (9, 0)] [] σ = js_r0 E σ2) : js_J E d 151 24 [(2, x0), (0, x1), (0, x2), (0, x3)] [(1, z2), (0, z1), (2, z0)] σ = js_J E d 151 27 [(2, x0), (0, x1), (0, x2), (0, x3)] [] σ2 :=
  j_call0 (m := 0) (js_caV q_151_24 (js_Mo qy_151 qm_3_51)) (js_agV (av := [(0, z1), (1, z2)]) (st := []) rfl rfl (hC_z0 _).1 rfl) rfl rfl (by rw [ql_122]; exact Nat.le_of_ble_eq_true rfl) (Nat.le_of_ble_eq_true rfl) hd hz
theorem kt_151_24 {E : js_E} {d : Nat} {σ σ2 : js_S} {x0 x1 x2 x3 z0 z1 z2 oz0 : Int} (hC_z0 : js_isC E.1 z0 oz0) {w : Int} (hd : 1 ≤ d) (hz : js_J E (d - 1) 122 0 [(2, z0), (0, z1), (1, z2), (9, 0)] [] σ = js_t E w σ2) : js_J E d 151 24 [(2, x0), (0, x1), (0, x2), (0, x3)] [(1, z2), (0, z1), (2, z0)] σ = js_t E w σ2 :=
  j_callT (m := 0) (js_caV q_151_24 (js_Mo qy_151 qm_3_51)) (js_agV (av := [(0, z1), (1, z2)]) (st := []) rfl rfl (hC_z0 _).1 rfl) rfl rfl (by rw [ql_122]; exact Nat.le_of_ble_eq_true rfl) (Nat.le_of_ble_eq_true rfl) hd rfl hz
theorem b_151_27 {E : js_E} {d : Nat} {σ : js_S} {x0 x1 x2 x3 : Int} : js_J E d 151 27 [(2, x0), (0, x1), (0, x2), (0, x3)] [] σ = js_r E (0, 0) σ :=
  (j_iconst q_151_27).trans <| j_ireturn q_151_28 qr_151
-- 152: VitalTwin$Copy.go (II)I
theorem b_152_0 {E : js_E} {d : Nat} {σ : js_S} {x0 x1 x2 : Int} : js_J E d 152 0 [(2, x0), (0, x1), (0, x2)] [] σ = js_J E d 152 1 [(2, x0), (0, x1), (0, x2)] [(0, x1)] σ :=
  (j_iload_n q_152_0 rfl).trans <| rfl
theorem s_152_1_24 {E : js_E} {d : Nat} {σ : js_S} {x0 x1 x2 z0 : Int} (h : js_w z0 = 24) : js_J E d 152 1 [(2, x0), (0, x1), (0, x2)] [(0, z0)] σ = js_J E d 152 40 [(2, x0), (0, x1), (0, x2)] [] σ :=
  j_tsw (t := 40) (off := 39) q_152_1 (by rw [h]; decide) (by rw [h]; decide) (by rw [h]; rfl) rfl
theorem s_152_1_25 {E : js_E} {d : Nat} {σ : js_S} {x0 x1 x2 z0 : Int} (h : js_w z0 = 25) : js_J E d 152 1 [(2, x0), (0, x1), (0, x2)] [(0, z0)] σ = js_J E d 152 47 [(2, x0), (0, x1), (0, x2)] [] σ :=
  j_tsw (t := 47) (off := 46) q_152_1 (by rw [h]; decide) (by rw [h]; decide) (by rw [h]; rfl) rfl
theorem s_152_1_26 {E : js_E} {d : Nat} {σ : js_S} {x0 x1 x2 z0 : Int} (h : js_w z0 = 26) : js_J E d 152 1 [(2, x0), (0, x1), (0, x2)] [(0, z0)] σ = js_J E d 152 70 [(2, x0), (0, x1), (0, x2)] [] σ :=
  j_tsw (t := 70) (off := 69) q_152_1 (by rw [h]; decide) (by rw [h]; decide) (by rw [h]; rfl) rfl
theorem s_152_1_27 {E : js_E} {d : Nat} {σ : js_S} {x0 x1 x2 z0 : Int} (h : js_w z0 = 27) : js_J E d 152 1 [(2, x0), (0, x1), (0, x2)] [(0, z0)] σ = js_J E d 152 93 [(2, x0), (0, x1), (0, x2)] [] σ :=
  j_tsw (t := 93) (off := 92) q_152_1 (by rw [h]; decide) (by rw [h]; decide) (by rw [h]; rfl) rfl
theorem s_152_1_28 {E : js_E} {d : Nat} {σ : js_S} {x0 x1 x2 z0 : Int} (h : js_w z0 = 28) : js_J E d 152 1 [(2, x0), (0, x1), (0, x2)] [(0, z0)] σ = js_J E d 152 99 [(2, x0), (0, x1), (0, x2)] [] σ :=
  j_tsw (t := 99) (off := 98) q_152_1 (by rw [h]; decide) (by rw [h]; decide) (by rw [h]; rfl) rfl
theorem s_152_1_29 {E : js_E} {d : Nat} {σ : js_S} {x0 x1 x2 z0 : Int} (h : js_w z0 = 29) : js_J E d 152 1 [(2, x0), (0, x1), (0, x2)] [(0, z0)] σ = js_J E d 152 104 [(2, x0), (0, x1), (0, x2)] [] σ :=
  j_tsw (t := 104) (off := 103) q_152_1 (by rw [h]; decide) (by rw [h]; decide) (by rw [h]; rfl) rfl
theorem s_152_1_d {E : js_E} {d : Nat} {σ : js_S} {x0 x1 x2 z0 : Int} (h : js_w z0 < 24 ∨ 29 < js_w z0) : js_J E d 152 1 [(2, x0), (0, x1), (0, x2)] [(0, z0)] σ = js_J E d 152 106 [(2, x0), (0, x1), (0, x2)] [] σ :=
  j_tswd (t := 106) q_152_1 h rfl
theorem b_152_40 {E : js_E} {d : Nat} {σ : js_S} {x0 x1 x2 ox0 : Int} (hC_x0 : js_isC E.1 x0 ox0) : js_J E d 152 40 [(2, x0), (0, x1), (0, x2)] [] σ = js_r E (0, 0) (js_up σ x0 2 x2) :=
  (j_aload_n q_152_40 rfl).trans <| (j_iload_n q_152_41 rfl).trans <| (j_putI (ji := 2) q_152_42 (js_Fo qy_152 qf_3_29) rfl (hC_x0 _).1 rfl rfl rfl).trans <| (j_iconst q_152_45).trans <| j_ireturn q_152_46 qr_152
theorem b_152_47 {E : js_E} {d : Nat} {σ : js_S} {x0 x1 x2 ox0 : Int} (hC_x0 : js_isC E.1 x0 ox0) : js_J E d 152 47 [(2, x0), (0, x1), (0, x2)] [] σ = (if js_l (σ x0 0) = 0 then js_J E d 152 65 [(2, x0), (0, x1), (0, x2)] [(0, x2), (2, x0)] σ else js_J E d 152 65 [(2, x0), (0, x1), (0, x2)] [(0, σ x0 2), (2, x0)] σ) :=
  (j_aload_n q_152_47 rfl).trans <| (j_aload_n q_152_48 rfl).trans <| (j_get (ji := 0) (v := (1, σ x0 0)) q_152_49 (js_Fo qy_152 qf_3_23) (hC_x0 _).1 rfl rfl rfl rfl).trans <| (j_lconst0 q_152_52).trans <| (j_lneB (t := 61) q_152_53 q_152_54 rfl wl_0).trans (js_ite ((j_iload_n q_152_57 rfl).trans <| (j_goto (t := 65) q_152_58 rfl).trans <| rfl) ((j_aload_n q_152_61 rfl).trans <| (j_get (ji := 2) (v := (0, σ x0 2)) q_152_62 (js_Fo qy_152 qf_3_29) (hC_x0 _).1 rfl rfl rfl rfl).trans <| rfl))
theorem b_152_65 {E : js_E} {d : Nat} {σ : js_S} {x0 x1 x2 z0 z1 oz0 : Int} (hC_z0 : js_isC E.1 z0 oz0) : js_J E d 152 65 [(2, x0), (0, x1), (0, x2)] [(0, z1), (2, z0)] σ = js_r E (0, 0) (js_up σ z0 2 z1) :=
  (j_putI (ji := 2) q_152_65 (js_Fo qy_152 qf_3_29) rfl (hC_z0 _).1 rfl rfl rfl).trans <| (j_iconst q_152_68).trans <| j_ireturn q_152_69 qr_152
theorem b_152_70 {E : js_E} {d : Nat} {σ : js_S} {x0 x1 x2 ox0 : Int} (hC_x0 : js_isC E.1 x0 ox0) : js_J E d 152 70 [(2, x0), (0, x1), (0, x2)] [] σ = (if js_l (σ x0 0) = 0 then js_J E d 152 88 [(2, x0), (0, x1), (0, x2)] [(0, σ x0 2), (2, x0)] σ else js_J E d 152 88 [(2, x0), (0, x1), (0, x2)] [(0, x2), (2, x0)] σ) :=
  (j_aload_n q_152_70 rfl).trans <| (j_aload_n q_152_71 rfl).trans <| (j_get (ji := 0) (v := (1, σ x0 0)) q_152_72 (js_Fo qy_152 qf_3_23) (hC_x0 _).1 rfl rfl rfl rfl).trans <| (j_lconst0 q_152_75).trans <| (j_leqB (t := 84) q_152_76 q_152_77 rfl wl_0).trans (js_ite ((j_aload_n q_152_84 rfl).trans <| (j_get (ji := 2) (v := (0, σ x0 2)) q_152_85 (js_Fo qy_152 qf_3_29) (hC_x0 _).1 rfl rfl rfl rfl).trans <| rfl) ((j_iload_n q_152_80 rfl).trans <| (j_goto (t := 88) q_152_81 rfl).trans <| rfl))
theorem b_152_88 {E : js_E} {d : Nat} {σ : js_S} {x0 x1 x2 z0 z1 oz0 : Int} (hC_z0 : js_isC E.1 z0 oz0) : js_J E d 152 88 [(2, x0), (0, x1), (0, x2)] [(0, z1), (2, z0)] σ = js_r E (0, 0) (js_up σ z0 2 z1) :=
  (j_putI (ji := 2) q_152_88 (js_Fo qy_152 qf_3_29) rfl (hC_z0 _).1 rfl rfl rfl).trans <| (j_iconst q_152_91).trans <| j_ireturn q_152_92 qr_152
theorem b_152_93 {E : js_E} {d : Nat} {σ : js_S} {x0 x1 x2 : Int} : js_J E d 152 93 [(2, x0), (0, x1), (0, x2)] [] σ = js_J E d 152 95 [(2, x0), (0, x1), (0, x2)] [(0, x2), (2, x0)] σ :=
  (j_aload_n q_152_93 rfl).trans <| (j_iload_n q_152_94 rfl).trans <| rfl
theorem k_152_95 {E : js_E} {d : Nat} {σ σ2 : js_S} {x0 x1 x2 z0 z1 oz0 : Int} (hC_z0 : js_isC E.1 z0 oz0) {v : Int} (hd : 1 ≤ d) (hz : js_J E (d - 1) 153 0 [(2, z0), (0, z1)] [] σ = js_r E (0, v) σ2) : js_J E d 152 95 [(2, x0), (0, x1), (0, x2)] [(0, z1), (2, z0)] σ = js_J E d 152 98 [(2, x0), (0, x1), (0, x2)] [(0, v)] σ2 :=
  j_call (m := 0) (js_caV q_152_95 (js_Mo qy_152 qm_3_96)) (js_agV (av := [(0, z1)]) (st := []) rfl rfl (hC_z0 _).1 rfl) rfl rfl (by rw [ql_153]; exact Nat.le_of_ble_eq_true rfl) (Nat.le_of_ble_eq_true rfl) hd hz
theorem kt_152_95 {E : js_E} {d : Nat} {σ σ2 : js_S} {x0 x1 x2 z0 z1 oz0 : Int} (hC_z0 : js_isC E.1 z0 oz0) {w : Int} (hd : 1 ≤ d) (hz : js_J E (d - 1) 153 0 [(2, z0), (0, z1)] [] σ = js_t E w σ2) : js_J E d 152 95 [(2, x0), (0, x1), (0, x2)] [(0, z1), (2, z0)] σ = js_t E w σ2 :=
  j_callT (m := 0) (js_caV q_152_95 (js_Mo qy_152 qm_3_96)) (js_agV (av := [(0, z1)]) (st := []) rfl rfl (hC_z0 _).1 rfl) rfl rfl (by rw [ql_153]; exact Nat.le_of_ble_eq_true rfl) (Nat.le_of_ble_eq_true rfl) hd rfl hz
theorem b_152_98 {E : js_E} {d : Nat} {σ : js_S} {x0 x1 x2 z0 : Int} : js_J E d 152 98 [(2, x0), (0, x1), (0, x2)] [(0, z0)] σ = js_r E (0, z0) σ :=
  j_ireturn q_152_98 qr_152
theorem b_152_99 {E : js_E} {d : Nat} {σ : js_S} {x0 x1 x2 : Int} : js_J E d 152 99 [(2, x0), (0, x1), (0, x2)] [] σ = js_J E d 152 100 [(2, x0), (0, x1), (0, x2)] [(2, x0)] σ :=
  (j_aload_n q_152_99 rfl).trans <| rfl
theorem k_152_100 {E : js_E} {d : Nat} {σ σ2 : js_S} {x0 x1 x2 z0 oz0 : Int} (hC_z0 : js_isC E.1 z0 oz0) {v : Int} (hd : 1 ≤ d) (hz : js_J E (d - 1) 154 0 [(2, z0)] [] σ = js_r E (0, v) σ2) : js_J E d 152 100 [(2, x0), (0, x1), (0, x2)] [(2, z0)] σ = js_J E d 152 103 [(2, x0), (0, x1), (0, x2)] [(0, v)] σ2 :=
  j_call (m := 0) (js_caV q_152_100 (js_Mo qy_152 qm_3_99)) (js_agV (av := []) (st := []) rfl rfl (hC_z0 _).1 rfl) rfl rfl (by rw [ql_154]; exact Nat.le_of_ble_eq_true rfl) (Nat.le_of_ble_eq_true rfl) hd hz
theorem kt_152_100 {E : js_E} {d : Nat} {σ σ2 : js_S} {x0 x1 x2 z0 oz0 : Int} (hC_z0 : js_isC E.1 z0 oz0) {w : Int} (hd : 1 ≤ d) (hz : js_J E (d - 1) 154 0 [(2, z0)] [] σ = js_t E w σ2) : js_J E d 152 100 [(2, x0), (0, x1), (0, x2)] [(2, z0)] σ = js_t E w σ2 :=
  j_callT (m := 0) (js_caV q_152_100 (js_Mo qy_152 qm_3_99)) (js_agV (av := []) (st := []) rfl rfl (hC_z0 _).1 rfl) rfl rfl (by rw [ql_154]; exact Nat.le_of_ble_eq_true rfl) (Nat.le_of_ble_eq_true rfl) hd rfl hz
theorem b_152_103 {E : js_E} {d : Nat} {σ : js_S} {x0 x1 x2 z0 : Int} : js_J E d 152 103 [(2, x0), (0, x1), (0, x2)] [(0, z0)] σ = js_r E (0, z0) σ :=
  j_ireturn q_152_103 qr_152
theorem b_152_104 {E : js_E} {d : Nat} {σ : js_S} {x0 x1 x2 : Int} : js_J E d 152 104 [(2, x0), (0, x1), (0, x2)] [] σ = js_r E (0, 1) σ :=
  (j_iconst q_152_104).trans <| j_ireturn q_152_105 qr_152
theorem b_152_106 {E : js_E} {d : Nat} {σ : js_S} {x0 x1 x2 ox0 : Int} (hC_x0 : js_isC E.1 x0 ox0) : js_J E d 152 106 [(2, x0), (0, x1), (0, x2)] [] σ = (if js_l (σ x0 0) = 0 then js_r E (0, 2) σ else js_r E (0, 0) σ) :=
  (j_aload_n q_152_106 rfl).trans <| (j_get (ji := 0) (v := (1, σ x0 0)) q_152_107 (js_Fo qy_152 qf_3_23) (hC_x0 _).1 rfl rfl rfl rfl).trans <| (j_lconst0 q_152_110).trans <| (j_lneB (t := 119) q_152_111 q_152_112 rfl wl_0).trans (js_ite ((j_iconst q_152_115).trans <| (j_goto (t := 120) q_152_116 rfl).trans <| j_ireturn q_152_120 qr_152) ((j_iconst q_152_119).trans <| j_ireturn q_152_120 qr_152))
-- 153: VitalTwin$Copy.callTo (I)I
theorem b_153_0 {E : js_E} {d : Nat} {σ : js_S} {x0 x1 ox0 : Int} (hC_x0 : js_isC E.1 x0 ox0) : js_J E d 153 0 [(2, x0), (0, x1)] [] σ = (if js_w (σ x0 3) < 0 then js_r E (0, 2) σ else (if js_w (σ x0 3) < 16 then (if 0 ≤ js_w (σ x0 3) ∧ js_w (σ x0 3) < 16 then js_r E (0, 0) (js_up (js_up (js_up σ (x0 + 1) (js_w (σ x0 3)) (σ x0 2)) x0 3 ((σ x0 3) + 1)) x0 2 x1) else none) else js_r E (0, 2) σ)) :=
  (j_aload_n q_153_0 rfl).trans <| (j_get (ji := 3) (v := (0, σ x0 3)) q_153_1 (js_Fo qy_153 qf_3_33) (hC_x0 _).1 rfl rfl rfl rfl).trans <| (j_iflt (t := 19) q_153_4 rfl).trans (js_ite ((j_iconst q_153_19).trans <| j_ireturn q_153_20 qr_153) ((j_aload_n q_153_7 rfl).trans <| (j_get (ji := 3) (v := (0, σ x0 3)) q_153_8 (js_Fo qy_153 qf_3_33) (hC_x0 _).1 rfl rfl rfl rfl).trans <| (j_aload_n q_153_11 rfl).trans <| (j_get (ji := 6) (v := (2, x0 + 1)) q_153_12 (js_Fo qy_153 qf_3_9) (hC_x0 _).1 rfl rfl rfl rfl).trans <| (j_alen q_153_15 (hC_x0 _).2.1 (by decide) (by decide)).trans <| (j_cmpltB (t := 21) q_153_16 rfl ww_16).trans (js_ite ((j_aload_n q_153_21 rfl).trans <| (j_get (ji := 6) (v := (2, x0 + 1)) q_153_22 (js_Fo qy_153 qf_3_9) (hC_x0 _).1 rfl rfl rfl rfl).trans <| (j_aload_n q_153_25 rfl).trans <| (j_get (ji := 3) (v := (0, σ x0 3)) q_153_26 (js_Fo qy_153 qf_3_33) (hC_x0 _).1 rfl rfl rfl rfl).trans <| (j_aload_n q_153_29 rfl).trans <| (j_get (ji := 2) (v := (0, σ x0 2)) q_153_30 (js_Fo qy_153 qf_3_29) (hC_x0 _).1 rfl rfl rfl rfl).trans <| (j_iastore q_153_33 (hC_x0 _).2.1).trans <| js_itp fun g0 => (j_aload_n q_153_34 rfl).trans <| (j_dupr q_153_35).trans <| (j_get (ji := 3) (v := (0, σ x0 3)) q_153_36 (js_Fo qy_153 qf_3_33) (hC_x0 _).1 rfl rfl rfl (congrArg (Prod.mk 0) ((js_up_ne _ (by omega))))).trans <| (j_iconst q_153_39).trans <| (j_iadd q_153_40).trans <| (j_putI (ji := 3) q_153_41 (js_Fo qy_153 qf_3_33) rfl (hC_x0 _).1 rfl rfl rfl).trans <| (j_aload_n q_153_44 rfl).trans <| (j_iload_n q_153_45 rfl).trans <| (j_putI (ji := 2) q_153_46 (js_Fo qy_153 qf_3_29) rfl (hC_x0 _).1 rfl rfl rfl).trans <| (j_iconst q_153_49).trans <| j_ireturn q_153_50 qr_153) ((j_iconst q_153_19).trans <| j_ireturn q_153_20 qr_153))))
-- 154: VitalTwin$Copy.comeBack ()I
theorem b_154_0 {E : js_E} {d : Nat} {σ : js_S} {x0 ox0 : Int} (hC_x0 : js_isC E.1 x0 ox0) : js_J E d 154 0 [(2, x0)] [] σ = (if js_w (σ x0 3) < 1 then js_r E (0, 2) σ else (if 16 < js_w (σ x0 3) then js_r E (0, 2) σ else (if 0 ≤ js_w ((σ x0 3) - 1) ∧ js_w ((σ x0 3) - 1) < 16 then js_r E (0, 0) (js_up (js_up σ x0 3 ((σ x0 3) - 1)) x0 2 (σ (x0 + 1) (js_w ((σ x0 3) - 1)))) else none))) :=
  (j_aload_n q_154_0 rfl).trans <| (j_get (ji := 3) (v := (0, σ x0 3)) q_154_1 (js_Fo qy_154 qf_3_33) (hC_x0 _).1 rfl rfl rfl rfl).trans <| (j_iconst q_154_4).trans <| (j_cmpltB (t := 20) q_154_5 rfl ww_1).trans (js_ite ((j_iconst q_154_20).trans <| j_ireturn q_154_21 qr_154) ((j_aload_n q_154_8 rfl).trans <| (j_get (ji := 3) (v := (0, σ x0 3)) q_154_9 (js_Fo qy_154 qf_3_33) (hC_x0 _).1 rfl rfl rfl rfl).trans <| (j_aload_n q_154_12 rfl).trans <| (j_get (ji := 6) (v := (2, x0 + 1)) q_154_13 (js_Fo qy_154 qf_3_9) (hC_x0 _).1 rfl rfl rfl rfl).trans <| (j_alen q_154_16 (hC_x0 _).2.1 (by decide) (by decide)).trans <| (j_cmpleB (t := 22) q_154_17 rfl ww_16).trans (js_ite ((j_iconst q_154_20).trans <| j_ireturn q_154_21 qr_154) ((j_aload_n q_154_22 rfl).trans <| (j_dupr q_154_23).trans <| (j_get (ji := 3) (v := (0, σ x0 3)) q_154_24 (js_Fo qy_154 qf_3_33) (hC_x0 _).1 rfl rfl rfl rfl).trans <| (j_iconst q_154_27).trans <| (j_isub q_154_28).trans <| (j_putI (ji := 3) q_154_29 (js_Fo qy_154 qf_3_33) rfl (hC_x0 _).1 rfl rfl rfl).trans <| (j_aload_n q_154_32 rfl).trans <| (j_aload_n q_154_33 rfl).trans <| (j_get (ji := 6) (v := (2, x0 + 1)) q_154_34 (js_Fo qy_154 qf_3_9) (hC_x0 _).1 rfl rfl rfl rfl).trans <| (j_aload_n q_154_37 rfl).trans <| (j_get (ji := 3) (v := (0, (σ x0 3) - 1)) q_154_38 (js_Fo qy_154 qf_3_33) (hC_x0 _).1 rfl rfl rfl (congrArg (Prod.mk 0) ((js_up_same _ _ _ _)))).trans <| (j_ialoadv q_154_41 (hC_x0 _).2.1 ((js_up_ne _ (by omega)))).trans <| js_itp fun g0 => (j_putI (ji := 2) q_154_42 (js_Fo qy_154 qf_3_29) rfl (hC_x0 _).1 rfl rfl rfl).trans <| (j_iconst q_154_45).trans <| j_ireturn q_154_46 qr_154))))
