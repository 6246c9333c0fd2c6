/-! part 70.r00: block equations of the reference's methods 185 to 194 (printed by wip/whole/tools/gen71.py) -/
theorem qy_185 : vt_O 185 = 12 := by decide +kernel
theorem qr_185 : vt_rc.getD 185 0 = 1 := by decide +kernel
theorem ql_185 : vt_ml.getD 185 0 = 1 := by decide +kernel
theorem qy_186 : vt_O 186 = 12 := by decide +kernel
theorem qr_186 : vt_rc.getD 186 0 = 1 := by decide +kernel
theorem ql_186 : vt_ml.getD 186 0 = 8 := by decide +kernel
theorem qy_187 : vt_O 187 = 12 := by decide +kernel
theorem qr_187 : vt_rc.getD 187 0 = 1 := by decide +kernel
theorem ql_187 : vt_ml.getD 187 0 = 5 := by decide +kernel
theorem qy_189 : vt_O 189 = 12 := by decide +kernel
theorem qr_189 : vt_rc.getD 189 0 = 1 := by decide +kernel
theorem ql_189 : vt_ml.getD 189 0 = 7 := by decide +kernel
theorem qy_190 : vt_O 190 = 12 := by decide +kernel
theorem qr_190 : vt_rc.getD 190 0 = 0 := by decide +kernel
theorem ql_190 : vt_ml.getD 190 0 = 2 := by decide +kernel
theorem qy_191 : vt_O 191 = 12 := by decide +kernel
theorem qr_191 : vt_rc.getD 191 0 = 0 := by decide +kernel
theorem ql_191 : vt_ml.getD 191 0 = 6 := by decide +kernel
theorem qy_197 : vt_O 197 = 12 := by decide +kernel
theorem qr_197 : vt_rc.getD 197 0 = 0 := by decide +kernel
theorem ql_197 : vt_ml.getD 197 0 = 3 := by decide +kernel
theorem qy_202 : vt_O 202 = 12 := by decide +kernel
theorem qr_202 : vt_rc.getD 202 0 = 0 := by decide +kernel
theorem ql_202 : vt_ml.getD 202 0 = 2 := by decide +kernel
theorem qy_239 : vt_O 239 = 12 := by decide +kernel
theorem qr_239 : vt_rc.getD 239 0 = 1 := by decide +kernel
theorem ql_239 : vt_ml.getD 239 0 = 3 := by decide +kernel
theorem qy_199 : vt_O 199 = 12 := by decide +kernel
theorem qr_199 : vt_rc.getD 199 0 = 0 := by decide +kernel
theorem ql_199 : vt_ml.getD 199 0 = 3 := by decide +kernel
theorem qy_244 : vt_O 244 = 12 := by decide +kernel
theorem qr_244 : vt_rc.getD 244 0 = 0 := by decide +kernel
theorem ql_244 : vt_ml.getD 244 0 = 5 := by decide +kernel
theorem qy_262 : vt_O 262 = 12 := by decide +kernel
theorem qr_262 : vt_rc.getD 262 0 = 0 := by decide +kernel
theorem ql_262 : vt_ml.getD 262 0 = 2 := by decide +kernel
theorem qy_263 : vt_O 263 = 12 := by decide +kernel
theorem qr_263 : vt_rc.getD 263 0 = 0 := by decide +kernel
theorem ql_263 : vt_ml.getD 263 0 = 4 := by decide +kernel
theorem qy_264 : vt_O 264 = 12 := by decide +kernel
theorem qr_264 : vt_rc.getD 264 0 = 0 := by decide +kernel
theorem ql_264 : vt_ml.getD 264 0 = 3 := by decide +kernel
theorem qy_192 : vt_O 192 = 12 := by decide +kernel
theorem qr_192 : vt_rc.getD 192 0 = 1 := by decide +kernel
theorem ql_192 : vt_ml.getD 192 0 = 2 := by decide +kernel
theorem qy_193 : vt_O 193 = 12 := by decide +kernel
theorem qr_193 : vt_rc.getD 193 0 = 2 := by decide +kernel
theorem ql_193 : vt_ml.getD 193 0 = 1 := by decide +kernel
theorem qy_194 : vt_O 194 = 12 := by decide +kernel
theorem qr_194 : vt_rc.getD 194 0 = 2 := by decide +kernel
theorem ql_194 : vt_ml.getD 194 0 = 1 := by decide +kernel
theorem qy_195 : vt_O 195 = 12 := by decide +kernel
theorem qr_195 : vt_rc.getD 195 0 = 1 := by decide +kernel
theorem ql_195 : vt_ml.getD 195 0 = 6 := by decide +kernel
theorem qy_196 : vt_O 196 = 12 := by decide +kernel
theorem qr_196 : vt_rc.getD 196 0 = 0 := by decide +kernel
theorem ql_196 : vt_ml.getD 196 0 = 4 := by decide +kernel
theorem q_185_0 : js_I 185 0 = some (.aload_n 0, 1) := by decide +kernel
theorem q_185_1 : js_I 185 1 = some (.getfield 3, 3) := by decide +kernel
theorem q_185_4 : js_I 185 4 = some (.ireturn, 1) := by decide +kernel
theorem q_186_0 : js_I 186 0 = some (.aload_n 0, 1) := by decide +kernel
theorem q_186_1 : js_I 186 1 = some (.iconst 0, 1) := by decide +kernel
theorem q_186_2 : js_I 186 2 = some (.putfield 3, 3) := by decide +kernel
theorem q_186_5 : js_I 186 5 = some (.iconst 0, 1) := by decide +kernel
theorem q_186_6 : js_I 186 6 = some (.istore 5, 2) := by decide +kernel
theorem q_186_8 : js_I 186 8 = some (.iconst 0, 1) := by decide +kernel
theorem q_186_9 : js_I 186 9 = some (.istore 6, 2) := by decide +kernel
theorem q_186_11 : js_I 186 11 = some (.iload 6, 2) := by decide +kernel
theorem q_186_13 : js_I 186 13 = some (.bipush 16, 2) := by decide +kernel
theorem q_186_15 : js_I 186 15 = some (.if_icmp .ge 61, 3) := by decide +kernel
theorem q_186_18 : js_I 186 18 = some (.lload_n 1, 1) := by decide +kernel
theorem q_186_19 : js_I 186 19 = some (.lload_n 3, 1) := by decide +kernel
theorem q_186_20 : js_I 186 20 = some (.iload 6, 2) := by decide +kernel
theorem q_186_22 : js_I 186 22 = some (.invokestatic 7, 3) := by decide +kernel
theorem q_186_76 : js_I 186 76 = some (.aload_n 0, 1) := by decide +kernel
theorem q_186_77 : js_I 186 77 = some (.getfield 11, 3) := by decide +kernel
theorem q_186_80 : js_I 186 80 = some (.iload 5, 2) := by decide +kernel
theorem q_186_82 : js_I 186 82 = some (.iadd, 1) := by decide +kernel
theorem q_186_83 : js_I 186 83 = some (.ldc 14, 2) := by decide +kernel
theorem q_186_85 : js_I 186 85 = some (.if_icmp .le 5, 3) := by decide +kernel
theorem q_186_88 : js_I 186 88 = some (.iconst (-1), 1) := by decide +kernel
theorem q_186_89 : js_I 186 89 = some (.ireturn, 1) := by decide +kernel
theorem q_186_90 : js_I 186 90 = some (.iconst 0, 1) := by decide +kernel
theorem q_186_91 : js_I 186 91 = some (.istore 6, 2) := by decide +kernel
theorem q_186_25 : js_I 186 25 = some (.istore 7, 2) := by decide +kernel
theorem q_186_27 : js_I 186 27 = some (.iload 7, 2) := by decide +kernel
theorem q_186_29 : js_I 186 29 = some (.ifCond .eq 26, 3) := by decide +kernel
theorem q_186_32 : js_I 186 32 = some (.iload 7, 2) := by decide +kernel
theorem q_186_34 : js_I 186 34 = some (.bipush 10, 2) := by decide +kernel
theorem q_186_36 : js_I 186 36 = some (.if_icmp .eq 19, 3) := by decide +kernel
theorem q_186_39 : js_I 186 39 = some (.iload 7, 2) := by decide +kernel
theorem q_186_41 : js_I 186 41 = some (.bipush 32, 2) := by decide +kernel
theorem q_186_43 : js_I 186 43 = some (.if_icmp .lt 10, 3) := by decide +kernel
theorem q_186_53 : js_I 186 53 = some (.iconst (-1), 1) := by decide +kernel
theorem q_186_54 : js_I 186 54 = some (.ireturn, 1) := by decide +kernel
theorem q_186_46 : js_I 186 46 = some (.iload 7, 2) := by decide +kernel
theorem q_186_48 : js_I 186 48 = some (.bipush 126, 2) := by decide +kernel
theorem q_186_50 : js_I 186 50 = some (.if_icmp .le 5, 3) := by decide +kernel
theorem q_186_55 : js_I 186 55 = some (.iload 5, 2) := by decide +kernel
theorem q_186_57 : js_I 186 57 = some (.iload 7, 2) := by decide +kernel
theorem q_186_59 : js_I 186 59 = some (.ifCond .ne 7, 3) := by decide +kernel
theorem q_186_62 : js_I 186 62 = some (.iconst 0, 1) := by decide +kernel
theorem q_186_63 : js_I 186 63 = some (.goto 4, 3) := by decide +kernel
theorem q_186_66 : js_I 186 66 = some (.iconst 1, 1) := by decide +kernel
theorem q_186_67 : js_I 186 67 = some (.iadd, 1) := by decide +kernel
theorem q_186_68 : js_I 186 68 = some (.istore 5, 2) := by decide +kernel
theorem q_186_70 : js_I 186 70 = some (.iinc 6 1, 3) := by decide +kernel
theorem q_186_73 : js_I 186 73 = some (.goto (-62), 3) := by decide +kernel
theorem q_186_93 : js_I 186 93 = some (.iload 6, 2) := by decide +kernel
theorem q_186_95 : js_I 186 95 = some (.bipush 16, 2) := by decide +kernel
theorem q_186_97 : js_I 186 97 = some (.if_icmp .ge 48, 3) := by decide +kernel
theorem q_186_100 : js_I 186 100 = some (.lload_n 1, 1) := by decide +kernel
theorem q_186_101 : js_I 186 101 = some (.lload_n 3, 1) := by decide +kernel
theorem q_186_102 : js_I 186 102 = some (.iload 6, 2) := by decide +kernel
theorem q_186_104 : js_I 186 104 = some (.invokestatic 7, 3) := by decide +kernel
theorem q_186_145 : js_I 186 145 = some (.aload_n 0, 1) := by decide +kernel
theorem q_186_146 : js_I 186 146 = some (.getfield 11, 3) := by decide +kernel
theorem q_186_149 : js_I 186 149 = some (.ireturn, 1) := by decide +kernel
theorem q_186_107 : js_I 186 107 = some (.istore 7, 2) := by decide +kernel
theorem q_186_109 : js_I 186 109 = some (.iload 7, 2) := by decide +kernel
theorem q_186_111 : js_I 186 111 = some (.ifCond .ne 6, 3) := by decide +kernel
theorem q_186_114 : js_I 186 114 = some (.goto 25, 3) := by decide +kernel
theorem q_186_117 : js_I 186 117 = some (.aload_n 0, 1) := by decide +kernel
theorem q_186_118 : js_I 186 118 = some (.getfield 15, 3) := by decide +kernel
theorem q_186_121 : js_I 186 121 = some (.aload_n 0, 1) := by decide +kernel
theorem q_186_122 : js_I 186 122 = some (.getfield 11, 3) := by decide +kernel
theorem q_186_125 : js_I 186 125 = some (.iload 7, 2) := by decide +kernel
theorem q_186_127 : js_I 186 127 = some (.i2b, 1) := by decide +kernel
theorem q_186_128 : js_I 186 128 = some (.bastore, 1) := by decide +kernel
theorem q_186_129 : js_I 186 129 = some (.aload_n 0, 1) := by decide +kernel
theorem q_186_130 : js_I 186 130 = some (.dup, 1) := by decide +kernel
theorem q_186_131 : js_I 186 131 = some (.getfield 11, 3) := by decide +kernel
theorem q_186_134 : js_I 186 134 = some (.iconst 1, 1) := by decide +kernel
theorem q_186_135 : js_I 186 135 = some (.iadd, 1) := by decide +kernel
theorem q_186_136 : js_I 186 136 = some (.putfield 11, 3) := by decide +kernel
theorem q_186_139 : js_I 186 139 = some (.iinc 6 1, 3) := by decide +kernel
theorem q_186_142 : js_I 186 142 = some (.goto (-49), 3) := by decide +kernel
theorem q_187_0 : js_I 187 0 = some (.iload 4, 2) := by decide +kernel
theorem q_187_2 : js_I 187 2 = some (.bipush 8, 2) := by decide +kernel
theorem q_187_4 : js_I 187 4 = some (.if_icmp .ge 7, 3) := by decide +kernel
theorem q_187_7 : js_I 187 7 = some (.lload_n 0, 1) := by decide +kernel
theorem q_187_8 : js_I 187 8 = some (.goto 4, 3) := by decide +kernel
theorem q_187_11 : js_I 187 11 = some (.lload_n 2, 1) := by decide +kernel
theorem q_187_12 : js_I 187 12 = some (.bipush 56, 2) := by decide +kernel
theorem q_187_14 : js_I 187 14 = some (.bipush 8, 2) := by decide +kernel
theorem q_187_16 : js_I 187 16 = some (.iload 4, 2) := by decide +kernel
theorem q_187_18 : js_I 187 18 = some (.bipush 7, 2) := by decide +kernel
theorem q_187_20 : js_I 187 20 = some (.iand, 1) := by decide +kernel
theorem q_187_21 : js_I 187 21 = some (.imul, 1) := by decide +kernel
theorem q_187_22 : js_I 187 22 = some (.isub, 1) := by decide +kernel
theorem q_187_23 : js_I 187 23 = some (.lshr, 1) := by decide +kernel
theorem q_187_24 : js_I 187 24 = some (.l2i, 1) := by decide +kernel
theorem q_187_25 : js_I 187 25 = some (.sipush 255, 3) := by decide +kernel
theorem q_187_28 : js_I 187 28 = some (.iand, 1) := by decide +kernel
theorem q_187_29 : js_I 187 29 = some (.ireturn, 1) := by decide +kernel
theorem q_189_0 : js_I 189 0 = some (.aload_n 0, 1) := by decide +kernel
theorem q_189_1 : js_I 189 1 = some (.iconst 0, 1) := by decide +kernel
theorem q_189_2 : js_I 189 2 = some (.putfield 3, 3) := by decide +kernel
theorem q_189_5 : js_I 189 5 = some (.aload_n 0, 1) := by decide +kernel
theorem q_189_6 : js_I 189 6 = some (.invokevirtual 434, 3) := by decide +kernel
theorem q_189_9 : js_I 189 9 = some (.aload_n 0, 1) := by decide +kernel
theorem q_189_10 : js_I 189 10 = some (.getfield 437, 3) := by decide +kernel
theorem q_189_13 : js_I 189 13 = some (.istore_n 1, 1) := by decide +kernel
theorem q_189_14 : js_I 189 14 = some (.aload_n 0, 1) := by decide +kernel
theorem q_189_15 : js_I 189 15 = some (.getfield 440, 3) := by decide +kernel
theorem q_189_18 : js_I 189 18 = some (.istore_n 2, 1) := by decide +kernel
theorem q_189_19 : js_I 189 19 = some (.aload_n 0, 1) := by decide +kernel
theorem q_189_20 : js_I 189 20 = some (.getfield 443, 3) := by decide +kernel
theorem q_189_23 : js_I 189 23 = some (.istore_n 3, 1) := by decide +kernel
theorem q_189_24 : js_I 189 24 = some (.aload_n 0, 1) := by decide +kernel
theorem q_189_25 : js_I 189 25 = some (.getfield 446, 3) := by decide +kernel
theorem q_189_28 : js_I 189 28 = some (.istore 4, 2) := by decide +kernel
theorem q_189_30 : js_I 189 30 = some (.aload_n 0, 1) := by decide +kernel
theorem q_189_31 : js_I 189 31 = some (.getfield 449, 3) := by decide +kernel
theorem q_189_34 : js_I 189 34 = some (.istore 5, 2) := by decide +kernel
theorem q_189_36 : js_I 189 36 = some (.aload_n 0, 1) := by decide +kernel
theorem q_189_37 : js_I 189 37 = some (.aload_n 0, 1) := by decide +kernel
theorem q_189_38 : js_I 189 38 = some (.getfield 11, 3) := by decide +kernel
theorem q_189_41 : js_I 189 41 = some (.putfield 19, 3) := by decide +kernel
theorem q_189_44 : js_I 189 44 = some (.aload_n 0, 1) := by decide +kernel
theorem q_189_45 : js_I 189 45 = some (.iconst 0, 1) := by decide +kernel
theorem q_189_46 : js_I 189 46 = some (.putfield 11, 3) := by decide +kernel
theorem q_189_49 : js_I 189 49 = some (.aload_n 0, 1) := by decide +kernel
theorem q_189_50 : js_I 189 50 = some (.iconst 0, 1) := by decide +kernel
theorem q_189_51 : js_I 189 51 = some (.putfield 86, 3) := by decide +kernel
theorem q_189_54 : js_I 189 54 = some (.aload_n 0, 1) := by decide +kernel
theorem q_189_55 : js_I 189 55 = some (.iconst 0, 1) := by decide +kernel
theorem q_189_56 : js_I 189 56 = some (.putfield 165, 3) := by decide +kernel
theorem q_189_59 : js_I 189 59 = some (.aload_n 0, 1) := by decide +kernel
theorem q_189_60 : js_I 189 60 = some (.iconst 0, 1) := by decide +kernel
theorem q_189_61 : js_I 189 61 = some (.putfield 72, 3) := by decide +kernel
theorem q_189_64 : js_I 189 64 = some (.aload_n 0, 1) := by decide +kernel
theorem q_189_65 : js_I 189 65 = some (.iconst 0, 1) := by decide +kernel
theorem q_189_66 : js_I 189 66 = some (.putfield 22, 3) := by decide +kernel
theorem q_189_69 : js_I 189 69 = some (.aload_n 0, 1) := by decide +kernel
theorem q_189_70 : js_I 189 70 = some (.iconst (-1), 1) := by decide +kernel
theorem q_189_71 : js_I 189 71 = some (.putfield 123, 3) := by decide +kernel
theorem q_189_74 : js_I 189 74 = some (.aload_n 0, 1) := by decide +kernel
theorem q_189_75 : js_I 189 75 = some (.iconst 0, 1) := by decide +kernel
theorem q_189_76 : js_I 189 76 = some (.putfield 28, 3) := by decide +kernel
theorem q_189_79 : js_I 189 79 = some (.aload_n 0, 1) := by decide +kernel
theorem q_189_80 : js_I 189 80 = some (.invokevirtual 68, 3) := by decide +kernel
theorem q_189_83 : js_I 189 83 = some (.aload_n 0, 1) := by decide +kernel
theorem q_189_84 : js_I 189 84 = some (.getfield 25, 3) := by decide +kernel
theorem q_189_87 : js_I 189 87 = some (.sipush 300, 3) := by decide +kernel
theorem q_189_90 : js_I 189 90 = some (.if_icmp .eq 53, 3) := by decide +kernel
theorem q_189_93 : js_I 189 93 = some (.aload_n 0, 1) := by decide +kernel
theorem q_189_94 : js_I 189 94 = some (.getfield 25, 3) := by decide +kernel
theorem q_189_97 : js_I 189 97 = some (.sipush 301, 3) := by decide +kernel
theorem q_189_100 : js_I 189 100 = some (.if_icmp .eq 43, 3) := by decide +kernel
theorem q_189_103 : js_I 189 103 = some (.aload_n 0, 1) := by decide +kernel
theorem q_189_104 : js_I 189 104 = some (.getfield 25, 3) := by decide +kernel
theorem q_189_107 : js_I 189 107 = some (.sipush 302, 3) := by decide +kernel
theorem q_189_110 : js_I 189 110 = some (.if_icmp .eq 33, 3) := by decide +kernel
theorem q_189_113 : js_I 189 113 = some (.aload_n 0, 1) := by decide +kernel
theorem q_189_114 : js_I 189 114 = some (.getfield 25, 3) := by decide +kernel
theorem q_189_117 : js_I 189 117 = some (.sipush 303, 3) := by decide +kernel
theorem q_189_120 : js_I 189 120 = some (.if_icmp .eq 23, 3) := by decide +kernel
theorem q_189_123 : js_I 189 123 = some (.aload_n 0, 1) := by decide +kernel
theorem q_189_124 : js_I 189 124 = some (.getfield 25, 3) := by decide +kernel
theorem q_189_127 : js_I 189 127 = some (.sipush 304, 3) := by decide +kernel
theorem q_189_130 : js_I 189 130 = some (.if_icmp .eq 13, 3) := by decide +kernel
theorem q_189_133 : js_I 189 133 = some (.aload_n 0, 1) := by decide +kernel
theorem q_189_134 : js_I 189 134 = some (.getfield 25, 3) := by decide +kernel
theorem q_189_137 : js_I 189 137 = some (.sipush 306, 3) := by decide +kernel
theorem q_189_140 : js_I 189 140 = some (.if_icmp .ne 10, 3) := by decide +kernel
theorem q_189_150 : js_I 189 150 = some (.aload_n 0, 1) := by decide +kernel
theorem q_189_151 : js_I 189 151 = some (.sipush 314, 3) := by decide +kernel
theorem q_189_154 : js_I 189 154 = some (.invokevirtual 75, 3) := by decide +kernel
theorem q_189_143 : js_I 189 143 = some (.aload_n 0, 1) := by decide +kernel
theorem q_189_144 : js_I 189 144 = some (.invokevirtual 452, 3) := by decide +kernel
theorem q_189_147 : js_I 189 147 = some (.goto (-64), 3) := by decide +kernel
theorem q_189_157 : js_I 189 157 = some (.aload_n 0, 1) := by decide +kernel
theorem q_189_158 : js_I 189 158 = some (.iconst 0, 1) := by decide +kernel
theorem q_189_159 : js_I 189 159 = some (.putfield 284, 3) := by decide +kernel
theorem q_189_162 : js_I 189 162 = some (.aload_n 0, 1) := by decide +kernel
theorem q_189_163 : js_I 189 163 = some (.aload_n 0, 1) := by decide +kernel
theorem q_189_164 : js_I 189 164 = some (.invokevirtual 329, 3) := by decide +kernel
theorem q_189_167 : js_I 189 167 = some (.putfield 455, 3) := by decide +kernel
theorem q_189_170 : js_I 189 170 = some (.aload_n 0, 1) := by decide +kernel
theorem q_189_171 : js_I 189 171 = some (.getfield 25, 3) := by decide +kernel
theorem q_189_174 : js_I 189 174 = some (.iconst 1, 1) := by decide +kernel
theorem q_189_175 : js_I 189 175 = some (.if_icmp .eq 12, 3) := by decide +kernel
theorem q_189_178 : js_I 189 178 = some (.aload_n 0, 1) := by decide +kernel
theorem q_189_179 : js_I 189 179 = some (.iconst 1, 1) := by decide +kernel
theorem q_189_180 : js_I 189 180 = some (.aload_n 0, 1) := by decide +kernel
theorem q_189_181 : js_I 189 181 = some (.getfield 35, 3) := by decide +kernel
theorem q_189_184 : js_I 189 184 = some (.invokevirtual 65, 3) := by decide +kernel
theorem q_189_187 : js_I 189 187 = some (.aload_n 0, 1) := by decide +kernel
theorem q_189_188 : js_I 189 188 = some (.getfield 22, 3) := by decide +kernel
theorem q_189_191 : js_I 189 191 = some (.ifCond .ne 7, 3) := by decide +kernel
theorem q_189_194 : js_I 189 194 = some (.aload_n 0, 1) := by decide +kernel
theorem q_189_195 : js_I 189 195 = some (.invokevirtual 458, 3) := by decide +kernel
theorem q_189_198 : js_I 189 198 = some (.aload_n 0, 1) := by decide +kernel
theorem q_189_199 : js_I 189 199 = some (.getfield 22, 3) := by decide +kernel
theorem q_189_202 : js_I 189 202 = some (.ifCond .le 48, 3) := by decide +kernel
theorem q_189_205 : js_I 189 205 = some (.aload_n 0, 1) := by decide +kernel
theorem q_189_206 : js_I 189 206 = some (.getfield 22, 3) := by decide +kernel
theorem q_189_209 : js_I 189 209 = some (.istore 6, 2) := by decide +kernel
theorem q_189_211 : js_I 189 211 = some (.aload_n 0, 1) := by decide +kernel
theorem q_189_212 : js_I 189 212 = some (.iconst 0, 1) := by decide +kernel
theorem q_189_213 : js_I 189 213 = some (.putfield 22, 3) := by decide +kernel
theorem q_189_216 : js_I 189 216 = some (.aload_n 0, 1) := by decide +kernel
theorem q_189_217 : js_I 189 217 = some (.invokevirtual 461, 3) := by decide +kernel
theorem q_189_250 : js_I 189 250 = some (.aload_n 0, 1) := by decide +kernel
theorem q_189_251 : js_I 189 251 = some (.iconst 1, 1) := by decide +kernel
theorem q_189_252 : js_I 189 252 = some (.putfield 464, 3) := by decide +kernel
theorem q_189_255 : js_I 189 255 = some (.aload_n 0, 1) := by decide +kernel
theorem q_189_256 : js_I 189 256 = some (.invokevirtual 468, 3) := by decide +kernel
theorem q_189_220 : js_I 189 220 = some (.aload_n 0, 1) := by decide +kernel
theorem q_189_221 : js_I 189 221 = some (.iload_n 1, 1) := by decide +kernel
theorem q_189_222 : js_I 189 222 = some (.putfield 437, 3) := by decide +kernel
theorem q_189_225 : js_I 189 225 = some (.aload_n 0, 1) := by decide +kernel
theorem q_189_226 : js_I 189 226 = some (.iload_n 2, 1) := by decide +kernel
theorem q_189_227 : js_I 189 227 = some (.putfield 440, 3) := by decide +kernel
theorem q_189_230 : js_I 189 230 = some (.aload_n 0, 1) := by decide +kernel
theorem q_189_231 : js_I 189 231 = some (.iload_n 3, 1) := by decide +kernel
theorem q_189_232 : js_I 189 232 = some (.putfield 443, 3) := by decide +kernel
theorem q_189_235 : js_I 189 235 = some (.aload_n 0, 1) := by decide +kernel
theorem q_189_236 : js_I 189 236 = some (.iload 4, 2) := by decide +kernel
theorem q_189_238 : js_I 189 238 = some (.putfield 446, 3) := by decide +kernel
theorem q_189_241 : js_I 189 241 = some (.aload_n 0, 1) := by decide +kernel
theorem q_189_242 : js_I 189 242 = some (.iload 5, 2) := by decide +kernel
theorem q_189_244 : js_I 189 244 = some (.putfield 449, 3) := by decide +kernel
theorem q_189_247 : js_I 189 247 = some (.iload 6, 2) := by decide +kernel
theorem q_189_249 : js_I 189 249 = some (.ireturn, 1) := by decide +kernel
theorem q_189_259 : js_I 189 259 = some (.aload_n 0, 1) := by decide +kernel
theorem q_189_260 : js_I 189 260 = some (.invokevirtual 471, 3) := by decide +kernel
theorem q_189_263 : js_I 189 263 = some (.iconst 0, 1) := by decide +kernel
theorem q_189_264 : js_I 189 264 = some (.ireturn, 1) := by decide +kernel
theorem q_190_0 : js_I 190 0 = some (.aload_n 0, 1) := by decide +kernel
theorem q_190_1 : js_I 190 1 = some (.aload_n 0, 1) := by decide +kernel
theorem q_190_2 : js_I 190 2 = some (.getfield 86, 3) := by decide +kernel
theorem q_190_5 : js_I 190 5 = some (.putfield 425, 3) := by decide +kernel
theorem q_190_8 : js_I 190 8 = some (.aload_n 0, 1) := by decide +kernel
theorem q_190_9 : js_I 190 9 = some (.aload_n 0, 1) := by decide +kernel
theorem q_190_10 : js_I 190 10 = some (.getfield 428, 3) := by decide +kernel
theorem q_190_13 : js_I 190 13 = some (.putfield 431, 3) := by decide +kernel
theorem q_190_16 : js_I 190 16 = some (.iconst 0, 1) := by decide +kernel
theorem q_190_17 : js_I 190 17 = some (.istore_n 1, 1) := by decide +kernel
theorem q_190_18 : js_I 190 18 = some (.iload_n 1, 1) := by decide +kernel
theorem q_190_19 : js_I 190 19 = some (.aload_n 0, 1) := by decide +kernel
theorem q_190_20 : js_I 190 20 = some (.getfield 86, 3) := by decide +kernel
theorem q_190_23 : js_I 190 23 = some (.if_icmp .ge 189, 3) := by decide +kernel
theorem q_190_26 : js_I 190 26 = some (.aload_n 0, 1) := by decide +kernel
theorem q_190_27 : js_I 190 27 = some (.getfield 362, 3) := by decide +kernel
theorem q_190_30 : js_I 190 30 = some (.iload_n 1, 1) := by decide +kernel
theorem q_190_31 : js_I 190 31 = some (.aload_n 0, 1) := by decide +kernel
theorem q_190_32 : js_I 190 32 = some (.getfield 99, 3) := by decide +kernel
theorem q_190_35 : js_I 190 35 = some (.iload_n 1, 1) := by decide +kernel
theorem q_190_36 : js_I 190 36 = some (.iaload, 1) := by decide +kernel
theorem q_190_37 : js_I 190 37 = some (.iastore, 1) := by decide +kernel
theorem q_190_38 : js_I 190 38 = some (.aload_n 0, 1) := by decide +kernel
theorem q_190_39 : js_I 190 39 = some (.getfield 362, 3) := by decide +kernel
theorem q_190_42 : js_I 190 42 = some (.sipush 400, 3) := by decide +kernel
theorem q_190_45 : js_I 190 45 = some (.iload_n 1, 1) := by decide +kernel
theorem q_190_46 : js_I 190 46 = some (.iadd, 1) := by decide +kernel
theorem q_190_47 : js_I 190 47 = some (.aload_n 0, 1) := by decide +kernel
theorem q_190_48 : js_I 190 48 = some (.getfield 102, 3) := by decide +kernel
theorem q_190_51 : js_I 190 51 = some (.iload_n 1, 1) := by decide +kernel
theorem q_190_52 : js_I 190 52 = some (.iaload, 1) := by decide +kernel
theorem q_190_53 : js_I 190 53 = some (.iastore, 1) := by decide +kernel
theorem q_190_54 : js_I 190 54 = some (.aload_n 0, 1) := by decide +kernel
theorem q_190_55 : js_I 190 55 = some (.getfield 362, 3) := by decide +kernel
theorem q_190_58 : js_I 190 58 = some (.sipush 800, 3) := by decide +kernel
theorem q_190_61 : js_I 190 61 = some (.iload_n 1, 1) := by decide +kernel
theorem q_190_62 : js_I 190 62 = some (.iadd, 1) := by decide +kernel
theorem q_190_63 : js_I 190 63 = some (.aload_n 0, 1) := by decide +kernel
theorem q_190_64 : js_I 190 64 = some (.getfield 105, 3) := by decide +kernel
theorem q_190_67 : js_I 190 67 = some (.iload_n 1, 1) := by decide +kernel
theorem q_190_68 : js_I 190 68 = some (.iaload, 1) := by decide +kernel
theorem q_190_69 : js_I 190 69 = some (.iastore, 1) := by decide +kernel
theorem q_190_70 : js_I 190 70 = some (.aload_n 0, 1) := by decide +kernel
theorem q_190_71 : js_I 190 71 = some (.getfield 362, 3) := by decide +kernel
theorem q_190_74 : js_I 190 74 = some (.sipush 1200, 3) := by decide +kernel
theorem q_190_77 : js_I 190 77 = some (.iload_n 1, 1) := by decide +kernel
theorem q_190_78 : js_I 190 78 = some (.iadd, 1) := by decide +kernel
theorem q_190_79 : js_I 190 79 = some (.aload_n 0, 1) := by decide +kernel
theorem q_190_80 : js_I 190 80 = some (.getfield 108, 3) := by decide +kernel
theorem q_190_83 : js_I 190 83 = some (.iload_n 1, 1) := by decide +kernel
theorem q_190_84 : js_I 190 84 = some (.iaload, 1) := by decide +kernel
theorem q_190_85 : js_I 190 85 = some (.iastore, 1) := by decide +kernel
theorem q_190_86 : js_I 190 86 = some (.aload_n 0, 1) := by decide +kernel
theorem q_190_87 : js_I 190 87 = some (.getfield 362, 3) := by decide +kernel
theorem q_190_90 : js_I 190 90 = some (.sipush 1600, 3) := by decide +kernel
theorem q_190_93 : js_I 190 93 = some (.iload_n 1, 1) := by decide +kernel
theorem q_190_94 : js_I 190 94 = some (.iadd, 1) := by decide +kernel
theorem q_190_95 : js_I 190 95 = some (.aload_n 0, 1) := by decide +kernel
theorem q_190_96 : js_I 190 96 = some (.getfield 111, 3) := by decide +kernel
theorem q_190_99 : js_I 190 99 = some (.iload_n 1, 1) := by decide +kernel
theorem q_190_100 : js_I 190 100 = some (.iaload, 1) := by decide +kernel
theorem q_190_101 : js_I 190 101 = some (.iastore, 1) := by decide +kernel
theorem q_190_102 : js_I 190 102 = some (.aload_n 0, 1) := by decide +kernel
theorem q_190_103 : js_I 190 103 = some (.getfield 362, 3) := by decide +kernel
theorem q_190_106 : js_I 190 106 = some (.sipush 2000, 3) := by decide +kernel
theorem q_190_109 : js_I 190 109 = some (.iload_n 1, 1) := by decide +kernel
theorem q_190_110 : js_I 190 110 = some (.iadd, 1) := by decide +kernel
theorem q_190_111 : js_I 190 111 = some (.aload_n 0, 1) := by decide +kernel
theorem q_190_112 : js_I 190 112 = some (.getfield 114, 3) := by decide +kernel
theorem q_190_115 : js_I 190 115 = some (.iload_n 1, 1) := by decide +kernel
theorem q_190_116 : js_I 190 116 = some (.iaload, 1) := by decide +kernel
theorem q_190_117 : js_I 190 117 = some (.iastore, 1) := by decide +kernel
theorem q_190_118 : js_I 190 118 = some (.aload_n 0, 1) := by decide +kernel
theorem q_190_119 : js_I 190 119 = some (.getfield 362, 3) := by decide +kernel
theorem q_190_122 : js_I 190 122 = some (.sipush 2400, 3) := by decide +kernel
theorem q_190_125 : js_I 190 125 = some (.iload_n 1, 1) := by decide +kernel
theorem q_190_126 : js_I 190 126 = some (.iadd, 1) := by decide +kernel
theorem q_190_127 : js_I 190 127 = some (.aload_n 0, 1) := by decide +kernel
theorem q_190_128 : js_I 190 128 = some (.getfield 117, 3) := by decide +kernel
theorem q_190_131 : js_I 190 131 = some (.iload_n 1, 1) := by decide +kernel
theorem q_190_132 : js_I 190 132 = some (.baload, 1) := by decide +kernel
theorem q_190_133 : js_I 190 133 = some (.ifCond .eq 7, 3) := by decide +kernel
theorem q_190_140 : js_I 190 140 = some (.iconst 0, 1) := by decide +kernel
theorem q_190_136 : js_I 190 136 = some (.iconst 1, 1) := by decide +kernel
theorem q_190_137 : js_I 190 137 = some (.goto 4, 3) := by decide +kernel
theorem q_190_212 : js_I 190 212 = some (.iconst 0, 1) := by decide +kernel
theorem q_190_213 : js_I 190 213 = some (.istore_n 1, 1) := by decide +kernel
theorem q_190_141 : js_I 190 141 = some (.iastore, 1) := by decide +kernel
theorem q_190_142 : js_I 190 142 = some (.aload_n 0, 1) := by decide +kernel
theorem q_190_143 : js_I 190 143 = some (.getfield 362, 3) := by decide +kernel
theorem q_190_146 : js_I 190 146 = some (.sipush 2800, 3) := by decide +kernel
theorem q_190_149 : js_I 190 149 = some (.iload_n 1, 1) := by decide +kernel
theorem q_190_150 : js_I 190 150 = some (.iadd, 1) := by decide +kernel
theorem q_190_151 : js_I 190 151 = some (.aload_n 0, 1) := by decide +kernel
theorem q_190_152 : js_I 190 152 = some (.getfield 120, 3) := by decide +kernel
theorem q_190_155 : js_I 190 155 = some (.iload_n 1, 1) := by decide +kernel
theorem q_190_156 : js_I 190 156 = some (.iaload, 1) := by decide +kernel
theorem q_190_157 : js_I 190 157 = some (.iastore, 1) := by decide +kernel
theorem q_190_158 : js_I 190 158 = some (.aload_n 0, 1) := by decide +kernel
theorem q_190_159 : js_I 190 159 = some (.getfield 362, 3) := by decide +kernel
theorem q_190_162 : js_I 190 162 = some (.sipush 3200, 3) := by decide +kernel
theorem q_190_165 : js_I 190 165 = some (.iload_n 1, 1) := by decide +kernel
theorem q_190_166 : js_I 190 166 = some (.iadd, 1) := by decide +kernel
theorem q_190_167 : js_I 190 167 = some (.aload_n 0, 1) := by decide +kernel
theorem q_190_168 : js_I 190 168 = some (.getfield 126, 3) := by decide +kernel
theorem q_190_171 : js_I 190 171 = some (.iload_n 1, 1) := by decide +kernel
theorem q_190_172 : js_I 190 172 = some (.iaload, 1) := by decide +kernel
theorem q_190_173 : js_I 190 173 = some (.iastore, 1) := by decide +kernel
theorem q_190_174 : js_I 190 174 = some (.aload_n 0, 1) := by decide +kernel
theorem q_190_175 : js_I 190 175 = some (.getfield 362, 3) := by decide +kernel
theorem q_190_178 : js_I 190 178 = some (.sipush 3600, 3) := by decide +kernel
theorem q_190_181 : js_I 190 181 = some (.iload_n 1, 1) := by decide +kernel
theorem q_190_182 : js_I 190 182 = some (.iadd, 1) := by decide +kernel
theorem q_190_183 : js_I 190 183 = some (.aload_n 0, 1) := by decide +kernel
theorem q_190_184 : js_I 190 184 = some (.getfield 129, 3) := by decide +kernel
theorem q_190_187 : js_I 190 187 = some (.iload_n 1, 1) := by decide +kernel
theorem q_190_188 : js_I 190 188 = some (.iaload, 1) := by decide +kernel
theorem q_190_189 : js_I 190 189 = some (.iastore, 1) := by decide +kernel
theorem q_190_190 : js_I 190 190 = some (.aload_n 0, 1) := by decide +kernel
theorem q_190_191 : js_I 190 191 = some (.getfield 362, 3) := by decide +kernel
theorem q_190_194 : js_I 190 194 = some (.sipush 4000, 3) := by decide +kernel
theorem q_190_197 : js_I 190 197 = some (.iload_n 1, 1) := by decide +kernel
theorem q_190_198 : js_I 190 198 = some (.iadd, 1) := by decide +kernel
theorem q_190_199 : js_I 190 199 = some (.aload_n 0, 1) := by decide +kernel
theorem q_190_200 : js_I 190 200 = some (.getfield 79, 3) := by decide +kernel
theorem q_190_203 : js_I 190 203 = some (.iload_n 1, 1) := by decide +kernel
theorem q_190_204 : js_I 190 204 = some (.iaload, 1) := by decide +kernel
theorem q_190_205 : js_I 190 205 = some (.iastore, 1) := by decide +kernel
theorem q_190_206 : js_I 190 206 = some (.iinc 1 1, 3) := by decide +kernel
theorem q_190_209 : js_I 190 209 = some (.goto (-191), 3) := by decide +kernel
theorem q_190_214 : js_I 190 214 = some (.iload_n 1, 1) := by decide +kernel
theorem q_190_215 : js_I 190 215 = some (.bipush 20, 2) := by decide +kernel
theorem q_190_217 : js_I 190 217 = some (.aload_n 0, 1) := by decide +kernel
theorem q_190_218 : js_I 190 218 = some (.getfield 86, 3) := by decide +kernel
theorem q_190_221 : js_I 190 221 = some (.imul, 1) := by decide +kernel
theorem q_190_222 : js_I 190 222 = some (.if_icmp .ge 21, 3) := by decide +kernel
theorem q_190_225 : js_I 190 225 = some (.aload_n 0, 1) := by decide +kernel
theorem q_190_226 : js_I 190 226 = some (.getfield 365, 3) := by decide +kernel
theorem q_190_229 : js_I 190 229 = some (.iload_n 1, 1) := by decide +kernel
theorem q_190_230 : js_I 190 230 = some (.aload_n 0, 1) := by decide +kernel
theorem q_190_231 : js_I 190 231 = some (.getfield 83, 3) := by decide +kernel
theorem q_190_234 : js_I 190 234 = some (.iload_n 1, 1) := by decide +kernel
theorem q_190_235 : js_I 190 235 = some (.baload, 1) := by decide +kernel
theorem q_190_236 : js_I 190 236 = some (.bastore, 1) := by decide +kernel
theorem q_190_237 : js_I 190 237 = some (.iinc 1 1, 3) := by decide +kernel
theorem q_190_240 : js_I 190 240 = some (.goto (-26), 3) := by decide +kernel
theorem q_190_243 : js_I 190 243 = some (.iconst 0, 1) := by decide +kernel
theorem q_190_244 : js_I 190 244 = some (.istore_n 1, 1) := by decide +kernel
theorem q_190_245 : js_I 190 245 = some (.iload_n 1, 1) := by decide +kernel
theorem q_190_246 : js_I 190 246 = some (.aload_n 0, 1) := by decide +kernel
theorem q_190_247 : js_I 190 247 = some (.getfield 428, 3) := by decide +kernel
theorem q_190_250 : js_I 190 250 = some (.if_icmp .ge 81, 3) := by decide +kernel
theorem q_190_253 : js_I 190 253 = some (.aload_n 0, 1) := by decide +kernel
theorem q_190_254 : js_I 190 254 = some (.getfield 368, 3) := by decide +kernel
theorem q_190_257 : js_I 190 257 = some (.iload_n 1, 1) := by decide +kernel
theorem q_190_258 : js_I 190 258 = some (.aload_n 0, 1) := by decide +kernel
theorem q_190_259 : js_I 190 259 = some (.getfield 346, 3) := by decide +kernel
theorem q_190_262 : js_I 190 262 = some (.iload_n 1, 1) := by decide +kernel
theorem q_190_263 : js_I 190 263 = some (.iaload, 1) := by decide +kernel
theorem q_190_264 : js_I 190 264 = some (.iastore, 1) := by decide +kernel
theorem q_190_265 : js_I 190 265 = some (.aload_n 0, 1) := by decide +kernel
theorem q_190_266 : js_I 190 266 = some (.getfield 368, 3) := by decide +kernel
theorem q_190_269 : js_I 190 269 = some (.sipush 8192, 3) := by decide +kernel
theorem q_190_272 : js_I 190 272 = some (.iload_n 1, 1) := by decide +kernel
theorem q_190_273 : js_I 190 273 = some (.iadd, 1) := by decide +kernel
theorem q_190_274 : js_I 190 274 = some (.aload_n 0, 1) := by decide +kernel
theorem q_190_275 : js_I 190 275 = some (.getfield 349, 3) := by decide +kernel
theorem q_190_278 : js_I 190 278 = some (.iload_n 1, 1) := by decide +kernel
theorem q_190_279 : js_I 190 279 = some (.iaload, 1) := by decide +kernel
theorem q_190_280 : js_I 190 280 = some (.iastore, 1) := by decide +kernel
theorem q_190_281 : js_I 190 281 = some (.aload_n 0, 1) := by decide +kernel
theorem q_190_282 : js_I 190 282 = some (.getfield 368, 3) := by decide +kernel
theorem q_190_285 : js_I 190 285 = some (.sipush 16384, 3) := by decide +kernel
theorem q_190_288 : js_I 190 288 = some (.iload_n 1, 1) := by decide +kernel
theorem q_190_289 : js_I 190 289 = some (.iadd, 1) := by decide +kernel
theorem q_190_290 : js_I 190 290 = some (.aload_n 0, 1) := by decide +kernel
theorem q_190_291 : js_I 190 291 = some (.getfield 352, 3) := by decide +kernel
theorem q_190_294 : js_I 190 294 = some (.iload_n 1, 1) := by decide +kernel
theorem q_190_295 : js_I 190 295 = some (.iaload, 1) := by decide +kernel
theorem q_190_296 : js_I 190 296 = some (.iastore, 1) := by decide +kernel
theorem q_190_297 : js_I 190 297 = some (.aload_n 0, 1) := by decide +kernel
theorem q_190_298 : js_I 190 298 = some (.getfield 371, 3) := by decide +kernel
theorem q_190_301 : js_I 190 301 = some (.iload_n 1, 1) := by decide +kernel
theorem q_190_302 : js_I 190 302 = some (.aload_n 0, 1) := by decide +kernel
theorem q_190_303 : js_I 190 303 = some (.getfield 355, 3) := by decide +kernel
theorem q_190_306 : js_I 190 306 = some (.iload_n 1, 1) := by decide +kernel
theorem q_190_307 : js_I 190 307 = some (.laload, 1) := by decide +kernel
theorem q_190_308 : js_I 190 308 = some (.lastore, 1) := by decide +kernel
theorem q_190_309 : js_I 190 309 = some (.aload_n 0, 1) := by decide +kernel
theorem q_190_310 : js_I 190 310 = some (.getfield 371, 3) := by decide +kernel
theorem q_190_313 : js_I 190 313 = some (.sipush 8192, 3) := by decide +kernel
theorem q_190_316 : js_I 190 316 = some (.iload_n 1, 1) := by decide +kernel
theorem q_190_317 : js_I 190 317 = some (.iadd, 1) := by decide +kernel
theorem q_190_318 : js_I 190 318 = some (.aload_n 0, 1) := by decide +kernel
theorem q_190_319 : js_I 190 319 = some (.getfield 359, 3) := by decide +kernel
theorem q_190_322 : js_I 190 322 = some (.iload_n 1, 1) := by decide +kernel
theorem q_190_323 : js_I 190 323 = some (.laload, 1) := by decide +kernel
theorem q_190_324 : js_I 190 324 = some (.lastore, 1) := by decide +kernel
theorem q_190_325 : js_I 190 325 = some (.iinc 1 1, 3) := by decide +kernel
theorem q_190_328 : js_I 190 328 = some (.goto (-83), 3) := by decide +kernel
theorem q_190_331 : js_I 190 331 = some (.return_, 1) := by decide +kernel
theorem q_191_0 : js_I 191 0 = some (.aload_n 0, 1) := by decide +kernel
theorem q_191_1 : js_I 191 1 = some (.getfield 22, 3) := by decide +kernel
theorem q_191_4 : js_I 191 4 = some (.ifCond .le 4, 3) := by decide +kernel
theorem q_191_7 : js_I 191 7 = some (.return_, 1) := by decide +kernel
theorem q_191_8 : js_I 191 8 = some (.aload_n 0, 1) := by decide +kernel
theorem q_191_9 : js_I 191 9 = some (.getfield 28, 3) := by decide +kernel
theorem q_191_12 : js_I 191 12 = some (.istore_n 1, 1) := by decide +kernel
theorem q_191_13 : js_I 191 13 = some (.iconst 1, 1) := by decide +kernel
theorem q_191_14 : js_I 191 14 = some (.istore_n 2, 1) := by decide +kernel
theorem q_191_15 : js_I 191 15 = some (.iload_n 2, 1) := by decide +kernel
theorem q_191_16 : js_I 191 16 = some (.ifCond .eq 93, 3) := by decide +kernel
theorem q_191_109 : js_I 191 109 = some (.aload_n 0, 1) := by decide +kernel
theorem q_191_110 : js_I 191 110 = some (.iload_n 1, 1) := by decide +kernel
theorem q_191_111 : js_I 191 111 = some (.putfield 35, 3) := by decide +kernel
theorem q_191_114 : js_I 191 114 = some (.aload_n 0, 1) := by decide +kernel
theorem q_191_115 : js_I 191 115 = some (.iload_n 1, 1) := by decide +kernel
theorem q_191_116 : js_I 191 116 = some (.invokevirtual 31, 3) := by decide +kernel
theorem q_191_19 : js_I 191 19 = some (.iload_n 1, 1) := by decide +kernel
theorem q_191_20 : js_I 191 20 = some (.aload_n 0, 1) := by decide +kernel
theorem q_191_21 : js_I 191 21 = some (.getfield 19, 3) := by decide +kernel
theorem q_191_24 : js_I 191 24 = some (.if_icmp .ge 29, 3) := by decide +kernel
theorem q_191_27 : js_I 191 27 = some (.aload_n 0, 1) := by decide +kernel
theorem q_191_28 : js_I 191 28 = some (.iload_n 1, 1) := by decide +kernel
theorem q_191_29 : js_I 191 29 = some (.invokevirtual 31, 3) := by decide +kernel
theorem q_191_32 : js_I 191 32 = some (.bipush 32, 2) := by decide +kernel
theorem q_191_34 : js_I 191 34 = some (.if_icmp .eq 13, 3) := by decide +kernel
theorem q_191_37 : js_I 191 37 = some (.aload_n 0, 1) := by decide +kernel
theorem q_191_38 : js_I 191 38 = some (.iload_n 1, 1) := by decide +kernel
theorem q_191_39 : js_I 191 39 = some (.invokevirtual 31, 3) := by decide +kernel
theorem q_191_42 : js_I 191 42 = some (.bipush 10, 2) := by decide +kernel
theorem q_191_44 : js_I 191 44 = some (.if_icmp .ne 9, 3) := by decide +kernel
theorem q_191_47 : js_I 191 47 = some (.iinc 1 1, 3) := by decide +kernel
theorem q_191_50 : js_I 191 50 = some (.goto (-31), 3) := by decide +kernel
theorem q_191_53 : js_I 191 53 = some (.aload_n 0, 1) := by decide +kernel
theorem q_191_54 : js_I 191 54 = some (.iload_n 1, 1) := by decide +kernel
theorem q_191_55 : js_I 191 55 = some (.invokevirtual 31, 3) := by decide +kernel
theorem q_191_58 : js_I 191 58 = some (.bipush 47, 2) := by decide +kernel
theorem q_191_60 : js_I 191 60 = some (.if_icmp .ne 19, 3) := by decide +kernel
theorem q_191_63 : js_I 191 63 = some (.aload_n 0, 1) := by decide +kernel
theorem q_191_64 : js_I 191 64 = some (.iload_n 1, 1) := by decide +kernel
theorem q_191_65 : js_I 191 65 = some (.iconst 1, 1) := by decide +kernel
theorem q_191_66 : js_I 191 66 = some (.iadd, 1) := by decide +kernel
theorem q_191_67 : js_I 191 67 = some (.invokevirtual 31, 3) := by decide +kernel
theorem q_191_70 : js_I 191 70 = some (.bipush 47, 2) := by decide +kernel
theorem q_191_72 : js_I 191 72 = some (.if_icmp .ne 7, 3) := by decide +kernel
theorem q_191_75 : js_I 191 75 = some (.iconst 1, 1) := by decide +kernel
theorem q_191_76 : js_I 191 76 = some (.goto 4, 3) := by decide +kernel
theorem q_191_79 : js_I 191 79 = some (.iconst 0, 1) := by decide +kernel
theorem q_191_80 : js_I 191 80 = some (.istore_n 2, 1) := by decide +kernel
theorem q_191_81 : js_I 191 81 = some (.iload_n 2, 1) := by decide +kernel
theorem q_191_82 : js_I 191 82 = some (.ifCond .eq (-67), 3) := by decide +kernel
theorem q_191_85 : js_I 191 85 = some (.iload_n 1, 1) := by decide +kernel
theorem q_191_86 : js_I 191 86 = some (.aload_n 0, 1) := by decide +kernel
theorem q_191_87 : js_I 191 87 = some (.getfield 19, 3) := by decide +kernel
theorem q_191_90 : js_I 191 90 = some (.if_icmp .ge (-75), 3) := by decide +kernel
theorem q_191_93 : js_I 191 93 = some (.aload_n 0, 1) := by decide +kernel
theorem q_191_94 : js_I 191 94 = some (.iload_n 1, 1) := by decide +kernel
theorem q_191_95 : js_I 191 95 = some (.invokevirtual 31, 3) := by decide +kernel
theorem q_191_98 : js_I 191 98 = some (.bipush 10, 2) := by decide +kernel
theorem q_191_100 : js_I 191 100 = some (.if_icmp .eq (-85), 3) := by decide +kernel
theorem q_191_103 : js_I 191 103 = some (.iinc 1 1, 3) := by decide +kernel
theorem q_191_106 : js_I 191 106 = some (.goto (-25), 3) := by decide +kernel
theorem q_191_119 : js_I 191 119 = some (.istore_n 3, 1) := by decide +kernel
theorem q_191_120 : js_I 191 120 = some (.iload_n 1, 1) := by decide +kernel
theorem q_191_121 : js_I 191 121 = some (.aload_n 0, 1) := by decide +kernel
theorem q_191_122 : js_I 191 122 = some (.getfield 19, 3) := by decide +kernel
theorem q_191_125 : js_I 191 125 = some (.if_icmp .lt 16, 3) := by decide +kernel
theorem q_191_141 : js_I 191 141 = some (.iload_n 3, 1) := by decide +kernel
theorem q_191_142 : js_I 191 142 = some (.invokestatic 38, 3) := by decide +kernel
theorem q_191_128 : js_I 191 128 = some (.aload_n 0, 1) := by decide +kernel
theorem q_191_129 : js_I 191 129 = some (.iconst 1, 1) := by decide +kernel
theorem q_191_130 : js_I 191 130 = some (.putfield 25, 3) := by decide +kernel
theorem q_191_133 : js_I 191 133 = some (.aload_n 0, 1) := by decide +kernel
theorem q_191_134 : js_I 191 134 = some (.iload_n 1, 1) := by decide +kernel
theorem q_191_135 : js_I 191 135 = some (.putfield 28, 3) := by decide +kernel
theorem q_191_138 : js_I 191 138 = some (.goto 202, 3) := by decide +kernel
theorem q_191_145 : js_I 191 145 = some (.ifCond .eq 76, 3) := by decide +kernel
theorem q_191_221 : js_I 191 221 = some (.iload_n 3, 1) := by decide +kernel
theorem q_191_222 : js_I 191 222 = some (.invokestatic 42, 3) := by decide +kernel
theorem q_191_148 : js_I 191 148 = some (.aload_n 0, 1) := by decide +kernel
theorem q_191_149 : js_I 191 149 = some (.iload_n 1, 1) := by decide +kernel
theorem q_191_150 : js_I 191 150 = some (.invokevirtual 31, 3) := by decide +kernel
theorem q_191_153 : js_I 191 153 = some (.invokestatic 38, 3) := by decide +kernel
theorem q_191_156 : js_I 191 156 = some (.ifCond .ne 14, 3) := by decide +kernel
theorem q_191_159 : js_I 191 159 = some (.aload_n 0, 1) := by decide +kernel
theorem q_191_160 : js_I 191 160 = some (.iload_n 1, 1) := by decide +kernel
theorem q_191_161 : js_I 191 161 = some (.invokevirtual 31, 3) := by decide +kernel
theorem q_191_164 : js_I 191 164 = some (.invokestatic 42, 3) := by decide +kernel
theorem q_191_167 : js_I 191 167 = some (.ifCond .eq 9, 3) := by decide +kernel
theorem q_191_176 : js_I 191 176 = some (.aload_n 0, 1) := by decide +kernel
theorem q_191_177 : js_I 191 177 = some (.iload_n 1, 1) := by decide +kernel
theorem q_191_178 : js_I 191 178 = some (.putfield 28, 3) := by decide +kernel
theorem q_191_181 : js_I 191 181 = some (.aload_n 0, 1) := by decide +kernel
theorem q_191_182 : js_I 191 182 = some (.aload_n 0, 1) := by decide +kernel
theorem q_191_183 : js_I 191 183 = some (.invokevirtual 45, 3) := by decide +kernel
theorem q_191_170 : js_I 191 170 = some (.iinc 1 1, 3) := by decide +kernel
theorem q_191_173 : js_I 191 173 = some (.goto (-25), 3) := by decide +kernel
theorem q_191_186 : js_I 191 186 = some (.putfield 25, 3) := by decide +kernel
theorem q_191_189 : js_I 191 189 = some (.aload_n 0, 1) := by decide +kernel
theorem q_191_190 : js_I 191 190 = some (.getfield 25, 3) := by decide +kernel
theorem q_191_193 : js_I 191 193 = some (.iconst 2, 1) := by decide +kernel
theorem q_191_194 : js_I 191 194 = some (.if_icmp .ne 146, 3) := by decide +kernel
theorem q_191_197 : js_I 191 197 = some (.aload_n 0, 1) := by decide +kernel
theorem q_191_198 : js_I 191 198 = some (.getfield 28, 3) := by decide +kernel
theorem q_191_201 : js_I 191 201 = some (.aload_n 0, 1) := by decide +kernel
theorem q_191_202 : js_I 191 202 = some (.getfield 35, 3) := by decide +kernel
theorem q_191_205 : js_I 191 205 = some (.isub, 1) := by decide +kernel
theorem q_191_206 : js_I 191 206 = some (.bipush 20, 2) := by decide +kernel
theorem q_191_208 : js_I 191 208 = some (.if_icmp .le 132, 3) := by decide +kernel
theorem q_191_211 : js_I 191 211 = some (.aload_n 0, 1) := by decide +kernel
theorem q_191_212 : js_I 191 212 = some (.sipush 2000, 3) := by decide +kernel
theorem q_191_215 : js_I 191 215 = some (.putfield 25, 3) := by decide +kernel
theorem q_191_218 : js_I 191 218 = some (.goto 122, 3) := by decide +kernel
theorem q_191_225 : js_I 191 225 = some (.ifCond .eq 103, 3) := by decide +kernel
theorem q_191_328 : js_I 191 328 = some (.aload_n 0, 1) := by decide +kernel
theorem q_191_329 : js_I 191 329 = some (.iload_n 3, 1) := by decide +kernel
theorem q_191_330 : js_I 191 330 = some (.aload_n 0, 1) := by decide +kernel
theorem q_191_331 : js_I 191 331 = some (.iload_n 1, 1) := by decide +kernel
theorem q_191_332 : js_I 191 332 = some (.iconst 1, 1) := by decide +kernel
theorem q_191_333 : js_I 191 333 = some (.iadd, 1) := by decide +kernel
theorem q_191_334 : js_I 191 334 = some (.invokevirtual 31, 3) := by decide +kernel
theorem q_191_228 : js_I 191 228 = some (.lconst 0, 1) := by decide +kernel
theorem q_191_229 : js_I 191 229 = some (.lstore 4, 2) := by decide +kernel
theorem q_191_231 : js_I 191 231 = some (.aload_n 0, 1) := by decide +kernel
theorem q_191_232 : js_I 191 232 = some (.iload_n 1, 1) := by decide +kernel
theorem q_191_233 : js_I 191 233 = some (.invokevirtual 31, 3) := by decide +kernel
theorem q_191_236 : js_I 191 236 = some (.invokestatic 42, 3) := by decide +kernel
theorem q_191_239 : js_I 191 239 = some (.ifCond .eq 39, 3) := by decide +kernel
theorem q_191_278 : js_I 191 278 = some (.aload_n 0, 1) := by decide +kernel
theorem q_191_279 : js_I 191 279 = some (.iload_n 1, 1) := by decide +kernel
theorem q_191_280 : js_I 191 280 = some (.putfield 28, 3) := by decide +kernel
theorem q_191_283 : js_I 191 283 = some (.aload_n 0, 1) := by decide +kernel
theorem q_191_284 : js_I 191 284 = some (.iconst 3, 1) := by decide +kernel
theorem q_191_285 : js_I 191 285 = some (.putfield 25, 3) := by decide +kernel
theorem q_191_288 : js_I 191 288 = some (.aload_n 0, 1) := by decide +kernel
theorem q_191_289 : js_I 191 289 = some (.lload 4, 2) := by decide +kernel
theorem q_191_291 : js_I 191 291 = some (.l2i, 1) := by decide +kernel
theorem q_191_292 : js_I 191 292 = some (.putfield 53, 3) := by decide +kernel
theorem q_191_295 : js_I 191 295 = some (.aload_n 0, 1) := by decide +kernel
theorem q_191_296 : js_I 191 296 = some (.getfield 28, 3) := by decide +kernel
theorem q_191_299 : js_I 191 299 = some (.aload_n 0, 1) := by decide +kernel
theorem q_191_300 : js_I 191 300 = some (.getfield 35, 3) := by decide +kernel
theorem q_191_303 : js_I 191 303 = some (.isub, 1) := by decide +kernel
theorem q_191_304 : js_I 191 304 = some (.bipush 10, 2) := by decide +kernel
theorem q_191_306 : js_I 191 306 = some (.if_icmp .gt 12, 3) := by decide +kernel
theorem q_191_309 : js_I 191 309 = some (.lload 4, 2) := by decide +kernel
theorem q_191_311 : js_I 191 311 = some (.ldc2_w 56, 3) := by decide +kernel
theorem q_191_314 : js_I 191 314 = some (.lcmp, 1) := by decide +kernel
theorem q_191_315 : js_I 191 315 = some (.ifCond .le 10, 3) := by decide +kernel
theorem q_191_325 : js_I 191 325 = some (.goto 15, 3) := by decide +kernel
theorem q_191_242 : js_I 191 242 = some (.iload_n 1, 1) := by decide +kernel
theorem q_191_243 : js_I 191 243 = some (.aload_n 0, 1) := by decide +kernel
theorem q_191_244 : js_I 191 244 = some (.getfield 35, 3) := by decide +kernel
theorem q_191_247 : js_I 191 247 = some (.isub, 1) := by decide +kernel
theorem q_191_248 : js_I 191 248 = some (.bipush 11, 2) := by decide +kernel
theorem q_191_250 : js_I 191 250 = some (.if_icmp .ge 22, 3) := by decide +kernel
theorem q_191_253 : js_I 191 253 = some (.ldc2_w 49, 3) := by decide +kernel
theorem q_191_256 : js_I 191 256 = some (.lload 4, 2) := by decide +kernel
theorem q_191_258 : js_I 191 258 = some (.lmul, 1) := by decide +kernel
theorem q_191_259 : js_I 191 259 = some (.aload_n 0, 1) := by decide +kernel
theorem q_191_260 : js_I 191 260 = some (.iload_n 1, 1) := by decide +kernel
theorem q_191_261 : js_I 191 261 = some (.invokevirtual 31, 3) := by decide +kernel
theorem q_191_264 : js_I 191 264 = some (.i2l, 1) := by decide +kernel
theorem q_191_265 : js_I 191 265 = some (.ladd, 1) := by decide +kernel
theorem q_191_266 : js_I 191 266 = some (.ldc2_w 51, 3) := by decide +kernel
theorem q_191_269 : js_I 191 269 = some (.lsub, 1) := by decide +kernel
theorem q_191_270 : js_I 191 270 = some (.lstore 4, 2) := by decide +kernel
theorem q_191_272 : js_I 191 272 = some (.iinc 1 1, 3) := by decide +kernel
theorem q_191_275 : js_I 191 275 = some (.goto (-44), 3) := by decide +kernel
theorem q_191_318 : js_I 191 318 = some (.aload_n 0, 1) := by decide +kernel
theorem q_191_319 : js_I 191 319 = some (.sipush 2000, 3) := by decide +kernel
theorem q_191_322 : js_I 191 322 = some (.putfield 25, 3) := by decide +kernel
theorem q_191_337 : js_I 191 337 = some (.invokevirtual 58, 3) := by decide +kernel
theorem q_191_340 : js_I 191 340 = some (.return_, 1) := by decide +kernel
theorem q_192_0 : js_I 192 0 = some (.iload_n 1, 1) := by decide +kernel
theorem q_192_1 : js_I 192 1 = some (.aload_n 0, 1) := by decide +kernel
theorem q_192_2 : js_I 192 2 = some (.getfield 19, 3) := by decide +kernel
theorem q_192_5 : js_I 192 5 = some (.if_icmp .ge 12, 3) := by decide +kernel
theorem q_192_8 : js_I 192 8 = some (.aload_n 0, 1) := by decide +kernel
theorem q_192_9 : js_I 192 9 = some (.getfield 15, 3) := by decide +kernel
theorem q_192_12 : js_I 192 12 = some (.iload_n 1, 1) := by decide +kernel
theorem q_192_13 : js_I 192 13 = some (.baload, 1) := by decide +kernel
theorem q_192_14 : js_I 192 14 = some (.goto 4, 3) := by decide +kernel
theorem q_192_18 : js_I 192 18 = some (.ireturn, 1) := by decide +kernel
theorem q_192_17 : js_I 192 17 = some (.iconst 0, 1) := by decide +kernel
theorem q_193_0 : js_I 193 0 = some (.iload_n 0, 1) := by decide +kernel
theorem q_193_1 : js_I 193 1 = some (.bipush 97, 2) := by decide +kernel
theorem q_193_3 : js_I 193 3 = some (.if_icmp .lt 9, 3) := by decide +kernel
theorem q_193_6 : js_I 193 6 = some (.iload_n 0, 1) := by decide +kernel
theorem q_193_7 : js_I 193 7 = some (.bipush 122, 2) := by decide +kernel
theorem q_193_9 : js_I 193 9 = some (.if_icmp .le 21, 3) := by decide +kernel
theorem q_193_30 : js_I 193 30 = some (.iconst 1, 1) := by decide +kernel
theorem q_193_31 : js_I 193 31 = some (.goto 4, 3) := by decide +kernel
theorem q_193_35 : js_I 193 35 = some (.ireturn, 1) := by decide +kernel
theorem q_193_12 : js_I 193 12 = some (.iload_n 0, 1) := by decide +kernel
theorem q_193_13 : js_I 193 13 = some (.bipush 65, 2) := by decide +kernel
theorem q_193_15 : js_I 193 15 = some (.if_icmp .lt 9, 3) := by decide +kernel
theorem q_193_18 : js_I 193 18 = some (.iload_n 0, 1) := by decide +kernel
theorem q_193_19 : js_I 193 19 = some (.bipush 90, 2) := by decide +kernel
theorem q_193_21 : js_I 193 21 = some (.if_icmp .le 9, 3) := by decide +kernel
theorem q_193_24 : js_I 193 24 = some (.iload_n 0, 1) := by decide +kernel
theorem q_193_25 : js_I 193 25 = some (.bipush 95, 2) := by decide +kernel
theorem q_193_27 : js_I 193 27 = some (.if_icmp .ne 7, 3) := by decide +kernel
theorem q_193_34 : js_I 193 34 = some (.iconst 0, 1) := by decide +kernel
theorem q_194_0 : js_I 194 0 = some (.iload_n 0, 1) := by decide +kernel
theorem q_194_1 : js_I 194 1 = some (.bipush 48, 2) := by decide +kernel
theorem q_194_3 : js_I 194 3 = some (.if_icmp .lt 13, 3) := by decide +kernel
theorem q_194_16 : js_I 194 16 = some (.iconst 0, 1) := by decide +kernel
theorem q_194_17 : js_I 194 17 = some (.ireturn, 1) := by decide +kernel
theorem q_194_6 : js_I 194 6 = some (.iload_n 0, 1) := by decide +kernel
theorem q_194_7 : js_I 194 7 = some (.bipush 57, 2) := by decide +kernel
theorem q_194_9 : js_I 194 9 = some (.if_icmp .gt 7, 3) := by decide +kernel
theorem q_194_12 : js_I 194 12 = some (.iconst 1, 1) := by decide +kernel
theorem q_194_13 : js_I 194 13 = some (.goto 4, 3) := by decide +kernel
theorem qf_12_3 : ip_lk (vt_FL.getD 12 []) 3 = some (12, 0) := by decide +kernel
theorem qf_12_11 : ip_lk (vt_FL.getD 12 []) 11 = some (12, 2) := by decide +kernel
theorem qf_12_15 : ip_lk (vt_FL.getD 12 []) 15 = some (12, 1) := by decide +kernel
theorem qf_12_437 : ip_lk (vt_FL.getD 12 []) 437 = some (12, 48) := by decide +kernel
theorem qf_12_440 : ip_lk (vt_FL.getD 12 []) 440 = some (12, 46) := by decide +kernel
theorem qf_12_443 : ip_lk (vt_FL.getD 12 []) 443 = some (12, 47) := by decide +kernel
theorem qf_12_446 : ip_lk (vt_FL.getD 12 []) 446 = some (12, 50) := by decide +kernel
theorem qf_12_449 : ip_lk (vt_FL.getD 12 []) 449 = some (12, 51) := by decide +kernel
theorem qf_12_19 : ip_lk (vt_FL.getD 12 []) 19 = some (12, 4) := by decide +kernel
theorem qf_12_86 : ip_lk (vt_FL.getD 12 []) 86 = some (12, 11) := by decide +kernel
theorem qf_12_165 : ip_lk (vt_FL.getD 12 []) 165 = some (12, 33) := by decide +kernel
theorem qf_12_72 : ip_lk (vt_FL.getD 12 []) 72 = some (12, 10) := by decide +kernel
theorem qf_12_22 : ip_lk (vt_FL.getD 12 []) 22 = some (12, 9) := by decide +kernel
theorem qf_12_123 : ip_lk (vt_FL.getD 12 []) 123 = some (12, 26) := by decide +kernel
theorem qf_12_28 : ip_lk (vt_FL.getD 12 []) 28 = some (12, 7) := by decide +kernel
theorem qf_12_25 : ip_lk (vt_FL.getD 12 []) 25 = some (12, 5) := by decide +kernel
theorem qf_12_284 : ip_lk (vt_FL.getD 12 []) 284 = some (12, 44) := by decide +kernel
theorem qf_12_455 : ip_lk (vt_FL.getD 12 []) 455 = some (12, 45) := by decide +kernel
theorem qf_12_35 : ip_lk (vt_FL.getD 12 []) 35 = some (12, 6) := by decide +kernel
theorem qf_12_464 : ip_lk (vt_FL.getD 12 []) 464 = some (12, 64) := by decide +kernel
theorem qf_12_425 : ip_lk (vt_FL.getD 12 []) 425 = some (12, 65) := by decide +kernel
theorem qf_12_428 : ip_lk (vt_FL.getD 12 []) 428 = some (12, 49) := by decide +kernel
theorem qf_12_431 : ip_lk (vt_FL.getD 12 []) 431 = some (12, 66) := by decide +kernel
theorem qf_12_362 : ip_lk (vt_FL.getD 12 []) 362 = some (12, 67) := by decide +kernel
theorem qf_12_99 : ip_lk (vt_FL.getD 12 []) 99 = some (12, 12) := by decide +kernel
theorem qf_12_102 : ip_lk (vt_FL.getD 12 []) 102 = some (12, 13) := by decide +kernel
theorem qf_12_105 : ip_lk (vt_FL.getD 12 []) 105 = some (12, 14) := by decide +kernel
theorem qf_12_108 : ip_lk (vt_FL.getD 12 []) 108 = some (12, 15) := by decide +kernel
theorem qf_12_111 : ip_lk (vt_FL.getD 12 []) 111 = some (12, 16) := by decide +kernel
theorem qf_12_114 : ip_lk (vt_FL.getD 12 []) 114 = some (12, 17) := by decide +kernel
theorem qf_12_117 : ip_lk (vt_FL.getD 12 []) 117 = some (12, 18) := by decide +kernel
theorem qf_12_120 : ip_lk (vt_FL.getD 12 []) 120 = some (12, 19) := by decide +kernel
theorem qf_12_126 : ip_lk (vt_FL.getD 12 []) 126 = some (12, 20) := by decide +kernel
theorem qf_12_129 : ip_lk (vt_FL.getD 12 []) 129 = some (12, 21) := by decide +kernel
theorem qf_12_79 : ip_lk (vt_FL.getD 12 []) 79 = some (12, 23) := by decide +kernel
theorem qf_12_365 : ip_lk (vt_FL.getD 12 []) 365 = some (12, 68) := by decide +kernel
theorem qf_12_83 : ip_lk (vt_FL.getD 12 []) 83 = some (12, 24) := by decide +kernel
theorem qf_12_368 : ip_lk (vt_FL.getD 12 []) 368 = some (12, 69) := by decide +kernel
theorem qf_12_346 : ip_lk (vt_FL.getD 12 []) 346 = some (12, 59) := by decide +kernel
theorem qf_12_349 : ip_lk (vt_FL.getD 12 []) 349 = some (12, 60) := by decide +kernel
theorem qf_12_352 : ip_lk (vt_FL.getD 12 []) 352 = some (12, 61) := by decide +kernel
theorem qf_12_371 : ip_lk (vt_FL.getD 12 []) 371 = some (12, 70) := by decide +kernel
theorem qf_12_355 : ip_lk (vt_FL.getD 12 []) 355 = some (12, 62) := by decide +kernel
theorem qf_12_359 : ip_lk (vt_FL.getD 12 []) 359 = some (12, 63) := by decide +kernel
theorem qf_12_53 : ip_lk (vt_FL.getD 12 []) 53 = some (12, 8) := by decide +kernel
theorem qm_12_7 : ip_lk (vt_ML.getD 12 []) 7 = some (187, 3, 0, 0) := by decide +kernel
theorem qm_12_434 : ip_lk (vt_ML.getD 12 []) 434 = some (190, 0, 1, 12) := by decide +kernel
theorem qm_12_68 : ip_lk (vt_ML.getD 12 []) 68 = some (191, 0, 1, 12) := by decide +kernel
theorem qm_12_452 : ip_lk (vt_ML.getD 12 []) 452 = some (197, 0, 1, 12) := by decide +kernel
theorem qm_12_75 : ip_lk (vt_ML.getD 12 []) 75 = some (202, 1, 1, 12) := by decide +kernel
theorem qm_12_329 : ip_lk (vt_ML.getD 12 []) 329 = some (239, 0, 1, 12) := by decide +kernel
theorem qm_12_65 : ip_lk (vt_ML.getD 12 []) 65 = some (199, 2, 1, 12) := by decide +kernel
theorem qm_12_458 : ip_lk (vt_ML.getD 12 []) 458 = some (244, 0, 1, 12) := by decide +kernel
theorem qm_12_461 : ip_lk (vt_ML.getD 12 []) 461 = some (262, 0, 1, 12) := by decide +kernel
theorem qm_12_468 : ip_lk (vt_ML.getD 12 []) 468 = some (263, 0, 1, 12) := by decide +kernel
theorem qm_12_471 : ip_lk (vt_ML.getD 12 []) 471 = some (264, 0, 1, 12) := by decide +kernel
theorem qm_12_31 : ip_lk (vt_ML.getD 12 []) 31 = some (192, 1, 1, 12) := by decide +kernel
theorem qm_12_38 : ip_lk (vt_ML.getD 12 []) 38 = some (193, 1, 0, 0) := by decide +kernel
theorem qm_12_42 : ip_lk (vt_ML.getD 12 []) 42 = some (194, 1, 0, 0) := by decide +kernel
theorem qm_12_45 : ip_lk (vt_ML.getD 12 []) 45 = some (195, 0, 1, 12) := by decide +kernel
theorem qm_12_58 : ip_lk (vt_ML.getD 12 []) 58 = some (196, 2, 1, 12) := by decide +kernel
theorem qc_12_14 : ip_lk (vt_CL.getD 12 []) 14 = some (js_V (0, 65536)) := by decide +kernel
theorem qc_12_56 : ip_lk (vt_CL.getD 12 []) 56 = some (js_V (1, 2000000000)) := by decide +kernel
theorem qc_12_49 : ip_lk (vt_CL.getD 12 []) 49 = some (js_V (1, 10)) := by decide +kernel
theorem qc_12_51 : ip_lk (vt_CL.getD 12 []) 51 = some (js_V (1, 48)) := by decide +kernel
theorem ww_16 : js_w 16 = 16 := by decide +kernel
theorem ww_65536 : js_w 65536 = 65536 := by decide +kernel
theorem ww_10 : js_w 10 = 10 := by decide +kernel
theorem ww_32 : js_w 32 = 32 := by decide +kernel
theorem ww_126 : js_w 126 = 126 := by decide +kernel
theorem ww_8 : js_w 8 = 8 := by decide +kernel
theorem ww_300 : js_w 300 = 300 := by decide +kernel
theorem ww_301 : js_w 301 = 301 := by decide +kernel
theorem ww_302 : js_w 302 = 302 := by decide +kernel
theorem ww_303 : js_w 303 = 303 := by decide +kernel
theorem ww_304 : js_w 304 = 304 := by decide +kernel
theorem ww_306 : js_w 306 = 306 := by decide +kernel
theorem ww_1 : js_w 1 = 1 := by decide +kernel
theorem ww_47 : js_w 47 = 47 := by decide +kernel
theorem ww_2 : js_w 2 = 2 := by decide +kernel
theorem ww_20 : js_w 20 = 20 := by decide +kernel
theorem wl_2000000000 : js_l 2000000000 = 2000000000 := by decide +kernel
theorem ww_11 : js_w 11 = 11 := by decide +kernel
theorem ww_97 : js_w 97 = 97 := by decide +kernel
theorem ww_122 : js_w 122 = 122 := by decide +kernel
theorem ww_65 : js_w 65 = 65 := by decide +kernel
theorem ww_90 : js_w 90 = 90 := by decide +kernel
theorem ww_95 : js_w 95 = 95 := by decide +kernel
theorem ww_48 : js_w 48 = 48 := by decide +kernel
theorem ww_57 : js_w 57 = 57 := by decide +kernel
-- 185: VitalTwinModel.thrown ()I
theorem b_185_0 {E : js_E} {d : Nat} {σ : js_S} : js_J E d 185 0 [(2, 83)] [] σ = js_r E (0, σ 83 0) σ :=
  (j_aload_n q_185_0 rfl).trans <| (j_get (ji := 0) (v := (0, σ 83 0)) q_185_1 (js_Fo qy_185 qf_12_3) js_o83 rfl rfl rfl rfl).trans <| j_ireturn q_185_4 qr_185
-- 186: VitalTwinModel.feed (JJ)I
theorem b_186_0 {E : js_E} {d : Nat} {σ : js_S} {x1 x3 : Int} : js_J E d 186 0 [(2, 83), (1, x1), (9, 0), (1, x3), (9, 0), (9, 0), (9, 0), (9, 0)] [] σ = js_J E d 186 11 [(2, 83), (1, x1), (9, 0), (1, x3), (9, 0), (0, 0), (0, 0), (9, 0)] [] (js_up σ 83 0 0) :=
  (j_aload_n q_186_0 rfl).trans <| (j_iconst q_186_1).trans <| (j_putI (ji := 0) q_186_2 (js_Fo qy_186 qf_12_3) rfl js_o83 rfl rfl rfl).trans <| (j_iconst q_186_5).trans <| (j_istore (l2 := [(2, 83), (1, x1), (9, 0), (1, x3), (9, 0), (0, 0), (9, 0), (9, 0)]) q_186_6 rfl (Nat.le_of_ble_eq_true rfl)).trans <| (j_iconst q_186_8).trans <| (j_istore (l2 := [(2, 83), (1, x1), (9, 0), (1, x3), (9, 0), (0, 0), (0, 0), (9, 0)]) q_186_9 rfl (Nat.le_of_ble_eq_true rfl)).trans <| rfl
theorem b_186_11 {E : js_E} {d : Nat} {σ : js_S} {x1 x3 x5 x6 : Int} {ux7 : js_v} : js_J E d 186 11 [(2, 83), (1, x1), (9, 0), (1, x3), (9, 0), (0, x5), (0, x6), ux7] [] σ = (if js_w x6 < 16 then js_J E d 186 22 [(2, 83), (1, x1), (9, 0), (1, x3), (9, 0), (0, x5), (0, x6), ux7] [(0, x6), (1, x3), (1, x1)] σ else (if 65536 < js_w ((σ 83 2) + x5) then js_r E (0, (-1)) σ else js_J E d 186 93 [(2, 83), (1, x1), (9, 0), (1, x3), (9, 0), (0, x5), (0, 0), ux7] [] σ)) :=
  (j_iload q_186_11 rfl).trans <| (j_bi q_186_13 rfl).trans <| (j_cmpgeB (t := 76) q_186_15 rfl ww_16).trans (js_ite ((j_lload_n q_186_18 rfl).trans <| (j_lload_n q_186_19 rfl).trans <| (j_iload q_186_20 rfl).trans <| rfl) ((j_aload_n q_186_76 rfl).trans <| (j_get (ji := 2) (v := (0, σ 83 2)) q_186_77 (js_Fo qy_186 qf_12_11) js_o83 rfl rfl rfl rfl).trans <| (j_iload q_186_80 rfl).trans <| (j_iadd q_186_82).trans <| (j_ldc (v := (0, 65536)) q_186_83 (js_Co qy_186 qc_12_14)).trans <| (j_cmpleB (t := 90) q_186_85 rfl ww_65536).trans (js_ite ((j_iconst q_186_88).trans <| j_ireturn q_186_89 qr_186) ((j_iconst q_186_90).trans <| (j_istore (l2 := [(2, 83), (1, x1), (9, 0), (1, x3), (9, 0), (0, x5), (0, 0), ux7]) q_186_91 rfl (Nat.le_of_ble_eq_true rfl)).trans <| rfl))))
theorem k_186_22 {E : js_E} {d : Nat} {σ σ2 : js_S} {x1 x3 x5 x6 z0 z1 z2 : Int} {ux7 : js_v} {v : Int} (hd : 1 ≤ d) (hz : js_J E (d - 1) 187 0 [(1, z0), (9, 0), (1, z1), (9, 0), (0, z2)] [] σ = js_r E (0, v) σ2) : js_J E d 186 22 [(2, 83), (1, x1), (9, 0), (1, x3), (9, 0), (0, x5), (0, x6), ux7] [(0, z2), (1, z1), (1, z0)] σ = js_J E d 186 25 [(2, 83), (1, x1), (9, 0), (1, x3), (9, 0), (0, x5), (0, x6), ux7] [(0, v)] σ2 :=
  j_call (m := 0) (js_caS q_186_22 (js_Mo qy_186 qm_12_7)) (js_agS (av := [(1, z0), (1, z1), (0, z2)]) (st := []) rfl rfl) rfl rfl (by rw [ql_187]; exact Nat.le_of_ble_eq_true rfl) (Nat.le_of_ble_eq_true rfl) hd hz
theorem b_186_25 {E : js_E} {d : Nat} {σ : js_S} {x1 x3 x5 x6 z0 : Int} {ux7 : js_v} : js_J E d 186 25 [(2, 83), (1, x1), (9, 0), (1, x3), (9, 0), (0, x5), (0, x6), ux7] [(0, z0)] σ = (if js_w z0 = 0 then js_J E d 186 55 [(2, 83), (1, x1), (9, 0), (1, x3), (9, 0), (0, x5), (0, x6), (0, z0)] [] σ else (if js_w z0 = 10 then js_J E d 186 55 [(2, 83), (1, x1), (9, 0), (1, x3), (9, 0), (0, x5), (0, x6), (0, z0)] [] σ else (if js_w z0 < 32 then js_r E (0, (-1)) σ else (if 126 < js_w z0 then js_r E (0, (-1)) σ else js_J E d 186 55 [(2, 83), (1, x1), (9, 0), (1, x3), (9, 0), (0, x5), (0, x6), (0, z0)] [] σ)))) :=
  (j_istore (l2 := [(2, 83), (1, x1), (9, 0), (1, x3), (9, 0), (0, x5), (0, x6), (0, z0)]) q_186_25 rfl (Nat.le_of_ble_eq_true rfl)).trans <| (j_iload q_186_27 rfl).trans <| (j_ifeq (t := 55) q_186_29 rfl).trans (js_ite (rfl) ((j_iload q_186_32 rfl).trans <| (j_bi q_186_34 rfl).trans <| (j_cmpeqB (t := 55) q_186_36 rfl ww_10).trans (js_ite (rfl) ((j_iload q_186_39 rfl).trans <| (j_bi q_186_41 rfl).trans <| (j_cmpltB (t := 53) q_186_43 rfl ww_32).trans (js_ite ((j_iconst q_186_53).trans <| j_ireturn q_186_54 qr_186) ((j_iload q_186_46 rfl).trans <| (j_bi q_186_48 rfl).trans <| (j_cmpleB (t := 55) q_186_50 rfl ww_126).trans (js_ite ((j_iconst q_186_53).trans <| j_ireturn q_186_54 qr_186) (rfl))))))))
theorem b_186_55 {E : js_E} {d : Nat} {σ : js_S} {x1 x3 x5 x6 x7 : Int} : js_J E d 186 55 [(2, 83), (1, x1), (9, 0), (1, x3), (9, 0), (0, x5), (0, x6), (0, x7)] [] σ = (if js_w x7 = 0 then js_J E d 186 67 [(2, 83), (1, x1), (9, 0), (1, x3), (9, 0), (0, x5), (0, x6), (0, x7)] [(0, 0), (0, x5)] σ else js_J E d 186 67 [(2, 83), (1, x1), (9, 0), (1, x3), (9, 0), (0, x5), (0, x6), (0, x7)] [(0, 1), (0, x5)] σ) :=
  (j_iload q_186_55 rfl).trans <| (j_iload q_186_57 rfl).trans <| (j_ifne (t := 66) q_186_59 rfl).trans (js_ite ((j_iconst q_186_62).trans <| (j_goto (t := 67) q_186_63 rfl).trans <| rfl) ((j_iconst q_186_66).trans <| rfl))
theorem b_186_67 {E : js_E} {d : Nat} {σ : js_S} {x1 x3 x5 x6 x7 z0 z1 : Int} : js_J E d 186 67 [(2, 83), (1, x1), (9, 0), (1, x3), (9, 0), (0, x5), (0, x6), (0, x7)] [(0, z1), (0, z0)] σ = js_J E d 186 11 [(2, 83), (1, x1), (9, 0), (1, x3), (9, 0), (0, z0 + z1), (0, x6 + 1), (0, x7)] [] σ :=
  (j_iadd q_186_67).trans <| (j_istore (l2 := [(2, 83), (1, x1), (9, 0), (1, x3), (9, 0), (0, z0 + z1), (0, x6), (0, x7)]) q_186_68 rfl (Nat.le_of_ble_eq_true rfl)).trans <| (j_iinc (l2 := [(2, 83), (1, x1), (9, 0), (1, x3), (9, 0), (0, z0 + z1), (0, x6 + 1), (0, x7)]) q_186_70 rfl rfl).trans <| (j_goto (t := 11) q_186_73 rfl).trans <| rfl
theorem b_186_93 {E : js_E} {d : Nat} {σ : js_S} {x1 x3 x5 x6 : Int} {ux7 : js_v} : js_J E d 186 93 [(2, 83), (1, x1), (9, 0), (1, x3), (9, 0), (0, x5), (0, x6), ux7] [] σ = (if js_w x6 < 16 then js_J E d 186 104 [(2, 83), (1, x1), (9, 0), (1, x3), (9, 0), (0, x5), (0, x6), ux7] [(0, x6), (1, x3), (1, x1)] σ else js_r E (0, σ 83 2) σ) :=
  (j_iload q_186_93 rfl).trans <| (j_bi q_186_95 rfl).trans <| (j_cmpgeB (t := 145) q_186_97 rfl ww_16).trans (js_ite ((j_lload_n q_186_100 rfl).trans <| (j_lload_n q_186_101 rfl).trans <| (j_iload q_186_102 rfl).trans <| rfl) ((j_aload_n q_186_145 rfl).trans <| (j_get (ji := 2) (v := (0, σ 83 2)) q_186_146 (js_Fo qy_186 qf_12_11) js_o83 rfl rfl rfl rfl).trans <| j_ireturn q_186_149 qr_186))
theorem k_186_104 {E : js_E} {d : Nat} {σ σ2 : js_S} {x1 x3 x5 x6 z0 z1 z2 : Int} {ux7 : js_v} {v : Int} (hd : 1 ≤ d) (hz : js_J E (d - 1) 187 0 [(1, z0), (9, 0), (1, z1), (9, 0), (0, z2)] [] σ = js_r E (0, v) σ2) : js_J E d 186 104 [(2, 83), (1, x1), (9, 0), (1, x3), (9, 0), (0, x5), (0, x6), ux7] [(0, z2), (1, z1), (1, z0)] σ = js_J E d 186 107 [(2, 83), (1, x1), (9, 0), (1, x3), (9, 0), (0, x5), (0, x6), ux7] [(0, v)] σ2 :=
  j_call (m := 0) (js_caS q_186_104 (js_Mo qy_186 qm_12_7)) (js_agS (av := [(1, z0), (1, z1), (0, z2)]) (st := []) rfl rfl) rfl rfl (by rw [ql_187]; exact Nat.le_of_ble_eq_true rfl) (Nat.le_of_ble_eq_true rfl) hd hz
theorem b_186_107 {E : js_E} {d : Nat} {σ : js_S} {x1 x3 x5 x6 z0 : Int} {ux7 : js_v} : js_J E d 186 107 [(2, 83), (1, x1), (9, 0), (1, x3), (9, 0), (0, x5), (0, x6), ux7] [(0, z0)] σ = (if js_w z0 = 0 then js_J E d 186 139 [(2, 83), (1, x1), (9, 0), (1, x3), (9, 0), (0, x5), (0, x6), (0, z0)] [] σ else (if 0 ≤ js_w (σ 83 2) ∧ js_w (σ 83 2) < 65536 then js_J E d 186 139 [(2, 83), (1, x1), (9, 0), (1, x3), (9, 0), (0, x5), (0, x6), (0, z0)] [] (js_up (js_up σ 84 (js_w (σ 83 2)) (js_i2b (js_i2b z0))) 83 2 ((σ 83 2) + 1)) else none)) :=
  (j_istore (l2 := [(2, 83), (1, x1), (9, 0), (1, x3), (9, 0), (0, x5), (0, x6), (0, z0)]) q_186_107 rfl (Nat.le_of_ble_eq_true rfl)).trans <| (j_iload q_186_109 rfl).trans <| (j_ifne (t := 117) q_186_111 rfl).trans (js_ite ((j_goto (t := 139) q_186_114 rfl).trans <| rfl) ((j_aload_n q_186_117 rfl).trans <| (j_get (ji := 1) (v := (2, 84)) q_186_118 (js_Fo qy_186 qf_12_15) js_o83 rfl rfl rfl rfl).trans <| (j_aload_n q_186_121 rfl).trans <| (j_get (ji := 2) (v := (0, σ 83 2)) q_186_122 (js_Fo qy_186 qf_12_11) js_o83 rfl rfl rfl rfl).trans <| (j_iload q_186_125 rfl).trans <| (j_i2b q_186_127).trans <| (j_bastore q_186_128 js_o84).trans <| js_itp fun g0 => (j_aload_n q_186_129 rfl).trans <| (j_dupr q_186_130).trans <| (j_get (ji := 2) (v := (0, σ 83 2)) q_186_131 (js_Fo qy_186 qf_12_11) js_o83 rfl rfl rfl (congrArg (Prod.mk 0) ((js_up_na _ (by decide))))).trans <| (j_iconst q_186_134).trans <| (j_iadd q_186_135).trans <| (j_putI (ji := 2) q_186_136 (js_Fo qy_186 qf_12_11) rfl js_o83 rfl rfl rfl).trans <| rfl))
theorem b_186_139 {E : js_E} {d : Nat} {σ : js_S} {x1 x3 x5 x6 x7 : Int} : js_J E d 186 139 [(2, 83), (1, x1), (9, 0), (1, x3), (9, 0), (0, x5), (0, x6), (0, x7)] [] σ = js_J E d 186 93 [(2, 83), (1, x1), (9, 0), (1, x3), (9, 0), (0, x5), (0, x6 + 1), (0, x7)] [] σ :=
  (j_iinc (l2 := [(2, 83), (1, x1), (9, 0), (1, x3), (9, 0), (0, x5), (0, x6 + 1), (0, x7)]) q_186_139 rfl rfl).trans <| (j_goto (t := 93) q_186_142 rfl).trans <| rfl
-- 187: VitalTwinModel.signAt (JJI)I
theorem b_187_0 {E : js_E} {d : Nat} {σ : js_S} {x0 x2 x4 : Int} : js_J E d 187 0 [(1, x0), (9, 0), (1, x2), (9, 0), (0, x4)] [] σ = (if js_w x4 < 8 then js_J E d 187 12 [(1, x0), (9, 0), (1, x2), (9, 0), (0, x4)] [(1, x0)] σ else js_J E d 187 12 [(1, x0), (9, 0), (1, x2), (9, 0), (0, x4)] [(1, x2)] σ) :=
  (j_iload q_187_0 rfl).trans <| (j_bi q_187_2 rfl).trans <| (j_cmpgeB (t := 11) q_187_4 rfl ww_8).trans (js_ite ((j_lload_n q_187_7 rfl).trans <| (j_goto (t := 12) q_187_8 rfl).trans <| rfl) ((j_lload_n q_187_11 rfl).trans <| rfl))
theorem b_187_12 {E : js_E} {d : Nat} {σ : js_S} {x0 x2 x4 z0 : Int} : js_J E d 187 12 [(1, x0), (9, 0), (1, x2), (9, 0), (0, x4)] [(1, z0)] σ = js_r E (0, js_iand (js_lshr z0 (56 - (8 * (js_iand x4 7)))) 255) σ :=
  (j_bi q_187_12 rfl).trans <| (j_bi q_187_14 rfl).trans <| (j_iload q_187_16 rfl).trans <| (j_bi q_187_18 rfl).trans <| (j_iand q_187_20).trans <| (j_imul q_187_21).trans <| (j_isub q_187_22).trans <| (j_lshr q_187_23).trans <| (j_l2i q_187_24).trans <| (j_si q_187_25 rfl).trans <| (j_iand q_187_28).trans <| j_ireturn q_187_29 qr_187
-- 189: VitalTwinModel.compile ()I
theorem b_189_0 {E : js_E} {d : Nat} {σ : js_S} : js_J E d 189 0 [(2, 83), (9, 0), (9, 0), (9, 0), (9, 0), (9, 0), (9, 0)] [] σ = js_J E d 189 6 [(2, 83), (9, 0), (9, 0), (9, 0), (9, 0), (9, 0), (9, 0)] [(2, 83)] (js_up σ 83 0 0) :=
  (j_aload_n q_189_0 rfl).trans <| (j_iconst q_189_1).trans <| (j_putI (ji := 0) q_189_2 (js_Fo qy_189 qf_12_3) rfl js_o83 rfl rfl rfl).trans <| (j_aload_n q_189_5 rfl).trans <| rfl
theorem k_189_6 {E : js_E} {d : Nat} {σ σ2 : js_S} (hd : 1 ≤ d) (hz : js_J E (d - 1) 190 0 [(2, 83), (9, 0)] [] σ = js_r0 E σ2) : js_J E d 189 6 [(2, 83), (9, 0), (9, 0), (9, 0), (9, 0), (9, 0), (9, 0)] [(2, 83)] σ = js_J E d 189 9 [(2, 83), (9, 0), (9, 0), (9, 0), (9, 0), (9, 0), (9, 0)] [] σ2 :=
  j_call0 (m := 1) (js_caV q_189_6 (js_Mo qy_189 qm_12_434)) (js_agV (av := []) (st := []) rfl rfl js_o83 rfl) rfl rfl (by rw [ql_190]; exact Nat.le_of_ble_eq_true rfl) (Nat.le_of_ble_eq_true rfl) hd hz
theorem b_189_9 {E : js_E} {d : Nat} {σ : js_S} : js_J E d 189 9 [(2, 83), (9, 0), (9, 0), (9, 0), (9, 0), (9, 0), (9, 0)] [] σ = js_J E d 189 80 [(2, 83), (0, σ 83 48), (0, σ 83 46), (0, σ 83 47), (0, σ 83 50), (0, σ 83 51), (9, 0)] [(2, 83)] (js_up (js_up (js_up (js_up (js_up (js_up (js_up (js_up σ 83 4 (σ 83 2)) 83 2 0) 83 11 0) 83 33 0) 83 10 0) 83 9 0) 83 26 (-1)) 83 7 0) :=
  (j_aload_n q_189_9 rfl).trans <| (j_get (ji := 48) (v := (0, σ 83 48)) q_189_10 (js_Fo qy_189 qf_12_437) js_o83 rfl rfl rfl rfl).trans <| (j_istore_n (l2 := [(2, 83), (0, σ 83 48), (9, 0), (9, 0), (9, 0), (9, 0), (9, 0)]) q_189_13 rfl (Nat.le_of_ble_eq_true rfl)).trans <| (j_aload_n q_189_14 rfl).trans <| (j_get (ji := 46) (v := (0, σ 83 46)) q_189_15 (js_Fo qy_189 qf_12_440) js_o83 rfl rfl rfl rfl).trans <| (j_istore_n (l2 := [(2, 83), (0, σ 83 48), (0, σ 83 46), (9, 0), (9, 0), (9, 0), (9, 0)]) q_189_18 rfl (Nat.le_of_ble_eq_true rfl)).trans <| (j_aload_n q_189_19 rfl).trans <| (j_get (ji := 47) (v := (0, σ 83 47)) q_189_20 (js_Fo qy_189 qf_12_443) js_o83 rfl rfl rfl rfl).trans <| (j_istore_n (l2 := [(2, 83), (0, σ 83 48), (0, σ 83 46), (0, σ 83 47), (9, 0), (9, 0), (9, 0)]) q_189_23 rfl (Nat.le_of_ble_eq_true rfl)).trans <| (j_aload_n q_189_24 rfl).trans <| (j_get (ji := 50) (v := (0, σ 83 50)) q_189_25 (js_Fo qy_189 qf_12_446) js_o83 rfl rfl rfl rfl).trans <| (j_istore (l2 := [(2, 83), (0, σ 83 48), (0, σ 83 46), (0, σ 83 47), (0, σ 83 50), (9, 0), (9, 0)]) q_189_28 rfl (Nat.le_of_ble_eq_true rfl)).trans <| (j_aload_n q_189_30 rfl).trans <| (j_get (ji := 51) (v := (0, σ 83 51)) q_189_31 (js_Fo qy_189 qf_12_449) js_o83 rfl rfl rfl rfl).trans <| (j_istore (l2 := [(2, 83), (0, σ 83 48), (0, σ 83 46), (0, σ 83 47), (0, σ 83 50), (0, σ 83 51), (9, 0)]) q_189_34 rfl (Nat.le_of_ble_eq_true rfl)).trans <| (j_aload_n q_189_36 rfl).trans <| (j_aload_n q_189_37 rfl).trans <| (j_get (ji := 2) (v := (0, σ 83 2)) q_189_38 (js_Fo qy_189 qf_12_11) js_o83 rfl rfl rfl rfl).trans <| (j_putI (ji := 4) q_189_41 (js_Fo qy_189 qf_12_19) rfl js_o83 rfl rfl rfl).trans <| (j_aload_n q_189_44 rfl).trans <| (j_iconst q_189_45).trans <| (j_putI (ji := 2) q_189_46 (js_Fo qy_189 qf_12_11) rfl js_o83 rfl rfl rfl).trans <| (j_aload_n q_189_49 rfl).trans <| (j_iconst q_189_50).trans <| (j_putI (ji := 11) q_189_51 (js_Fo qy_189 qf_12_86) rfl js_o83 rfl rfl rfl).trans <| (j_aload_n q_189_54 rfl).trans <| (j_iconst q_189_55).trans <| (j_putI (ji := 33) q_189_56 (js_Fo qy_189 qf_12_165) rfl js_o83 rfl rfl rfl).trans <| (j_aload_n q_189_59 rfl).trans <| (j_iconst q_189_60).trans <| (j_putI (ji := 10) q_189_61 (js_Fo qy_189 qf_12_72) rfl js_o83 rfl rfl rfl).trans <| (j_aload_n q_189_64 rfl).trans <| (j_iconst q_189_65).trans <| (j_putI (ji := 9) q_189_66 (js_Fo qy_189 qf_12_22) rfl js_o83 rfl rfl rfl).trans <| (j_aload_n q_189_69 rfl).trans <| (j_iconst q_189_70).trans <| (j_putI (ji := 26) q_189_71 (js_Fo qy_189 qf_12_123) rfl js_o83 rfl rfl rfl).trans <| (j_aload_n q_189_74 rfl).trans <| (j_iconst q_189_75).trans <| (j_putI (ji := 7) q_189_76 (js_Fo qy_189 qf_12_28) rfl js_o83 rfl rfl rfl).trans <| (j_aload_n q_189_79 rfl).trans <| rfl
theorem k_189_80 {E : js_E} {d : Nat} {σ σ2 : js_S} {x1 x2 x3 x4 x5 : Int} (hd : 1 ≤ d) (hz : js_J E (d - 1) 191 0 [(2, 83), (9, 0), (9, 0), (9, 0), (9, 0), (9, 0)] [] σ = js_r0 E σ2) : js_J E d 189 80 [(2, 83), (0, x1), (0, x2), (0, x3), (0, x4), (0, x5), (9, 0)] [(2, 83)] σ = js_J E d 189 83 [(2, 83), (0, x1), (0, x2), (0, x3), (0, x4), (0, x5), (9, 0)] [] σ2 :=
  j_call0 (m := 5) (js_caV q_189_80 (js_Mo qy_189 qm_12_68)) (js_agV (av := []) (st := []) rfl rfl js_o83 rfl) rfl rfl (by rw [ql_191]; exact Nat.le_of_ble_eq_true rfl) (Nat.le_of_ble_eq_true rfl) hd hz
theorem b_189_83 {E : js_E} {d : Nat} {σ : js_S} {x1 x2 x3 x4 x5 : Int} : js_J E d 189 83 [(2, 83), (0, x1), (0, x2), (0, x3), (0, x4), (0, x5), (9, 0)] [] σ = (if js_w (σ 83 5) = 300 then js_J E d 189 143 [(2, 83), (0, x1), (0, x2), (0, x3), (0, x4), (0, x5), (9, 0)] [] σ else (if js_w (σ 83 5) = 301 then js_J E d 189 143 [(2, 83), (0, x1), (0, x2), (0, x3), (0, x4), (0, x5), (9, 0)] [] σ else (if js_w (σ 83 5) = 302 then js_J E d 189 143 [(2, 83), (0, x1), (0, x2), (0, x3), (0, x4), (0, x5), (9, 0)] [] σ else (if js_w (σ 83 5) = 303 then js_J E d 189 143 [(2, 83), (0, x1), (0, x2), (0, x3), (0, x4), (0, x5), (9, 0)] [] σ else (if js_w (σ 83 5) = 304 then js_J E d 189 143 [(2, 83), (0, x1), (0, x2), (0, x3), (0, x4), (0, x5), (9, 0)] [] σ else (if js_w (σ 83 5) = 306 then js_J E d 189 143 [(2, 83), (0, x1), (0, x2), (0, x3), (0, x4), (0, x5), (9, 0)] [] σ else js_J E d 189 154 [(2, 83), (0, x1), (0, x2), (0, x3), (0, x4), (0, x5), (9, 0)] [(0, 314), (2, 83)] σ)))))) :=
  (j_aload_n q_189_83 rfl).trans <| (j_get (ji := 5) (v := (0, σ 83 5)) q_189_84 (js_Fo qy_189 qf_12_25) js_o83 rfl rfl rfl rfl).trans <| (j_si q_189_87 rfl).trans <| (j_cmpeqB (t := 143) q_189_90 rfl ww_300).trans (js_ite (rfl) ((j_aload_n q_189_93 rfl).trans <| (j_get (ji := 5) (v := (0, σ 83 5)) q_189_94 (js_Fo qy_189 qf_12_25) js_o83 rfl rfl rfl rfl).trans <| (j_si q_189_97 rfl).trans <| (j_cmpeqB (t := 143) q_189_100 rfl ww_301).trans (js_ite (rfl) ((j_aload_n q_189_103 rfl).trans <| (j_get (ji := 5) (v := (0, σ 83 5)) q_189_104 (js_Fo qy_189 qf_12_25) js_o83 rfl rfl rfl rfl).trans <| (j_si q_189_107 rfl).trans <| (j_cmpeqB (t := 143) q_189_110 rfl ww_302).trans (js_ite (rfl) ((j_aload_n q_189_113 rfl).trans <| (j_get (ji := 5) (v := (0, σ 83 5)) q_189_114 (js_Fo qy_189 qf_12_25) js_o83 rfl rfl rfl rfl).trans <| (j_si q_189_117 rfl).trans <| (j_cmpeqB (t := 143) q_189_120 rfl ww_303).trans (js_ite (rfl) ((j_aload_n q_189_123 rfl).trans <| (j_get (ji := 5) (v := (0, σ 83 5)) q_189_124 (js_Fo qy_189 qf_12_25) js_o83 rfl rfl rfl rfl).trans <| (j_si q_189_127 rfl).trans <| (j_cmpeqB (t := 143) q_189_130 rfl ww_304).trans (js_ite (rfl) ((j_aload_n q_189_133 rfl).trans <| (j_get (ji := 5) (v := (0, σ 83 5)) q_189_134 (js_Fo qy_189 qf_12_25) js_o83 rfl rfl rfl rfl).trans <| (j_si q_189_137 rfl).trans <| (j_cmpneB (t := 150) q_189_140 rfl ww_306).trans (js_ite (rfl) ((j_aload_n q_189_150 rfl).trans <| (j_si q_189_151 rfl).trans <| rfl))))))))))))
theorem b_189_143 {E : js_E} {d : Nat} {σ : js_S} {x1 x2 x3 x4 x5 : Int} : js_J E d 189 143 [(2, 83), (0, x1), (0, x2), (0, x3), (0, x4), (0, x5), (9, 0)] [] σ = js_J E d 189 144 [(2, 83), (0, x1), (0, x2), (0, x3), (0, x4), (0, x5), (9, 0)] [(2, 83)] σ :=
  (j_aload_n q_189_143 rfl).trans <| rfl
theorem k_189_144 {E : js_E} {d : Nat} {σ σ2 : js_S} {x1 x2 x3 x4 x5 : Int} (hd : 1 ≤ d) (hz : js_J E (d - 1) 197 0 [(2, 83), (9, 0), (9, 0)] [] σ = js_r0 E σ2) : js_J E d 189 144 [(2, 83), (0, x1), (0, x2), (0, x3), (0, x4), (0, x5), (9, 0)] [(2, 83)] σ = js_J E d 189 147 [(2, 83), (0, x1), (0, x2), (0, x3), (0, x4), (0, x5), (9, 0)] [] σ2 :=
  j_call0 (m := 2) (js_caV q_189_144 (js_Mo qy_189 qm_12_452)) (js_agV (av := []) (st := []) rfl rfl js_o83 rfl) rfl rfl (by rw [ql_197]; exact Nat.le_of_ble_eq_true rfl) (Nat.le_of_ble_eq_true rfl) hd hz
theorem b_189_147 {E : js_E} {d : Nat} {σ : js_S} {x1 x2 x3 x4 x5 : Int} : js_J E d 189 147 [(2, 83), (0, x1), (0, x2), (0, x3), (0, x4), (0, x5), (9, 0)] [] σ = js_J E d 189 83 [(2, 83), (0, x1), (0, x2), (0, x3), (0, x4), (0, x5), (9, 0)] [] σ :=
  (j_goto (t := 83) q_189_147 rfl).trans <| rfl
theorem k_189_154 {E : js_E} {d : Nat} {σ σ2 : js_S} {x1 x2 x3 x4 x5 z1 : Int} (hd : 1 ≤ d) (hz : js_J E (d - 1) 202 0 [(2, 83), (0, z1)] [] σ = js_r0 E σ2) : js_J E d 189 154 [(2, 83), (0, x1), (0, x2), (0, x3), (0, x4), (0, x5), (9, 0)] [(0, z1), (2, 83)] σ = js_J E d 189 157 [(2, 83), (0, x1), (0, x2), (0, x3), (0, x4), (0, x5), (9, 0)] [] σ2 :=
  j_call0 (m := 0) (js_caV q_189_154 (js_Mo qy_189 qm_12_75)) (js_agV (av := [(0, z1)]) (st := []) rfl rfl js_o83 rfl) rfl rfl (by rw [ql_202]; exact Nat.le_of_ble_eq_true rfl) (Nat.le_of_ble_eq_true rfl) hd hz
theorem b_189_157 {E : js_E} {d : Nat} {σ : js_S} {x1 x2 x3 x4 x5 : Int} : js_J E d 189 157 [(2, 83), (0, x1), (0, x2), (0, x3), (0, x4), (0, x5), (9, 0)] [] σ = js_J E d 189 164 [(2, 83), (0, x1), (0, x2), (0, x3), (0, x4), (0, x5), (9, 0)] [(2, 83), (2, 83)] (js_up σ 83 44 0) :=
  (j_aload_n q_189_157 rfl).trans <| (j_iconst q_189_158).trans <| (j_putI (ji := 44) q_189_159 (js_Fo qy_189 qf_12_284) rfl js_o83 rfl rfl rfl).trans <| (j_aload_n q_189_162 rfl).trans <| (j_aload_n q_189_163 rfl).trans <| rfl
theorem k_189_164 {E : js_E} {d : Nat} {σ σ2 : js_S} {x1 x2 x3 x4 x5 : Int} {v : Int} (hd : 1 ≤ d) (hz : js_J E (d - 1) 239 0 [(2, 83), (9, 0), (9, 0)] [] σ = js_r E (0, v) σ2) : js_J E d 189 164 [(2, 83), (0, x1), (0, x2), (0, x3), (0, x4), (0, x5), (9, 0)] [(2, 83), (2, 83)] σ = js_J E d 189 167 [(2, 83), (0, x1), (0, x2), (0, x3), (0, x4), (0, x5), (9, 0)] [(0, v), (2, 83)] σ2 :=
  j_call (m := 2) (js_caV q_189_164 (js_Mo qy_189 qm_12_329)) (js_agV (av := []) (st := [(2, 83)]) rfl rfl js_o83 rfl) rfl rfl (by rw [ql_239]; exact Nat.le_of_ble_eq_true rfl) (Nat.le_of_ble_eq_true rfl) hd hz
theorem b_189_167 {E : js_E} {d : Nat} {σ : js_S} {x1 x2 x3 x4 x5 z1 : Int} : js_J E d 189 167 [(2, 83), (0, x1), (0, x2), (0, x3), (0, x4), (0, x5), (9, 0)] [(0, z1), (2, 83)] σ = (if js_w (σ 83 5) = 1 then js_J E d 189 187 [(2, 83), (0, x1), (0, x2), (0, x3), (0, x4), (0, x5), (9, 0)] [] (js_up σ 83 45 z1) else js_J E d 189 184 [(2, 83), (0, x1), (0, x2), (0, x3), (0, x4), (0, x5), (9, 0)] [(0, σ 83 6), (0, 1), (2, 83)] (js_up σ 83 45 z1)) :=
  (j_putI (ji := 45) q_189_167 (js_Fo qy_189 qf_12_455) rfl js_o83 rfl rfl rfl).trans <| (j_aload_n q_189_170 rfl).trans <| (j_get (ji := 5) (v := (0, σ 83 5)) q_189_171 (js_Fo qy_189 qf_12_25) js_o83 rfl rfl rfl (congrArg (Prod.mk 0) ((js_up_ni _ (by decide))))).trans <| (j_iconst q_189_174).trans <| (j_cmpeqB (t := 187) q_189_175 rfl ww_1).trans (js_ite (rfl) ((j_aload_n q_189_178 rfl).trans <| (j_iconst q_189_179).trans <| (j_aload_n q_189_180 rfl).trans <| (j_get (ji := 6) (v := (0, σ 83 6)) q_189_181 (js_Fo qy_189 qf_12_35) js_o83 rfl rfl rfl (congrArg (Prod.mk 0) ((js_up_ni _ (by decide))))).trans <| rfl))
theorem k_189_184 {E : js_E} {d : Nat} {σ σ2 : js_S} {x1 x2 x3 x4 x5 z1 z2 : Int} (hd : 1 ≤ d) (hz : js_J E (d - 1) 199 0 [(2, 83), (0, z1), (0, z2)] [] σ = js_r0 E σ2) : js_J E d 189 184 [(2, 83), (0, x1), (0, x2), (0, x3), (0, x4), (0, x5), (9, 0)] [(0, z2), (0, z1), (2, 83)] σ = js_J E d 189 187 [(2, 83), (0, x1), (0, x2), (0, x3), (0, x4), (0, x5), (9, 0)] [] σ2 :=
  j_call0 (m := 0) (js_caV q_189_184 (js_Mo qy_189 qm_12_65)) (js_agV (av := [(0, z1), (0, z2)]) (st := []) rfl rfl js_o83 rfl) rfl rfl (by rw [ql_199]; exact Nat.le_of_ble_eq_true rfl) (Nat.le_of_ble_eq_true rfl) hd hz
theorem b_189_187 {E : js_E} {d : Nat} {σ : js_S} {x1 x2 x3 x4 x5 : Int} : js_J E d 189 187 [(2, 83), (0, x1), (0, x2), (0, x3), (0, x4), (0, x5), (9, 0)] [] σ = (if js_w (σ 83 9) = 0 then js_J E d 189 195 [(2, 83), (0, x1), (0, x2), (0, x3), (0, x4), (0, x5), (9, 0)] [(2, 83)] σ else js_J E d 189 198 [(2, 83), (0, x1), (0, x2), (0, x3), (0, x4), (0, x5), (9, 0)] [] σ) :=
  (j_aload_n q_189_187 rfl).trans <| (j_get (ji := 9) (v := (0, σ 83 9)) q_189_188 (js_Fo qy_189 qf_12_22) js_o83 rfl rfl rfl rfl).trans <| (j_ifne (t := 198) q_189_191 rfl).trans (js_ite ((j_aload_n q_189_194 rfl).trans <| rfl) (rfl))
theorem k_189_195 {E : js_E} {d : Nat} {σ σ2 : js_S} {x1 x2 x3 x4 x5 : Int} (hd : 1 ≤ d) (hz : js_J E (d - 1) 244 0 [(2, 83), (9, 0), (9, 0), (9, 0), (9, 0)] [] σ = js_r0 E σ2) : js_J E d 189 195 [(2, 83), (0, x1), (0, x2), (0, x3), (0, x4), (0, x5), (9, 0)] [(2, 83)] σ = js_J E d 189 198 [(2, 83), (0, x1), (0, x2), (0, x3), (0, x4), (0, x5), (9, 0)] [] σ2 :=
  j_call0 (m := 4) (js_caV q_189_195 (js_Mo qy_189 qm_12_458)) (js_agV (av := []) (st := []) rfl rfl js_o83 rfl) rfl rfl (by rw [ql_244]; exact Nat.le_of_ble_eq_true rfl) (Nat.le_of_ble_eq_true rfl) hd hz
theorem b_189_198 {E : js_E} {d : Nat} {σ : js_S} {x1 x2 x3 x4 x5 : Int} : js_J E d 189 198 [(2, 83), (0, x1), (0, x2), (0, x3), (0, x4), (0, x5), (9, 0)] [] σ = (if 0 < js_w (σ 83 9) then js_J E d 189 217 [(2, 83), (0, x1), (0, x2), (0, x3), (0, x4), (0, x5), (0, σ 83 9)] [(2, 83)] (js_up σ 83 9 0) else js_J E d 189 256 [(2, 83), (0, x1), (0, x2), (0, x3), (0, x4), (0, x5), (9, 0)] [(2, 83)] (js_up σ 83 64 1)) :=
  (j_aload_n q_189_198 rfl).trans <| (j_get (ji := 9) (v := (0, σ 83 9)) q_189_199 (js_Fo qy_189 qf_12_22) js_o83 rfl rfl rfl rfl).trans <| (j_ifle (t := 250) q_189_202 rfl).trans (js_ite ((j_aload_n q_189_205 rfl).trans <| (j_get (ji := 9) (v := (0, σ 83 9)) q_189_206 (js_Fo qy_189 qf_12_22) js_o83 rfl rfl rfl rfl).trans <| (j_istore (l2 := [(2, 83), (0, x1), (0, x2), (0, x3), (0, x4), (0, x5), (0, σ 83 9)]) q_189_209 rfl (Nat.le_of_ble_eq_true rfl)).trans <| (j_aload_n q_189_211 rfl).trans <| (j_iconst q_189_212).trans <| (j_putI (ji := 9) q_189_213 (js_Fo qy_189 qf_12_22) rfl js_o83 rfl rfl rfl).trans <| (j_aload_n q_189_216 rfl).trans <| rfl) ((j_aload_n q_189_250 rfl).trans <| (j_iconst q_189_251).trans <| (j_putB1 (ji := 64) q_189_252 (js_Fo qy_189 qf_12_464) rfl js_o83 rfl rfl rfl).trans <| (j_aload_n q_189_255 rfl).trans <| rfl))
theorem k_189_217 {E : js_E} {d : Nat} {σ σ2 : js_S} {x1 x2 x3 x4 x5 x6 : Int} (hd : 1 ≤ d) (hz : js_J E (d - 1) 262 0 [(2, 83), (9, 0)] [] σ = js_r0 E σ2) : js_J E d 189 217 [(2, 83), (0, x1), (0, x2), (0, x3), (0, x4), (0, x5), (0, x6)] [(2, 83)] σ = js_J E d 189 220 [(2, 83), (0, x1), (0, x2), (0, x3), (0, x4), (0, x5), (0, x6)] [] σ2 :=
  j_call0 (m := 1) (js_caV q_189_217 (js_Mo qy_189 qm_12_461)) (js_agV (av := []) (st := []) rfl rfl js_o83 rfl) rfl rfl (by rw [ql_262]; exact Nat.le_of_ble_eq_true rfl) (Nat.le_of_ble_eq_true rfl) hd hz
theorem b_189_220 {E : js_E} {d : Nat} {σ : js_S} {x1 x2 x3 x4 x5 x6 : Int} : js_J E d 189 220 [(2, 83), (0, x1), (0, x2), (0, x3), (0, x4), (0, x5), (0, x6)] [] σ = js_r E (0, x6) (js_up (js_up (js_up (js_up (js_up σ 83 48 x1) 83 46 x2) 83 47 x3) 83 50 x4) 83 51 x5) :=
  (j_aload_n q_189_220 rfl).trans <| (j_iload_n q_189_221 rfl).trans <| (j_putI (ji := 48) q_189_222 (js_Fo qy_189 qf_12_437) rfl js_o83 rfl rfl rfl).trans <| (j_aload_n q_189_225 rfl).trans <| (j_iload_n q_189_226 rfl).trans <| (j_putI (ji := 46) q_189_227 (js_Fo qy_189 qf_12_440) rfl js_o83 rfl rfl rfl).trans <| (j_aload_n q_189_230 rfl).trans <| (j_iload_n q_189_231 rfl).trans <| (j_putI (ji := 47) q_189_232 (js_Fo qy_189 qf_12_443) rfl js_o83 rfl rfl rfl).trans <| (j_aload_n q_189_235 rfl).trans <| (j_iload q_189_236 rfl).trans <| (j_putI (ji := 50) q_189_238 (js_Fo qy_189 qf_12_446) rfl js_o83 rfl rfl rfl).trans <| (j_aload_n q_189_241 rfl).trans <| (j_iload q_189_242 rfl).trans <| (j_putI (ji := 51) q_189_244 (js_Fo qy_189 qf_12_449) rfl js_o83 rfl rfl rfl).trans <| (j_iload q_189_247 rfl).trans <| j_ireturn q_189_249 qr_189
theorem k_189_256 {E : js_E} {d : Nat} {σ σ2 : js_S} {x1 x2 x3 x4 x5 : Int} (hd : 1 ≤ d) (hz : js_J E (d - 1) 263 0 [(2, 83), (9, 0), (9, 0), (9, 0)] [] σ = js_r0 E σ2) : js_J E d 189 256 [(2, 83), (0, x1), (0, x2), (0, x3), (0, x4), (0, x5), (9, 0)] [(2, 83)] σ = js_J E d 189 259 [(2, 83), (0, x1), (0, x2), (0, x3), (0, x4), (0, x5), (9, 0)] [] σ2 :=
  j_call0 (m := 3) (js_caV q_189_256 (js_Mo qy_189 qm_12_468)) (js_agV (av := []) (st := []) rfl rfl js_o83 rfl) rfl rfl (by rw [ql_263]; exact Nat.le_of_ble_eq_true rfl) (Nat.le_of_ble_eq_true rfl) hd hz
theorem b_189_259 {E : js_E} {d : Nat} {σ : js_S} {x1 x2 x3 x4 x5 : Int} : js_J E d 189 259 [(2, 83), (0, x1), (0, x2), (0, x3), (0, x4), (0, x5), (9, 0)] [] σ = js_J E d 189 260 [(2, 83), (0, x1), (0, x2), (0, x3), (0, x4), (0, x5), (9, 0)] [(2, 83)] σ :=
  (j_aload_n q_189_259 rfl).trans <| rfl
theorem k_189_260 {E : js_E} {d : Nat} {σ σ2 : js_S} {x1 x2 x3 x4 x5 : Int} (hd : 1 ≤ d) (hz : js_J E (d - 1) 264 0 [(2, 83), (9, 0), (9, 0)] [] σ = js_r0 E σ2) : js_J E d 189 260 [(2, 83), (0, x1), (0, x2), (0, x3), (0, x4), (0, x5), (9, 0)] [(2, 83)] σ = js_J E d 189 263 [(2, 83), (0, x1), (0, x2), (0, x3), (0, x4), (0, x5), (9, 0)] [] σ2 :=
  j_call0 (m := 2) (js_caV q_189_260 (js_Mo qy_189 qm_12_471)) (js_agV (av := []) (st := []) rfl rfl js_o83 rfl) rfl rfl (by rw [ql_264]; exact Nat.le_of_ble_eq_true rfl) (Nat.le_of_ble_eq_true rfl) hd hz
theorem b_189_263 {E : js_E} {d : Nat} {σ : js_S} {x1 x2 x3 x4 x5 : Int} : js_J E d 189 263 [(2, 83), (0, x1), (0, x2), (0, x3), (0, x4), (0, x5), (9, 0)] [] σ = js_r E (0, 0) σ :=
  (j_iconst q_189_263).trans <| j_ireturn q_189_264 qr_189
-- 190: VitalTwinModel.keep ()V
theorem b_190_0 {E : js_E} {d : Nat} {σ : js_S} : js_J E d 190 0 [(2, 83), (9, 0)] [] σ = js_J E d 190 18 [(2, 83), (0, 0)] [] (js_up (js_up σ 83 65 (σ 83 11)) 83 66 (σ 83 49)) :=
  (j_aload_n q_190_0 rfl).trans <| (j_aload_n q_190_1 rfl).trans <| (j_get (ji := 11) (v := (0, σ 83 11)) q_190_2 (js_Fo qy_190 qf_12_86) js_o83 rfl rfl rfl rfl).trans <| (j_putI (ji := 65) q_190_5 (js_Fo qy_190 qf_12_425) rfl js_o83 rfl rfl rfl).trans <| (j_aload_n q_190_8 rfl).trans <| (j_aload_n q_190_9 rfl).trans <| (j_get (ji := 49) (v := (0, σ 83 49)) q_190_10 (js_Fo qy_190 qf_12_428) js_o83 rfl rfl rfl (congrArg (Prod.mk 0) ((js_up_ni _ (by decide))))).trans <| (j_putI (ji := 66) q_190_13 (js_Fo qy_190 qf_12_431) rfl js_o83 rfl rfl rfl).trans <| (j_iconst q_190_16).trans <| (j_istore_n (l2 := [(2, 83), (0, 0)]) q_190_17 rfl (Nat.le_of_ble_eq_true rfl)).trans <| rfl
theorem b_190_18 {E : js_E} {d : Nat} {σ : js_S} {x1 : Int} : js_J E d 190 18 [(2, 83), (0, x1)] [] σ = (if js_w x1 < js_w (σ 83 11) then (if 0 ≤ js_w x1 ∧ js_w x1 < 400 then (if 0 ≤ js_w x1 ∧ js_w x1 < 4800 then (if 0 ≤ js_w (400 + x1) ∧ js_w (400 + x1) < 4800 then (if 0 ≤ js_w (800 + x1) ∧ js_w (800 + x1) < 4800 then (if 0 ≤ js_w (1200 + x1) ∧ js_w (1200 + x1) < 4800 then (if 0 ≤ js_w (1600 + x1) ∧ js_w (1600 + x1) < 4800 then (if 0 ≤ js_w (2000 + x1) ∧ js_w (2000 + x1) < 4800 then (if js_w (σ 92 (js_w x1)) = 0 then js_J E d 190 141 [(2, 83), (0, x1)] [(0, 0), (0, 2400 + x1), (2, 116)] (js_up (js_up (js_up (js_up (js_up (js_up σ 116 (js_w x1) (σ 86 (js_w x1))) 116 (js_w (400 + x1)) (σ 87 (js_w x1))) 116 (js_w (800 + x1)) (σ 88 (js_w x1))) 116 (js_w (1200 + x1)) (σ 89 (js_w x1))) 116 (js_w (1600 + x1)) (σ 90 (js_w x1))) 116 (js_w (2000 + x1)) (σ 91 (js_w x1))) else js_J E d 190 141 [(2, 83), (0, x1)] [(0, 1), (0, 2400 + x1), (2, 116)] (js_up (js_up (js_up (js_up (js_up (js_up σ 116 (js_w x1) (σ 86 (js_w x1))) 116 (js_w (400 + x1)) (σ 87 (js_w x1))) 116 (js_w (800 + x1)) (σ 88 (js_w x1))) 116 (js_w (1200 + x1)) (σ 89 (js_w x1))) 116 (js_w (1600 + x1)) (σ 90 (js_w x1))) 116 (js_w (2000 + x1)) (σ 91 (js_w x1)))) else none) else none) else none) else none) else none) else none) else none) else js_J E d 190 214 [(2, 83), (0, 0)] [] σ) :=
  (j_iload_n q_190_18 rfl).trans <| (j_aload_n q_190_19 rfl).trans <| (j_get (ji := 11) (v := (0, σ 83 11)) q_190_20 (js_Fo qy_190 qf_12_86) js_o83 rfl rfl rfl rfl).trans <| (j_cmpge (t := 212) q_190_23 rfl).trans (js_ite ((j_aload_n q_190_26 rfl).trans <| (j_get (ji := 67) (v := (2, 116)) q_190_27 (js_Fo qy_190 qf_12_362) js_o83 rfl rfl rfl rfl).trans <| (j_iload_n q_190_30 rfl).trans <| (j_aload_n q_190_31 rfl).trans <| (j_get (ji := 12) (v := (2, 86)) q_190_32 (js_Fo qy_190 qf_12_99) js_o83 rfl rfl rfl rfl).trans <| (j_iload_n q_190_35 rfl).trans <| (j_iaload q_190_36 js_o86).trans <| js_itp fun g0 => (j_iastore q_190_37 js_o116).trans <| js_itp fun g1 => (j_aload_n q_190_38 rfl).trans <| (j_get (ji := 67) (v := (2, 116)) q_190_39 (js_Fo qy_190 qf_12_362) js_o83 rfl rfl rfl rfl).trans <| (j_si q_190_42 rfl).trans <| (j_iload_n q_190_45 rfl).trans <| (j_iadd q_190_46).trans <| (j_aload_n q_190_47 rfl).trans <| (j_get (ji := 13) (v := (2, 87)) q_190_48 (js_Fo qy_190 qf_12_102) js_o83 rfl rfl rfl rfl).trans <| (j_iload_n q_190_51 rfl).trans <| (j_ialoadv q_190_52 js_o87 ((js_up_na _ (by decide)))).trans <| (if_pos g0).trans <| (j_iastore q_190_53 js_o116).trans <| js_itp fun g2 => (j_aload_n q_190_54 rfl).trans <| (j_get (ji := 67) (v := (2, 116)) q_190_55 (js_Fo qy_190 qf_12_362) js_o83 rfl rfl rfl rfl).trans <| (j_si q_190_58 rfl).trans <| (j_iload_n q_190_61 rfl).trans <| (j_iadd q_190_62).trans <| (j_aload_n q_190_63 rfl).trans <| (j_get (ji := 14) (v := (2, 88)) q_190_64 (js_Fo qy_190 qf_12_105) js_o83 rfl rfl rfl rfl).trans <| (j_iload_n q_190_67 rfl).trans <| (j_ialoadv q_190_68 js_o88 ((js_up_na _ (by decide)).trans <| (js_up_na _ (by decide)))).trans <| (if_pos g0).trans <| (j_iastore q_190_69 js_o116).trans <| js_itp fun g3 => (j_aload_n q_190_70 rfl).trans <| (j_get (ji := 67) (v := (2, 116)) q_190_71 (js_Fo qy_190 qf_12_362) js_o83 rfl rfl rfl rfl).trans <| (j_si q_190_74 rfl).trans <| (j_iload_n q_190_77 rfl).trans <| (j_iadd q_190_78).trans <| (j_aload_n q_190_79 rfl).trans <| (j_get (ji := 15) (v := (2, 89)) q_190_80 (js_Fo qy_190 qf_12_108) js_o83 rfl rfl rfl rfl).trans <| (j_iload_n q_190_83 rfl).trans <| (j_ialoadv q_190_84 js_o89 ((js_up_na _ (by decide)).trans <| (js_up_na _ (by decide)).trans <| (js_up_na _ (by decide)))).trans <| (if_pos g0).trans <| (j_iastore q_190_85 js_o116).trans <| js_itp fun g4 => (j_aload_n q_190_86 rfl).trans <| (j_get (ji := 67) (v := (2, 116)) q_190_87 (js_Fo qy_190 qf_12_362) js_o83 rfl rfl rfl rfl).trans <| (j_si q_190_90 rfl).trans <| (j_iload_n q_190_93 rfl).trans <| (j_iadd q_190_94).trans <| (j_aload_n q_190_95 rfl).trans <| (j_get (ji := 16) (v := (2, 90)) q_190_96 (js_Fo qy_190 qf_12_111) js_o83 rfl rfl rfl rfl).trans <| (j_iload_n q_190_99 rfl).trans <| (j_ialoadv q_190_100 js_o90 ((js_up_na _ (by decide)).trans <| (js_up_na _ (by decide)).trans <| (js_up_na _ (by decide)).trans <| (js_up_na _ (by decide)))).trans <| (if_pos g0).trans <| (j_iastore q_190_101 js_o116).trans <| js_itp fun g5 => (j_aload_n q_190_102 rfl).trans <| (j_get (ji := 67) (v := (2, 116)) q_190_103 (js_Fo qy_190 qf_12_362) js_o83 rfl rfl rfl rfl).trans <| (j_si q_190_106 rfl).trans <| (j_iload_n q_190_109 rfl).trans <| (j_iadd q_190_110).trans <| (j_aload_n q_190_111 rfl).trans <| (j_get (ji := 17) (v := (2, 91)) q_190_112 (js_Fo qy_190 qf_12_114) js_o83 rfl rfl rfl rfl).trans <| (j_iload_n q_190_115 rfl).trans <| (j_ialoadv q_190_116 js_o91 ((js_up_na _ (by decide)).trans <| (js_up_na _ (by decide)).trans <| (js_up_na _ (by decide)).trans <| (js_up_na _ (by decide)).trans <| (js_up_na _ (by decide)))).trans <| (if_pos g0).trans <| (j_iastore q_190_117 js_o116).trans <| js_itp fun g6 => (j_aload_n q_190_118 rfl).trans <| (j_get (ji := 67) (v := (2, 116)) q_190_119 (js_Fo qy_190 qf_12_362) js_o83 rfl rfl rfl rfl).trans <| (j_si q_190_122 rfl).trans <| (j_iload_n q_190_125 rfl).trans <| (j_iadd q_190_126).trans <| (j_aload_n q_190_127 rfl).trans <| (j_get (ji := 18) (v := (2, 92)) q_190_128 (js_Fo qy_190 qf_12_117) js_o83 rfl rfl rfl rfl).trans <| (j_iload_n q_190_131 rfl).trans <| (j_zaloadv q_190_132 js_o92 ((js_up_na _ (by decide)).trans <| (js_up_na _ (by decide)).trans <| (js_up_na _ (by decide)).trans <| (js_up_na _ (by decide)).trans <| (js_up_na _ (by decide)).trans <| (js_up_na _ (by decide)))).trans <| (if_pos g0).trans <| (j_ifeq (t := 140) q_190_133 rfl).trans (js_ite ((j_iconst q_190_140).trans <| rfl) ((j_iconst q_190_136).trans <| (j_goto (t := 141) q_190_137 rfl).trans <| rfl))) ((j_iconst q_190_212).trans <| (j_istore_n (l2 := [(2, 83), (0, 0)]) q_190_213 rfl (Nat.le_of_ble_eq_true rfl)).trans <| rfl))
theorem b_190_141 {E : js_E} {d : Nat} {σ : js_S} {x1 z1 z2 : Int} : js_J E d 190 141 [(2, 83), (0, x1)] [(0, z2), (0, z1), (2, 116)] σ = (if 0 ≤ js_w z1 ∧ js_w z1 < 4800 then (if 0 ≤ js_w x1 ∧ js_w x1 < 400 then (if 0 ≤ js_w (2800 + x1) ∧ js_w (2800 + x1) < 4800 then (if 0 ≤ js_w (3200 + x1) ∧ js_w (3200 + x1) < 4800 then (if 0 ≤ js_w (3600 + x1) ∧ js_w (3600 + x1) < 4800 then (if 0 ≤ js_w (4000 + x1) ∧ js_w (4000 + x1) < 4800 then js_J E d 190 18 [(2, 83), (0, x1 + 1)] [] (js_up (js_up (js_up (js_up (js_up σ 116 (js_w z1) z2) 116 (js_w (2800 + x1)) (σ 93 (js_w x1))) 116 (js_w (3200 + x1)) (σ 94 (js_w x1))) 116 (js_w (3600 + x1)) (σ 95 (js_w x1))) 116 (js_w (4000 + x1)) (σ 97 (js_w x1))) else none) else none) else none) else none) else none) else none) :=
  (j_iastore q_190_141 js_o116).trans <| js_itp fun g0 => (j_aload_n q_190_142 rfl).trans <| (j_get (ji := 67) (v := (2, 116)) q_190_143 (js_Fo qy_190 qf_12_362) js_o83 rfl rfl rfl rfl).trans <| (j_si q_190_146 rfl).trans <| (j_iload_n q_190_149 rfl).trans <| (j_iadd q_190_150).trans <| (j_aload_n q_190_151 rfl).trans <| (j_get (ji := 19) (v := (2, 93)) q_190_152 (js_Fo qy_190 qf_12_120) js_o83 rfl rfl rfl rfl).trans <| (j_iload_n q_190_155 rfl).trans <| (j_ialoadv q_190_156 js_o93 ((js_up_na _ (by decide)))).trans <| js_itp fun g1 => (j_iastore q_190_157 js_o116).trans <| js_itp fun g2 => (j_aload_n q_190_158 rfl).trans <| (j_get (ji := 67) (v := (2, 116)) q_190_159 (js_Fo qy_190 qf_12_362) js_o83 rfl rfl rfl rfl).trans <| (j_si q_190_162 rfl).trans <| (j_iload_n q_190_165 rfl).trans <| (j_iadd q_190_166).trans <| (j_aload_n q_190_167 rfl).trans <| (j_get (ji := 20) (v := (2, 94)) q_190_168 (js_Fo qy_190 qf_12_126) js_o83 rfl rfl rfl rfl).trans <| (j_iload_n q_190_171 rfl).trans <| (j_ialoadv q_190_172 js_o94 ((js_up_na _ (by decide)).trans <| (js_up_na _ (by decide)))).trans <| (if_pos g1).trans <| (j_iastore q_190_173 js_o116).trans <| js_itp fun g3 => (j_aload_n q_190_174 rfl).trans <| (j_get (ji := 67) (v := (2, 116)) q_190_175 (js_Fo qy_190 qf_12_362) js_o83 rfl rfl rfl rfl).trans <| (j_si q_190_178 rfl).trans <| (j_iload_n q_190_181 rfl).trans <| (j_iadd q_190_182).trans <| (j_aload_n q_190_183 rfl).trans <| (j_get (ji := 21) (v := (2, 95)) q_190_184 (js_Fo qy_190 qf_12_129) js_o83 rfl rfl rfl rfl).trans <| (j_iload_n q_190_187 rfl).trans <| (j_ialoadv q_190_188 js_o95 ((js_up_na _ (by decide)).trans <| (js_up_na _ (by decide)).trans <| (js_up_na _ (by decide)))).trans <| (if_pos g1).trans <| (j_iastore q_190_189 js_o116).trans <| js_itp fun g4 => (j_aload_n q_190_190 rfl).trans <| (j_get (ji := 67) (v := (2, 116)) q_190_191 (js_Fo qy_190 qf_12_362) js_o83 rfl rfl rfl rfl).trans <| (j_si q_190_194 rfl).trans <| (j_iload_n q_190_197 rfl).trans <| (j_iadd q_190_198).trans <| (j_aload_n q_190_199 rfl).trans <| (j_get (ji := 23) (v := (2, 97)) q_190_200 (js_Fo qy_190 qf_12_79) js_o83 rfl rfl rfl rfl).trans <| (j_iload_n q_190_203 rfl).trans <| (j_ialoadv q_190_204 js_o97 ((js_up_na _ (by decide)).trans <| (js_up_na _ (by decide)).trans <| (js_up_na _ (by decide)).trans <| (js_up_na _ (by decide)))).trans <| (if_pos g1).trans <| (j_iastore q_190_205 js_o116).trans <| js_itp fun g5 => (j_iinc (l2 := [(2, 83), (0, x1 + 1)]) q_190_206 rfl rfl).trans <| (j_goto (t := 18) q_190_209 rfl).trans <| rfl
theorem b_190_214 {E : js_E} {d : Nat} {σ : js_S} {x1 : Int} : js_J E d 190 214 [(2, 83), (0, x1)] [] σ = (if js_w x1 < js_w (20 * (σ 83 11)) then (if 0 ≤ js_w x1 ∧ js_w x1 < 8000 then js_J E d 190 214 [(2, 83), (0, x1 + 1)] [] (js_up σ 117 (js_w x1) (js_i2b (σ 98 (js_w x1)))) else none) else js_J E d 190 245 [(2, 83), (0, 0)] [] σ) :=
  (j_iload_n q_190_214 rfl).trans <| (j_bi q_190_215 rfl).trans <| (j_aload_n q_190_217 rfl).trans <| (j_get (ji := 11) (v := (0, σ 83 11)) q_190_218 (js_Fo qy_190 qf_12_86) js_o83 rfl rfl rfl rfl).trans <| (j_imul q_190_221).trans <| (j_cmpge (t := 243) q_190_222 rfl).trans (js_ite ((j_aload_n q_190_225 rfl).trans <| (j_get (ji := 68) (v := (2, 117)) q_190_226 (js_Fo qy_190 qf_12_365) js_o83 rfl rfl rfl rfl).trans <| (j_iload_n q_190_229 rfl).trans <| (j_aload_n q_190_230 rfl).trans <| (j_get (ji := 24) (v := (2, 98)) q_190_231 (js_Fo qy_190 qf_12_83) js_o83 rfl rfl rfl rfl).trans <| (j_iload_n q_190_234 rfl).trans <| (j_baload q_190_235 js_o98).trans <| js_itp fun g0 => (j_bastore q_190_236 js_o117).trans <| (if_pos g0).trans <| (j_iinc (l2 := [(2, 83), (0, x1 + 1)]) q_190_237 rfl rfl).trans <| (j_goto (t := 214) q_190_240 rfl).trans <| rfl) ((j_iconst q_190_243).trans <| (j_istore_n (l2 := [(2, 83), (0, 0)]) q_190_244 rfl (Nat.le_of_ble_eq_true rfl)).trans <| rfl))
theorem b_190_245 {E : js_E} {d : Nat} {σ : js_S} {x1 : Int} : js_J E d 190 245 [(2, 83), (0, x1)] [] σ = (if js_w x1 < js_w (σ 83 49) then (if 0 ≤ js_w x1 ∧ js_w x1 < 8192 then (if 0 ≤ js_w x1 ∧ js_w x1 < 24576 then (if 0 ≤ js_w (8192 + x1) ∧ js_w (8192 + x1) < 24576 then (if 0 ≤ js_w (16384 + x1) ∧ js_w (16384 + x1) < 24576 then (if 0 ≤ js_w x1 ∧ js_w x1 < 16384 then (if 0 ≤ js_w (8192 + x1) ∧ js_w (8192 + x1) < 16384 then js_J E d 190 245 [(2, 83), (0, x1 + 1)] [] (js_up (js_up (js_up (js_up (js_up σ 118 (js_w x1) (σ 111 (js_w x1))) 118 (js_w (8192 + x1)) (σ 112 (js_w x1))) 118 (js_w (16384 + x1)) (σ 113 (js_w x1))) 119 (js_w x1) (σ 114 (js_w x1))) 119 (js_w (8192 + x1)) (σ 115 (js_w x1))) else none) else none) else none) else none) else none) else none) else js_r0 E σ) :=
  (j_iload_n q_190_245 rfl).trans <| (j_aload_n q_190_246 rfl).trans <| (j_get (ji := 49) (v := (0, σ 83 49)) q_190_247 (js_Fo qy_190 qf_12_428) js_o83 rfl rfl rfl rfl).trans <| (j_cmpge (t := 331) q_190_250 rfl).trans (js_ite ((j_aload_n q_190_253 rfl).trans <| (j_get (ji := 69) (v := (2, 118)) q_190_254 (js_Fo qy_190 qf_12_368) js_o83 rfl rfl rfl rfl).trans <| (j_iload_n q_190_257 rfl).trans <| (j_aload_n q_190_258 rfl).trans <| (j_get (ji := 59) (v := (2, 111)) q_190_259 (js_Fo qy_190 qf_12_346) js_o83 rfl rfl rfl rfl).trans <| (j_iload_n q_190_262 rfl).trans <| (j_iaload q_190_263 js_o111).trans <| js_itp fun g0 => (j_iastore q_190_264 js_o118).trans <| js_itp fun g1 => (j_aload_n q_190_265 rfl).trans <| (j_get (ji := 69) (v := (2, 118)) q_190_266 (js_Fo qy_190 qf_12_368) js_o83 rfl rfl rfl rfl).trans <| (j_si q_190_269 rfl).trans <| (j_iload_n q_190_272 rfl).trans <| (j_iadd q_190_273).trans <| (j_aload_n q_190_274 rfl).trans <| (j_get (ji := 60) (v := (2, 112)) q_190_275 (js_Fo qy_190 qf_12_349) js_o83 rfl rfl rfl rfl).trans <| (j_iload_n q_190_278 rfl).trans <| (j_ialoadv q_190_279 js_o112 ((js_up_na _ (by decide)))).trans <| (if_pos g0).trans <| (j_iastore q_190_280 js_o118).trans <| js_itp fun g2 => (j_aload_n q_190_281 rfl).trans <| (j_get (ji := 69) (v := (2, 118)) q_190_282 (js_Fo qy_190 qf_12_368) js_o83 rfl rfl rfl rfl).trans <| (j_si q_190_285 rfl).trans <| (j_iload_n q_190_288 rfl).trans <| (j_iadd q_190_289).trans <| (j_aload_n q_190_290 rfl).trans <| (j_get (ji := 61) (v := (2, 113)) q_190_291 (js_Fo qy_190 qf_12_352) js_o83 rfl rfl rfl rfl).trans <| (j_iload_n q_190_294 rfl).trans <| (j_ialoadv q_190_295 js_o113 ((js_up_na _ (by decide)).trans <| (js_up_na _ (by decide)))).trans <| (if_pos g0).trans <| (j_iastore q_190_296 js_o118).trans <| js_itp fun g3 => (j_aload_n q_190_297 rfl).trans <| (j_get (ji := 70) (v := (2, 119)) q_190_298 (js_Fo qy_190 qf_12_371) js_o83 rfl rfl rfl rfl).trans <| (j_iload_n q_190_301 rfl).trans <| (j_aload_n q_190_302 rfl).trans <| (j_get (ji := 62) (v := (2, 114)) q_190_303 (js_Fo qy_190 qf_12_355) js_o83 rfl rfl rfl rfl).trans <| (j_iload_n q_190_306 rfl).trans <| (j_laloadv q_190_307 js_o114 ((js_up_na _ (by decide)).trans <| (js_up_na _ (by decide)).trans <| (js_up_na _ (by decide)))).trans <| (if_pos g0).trans <| (j_lastore q_190_308 js_o119).trans <| js_itp fun g4 => (j_aload_n q_190_309 rfl).trans <| (j_get (ji := 70) (v := (2, 119)) q_190_310 (js_Fo qy_190 qf_12_371) js_o83 rfl rfl rfl rfl).trans <| (j_si q_190_313 rfl).trans <| (j_iload_n q_190_316 rfl).trans <| (j_iadd q_190_317).trans <| (j_aload_n q_190_318 rfl).trans <| (j_get (ji := 63) (v := (2, 115)) q_190_319 (js_Fo qy_190 qf_12_359) js_o83 rfl rfl rfl rfl).trans <| (j_iload_n q_190_322 rfl).trans <| (j_laloadv q_190_323 js_o115 ((js_up_na _ (by decide)).trans <| (js_up_na _ (by decide)).trans <| (js_up_na _ (by decide)).trans <| (js_up_na _ (by decide)))).trans <| (if_pos g0).trans <| (j_lastore q_190_324 js_o119).trans <| js_itp fun g5 => (j_iinc (l2 := [(2, 83), (0, x1 + 1)]) q_190_325 rfl rfl).trans <| (j_goto (t := 245) q_190_328 rfl).trans <| rfl) (j_return q_190_331 qr_190))
-- 191: VitalTwinModel.next ()V
theorem b_191_0 {E : js_E} {d : Nat} {σ : js_S} : js_J E d 191 0 [(2, 83), (9, 0), (9, 0), (9, 0), (9, 0), (9, 0)] [] σ = (if 0 < js_w (σ 83 9) then js_r0 E σ else js_J E d 191 15 [(2, 83), (0, σ 83 7), (0, 1), (9, 0), (9, 0), (9, 0)] [] σ) :=
  (j_aload_n q_191_0 rfl).trans <| (j_get (ji := 9) (v := (0, σ 83 9)) q_191_1 (js_Fo qy_191 qf_12_22) js_o83 rfl rfl rfl rfl).trans <| (j_ifle (t := 8) q_191_4 rfl).trans (js_ite (j_return q_191_7 qr_191) ((j_aload_n q_191_8 rfl).trans <| (j_get (ji := 7) (v := (0, σ 83 7)) q_191_9 (js_Fo qy_191 qf_12_28) js_o83 rfl rfl rfl rfl).trans <| (j_istore_n (l2 := [(2, 83), (0, σ 83 7), (9, 0), (9, 0), (9, 0), (9, 0)]) q_191_12 rfl (Nat.le_of_ble_eq_true rfl)).trans <| (j_iconst q_191_13).trans <| (j_istore_n (l2 := [(2, 83), (0, σ 83 7), (0, 1), (9, 0), (9, 0), (9, 0)]) q_191_14 rfl (Nat.le_of_ble_eq_true rfl)).trans <| rfl))
theorem b_191_15 {E : js_E} {d : Nat} {σ : js_S} {x1 x2 : Int} : js_J E d 191 15 [(2, 83), (0, x1), (0, x2), (9, 0), (9, 0), (9, 0)] [] σ = (if js_w x2 = 0 then js_J E d 191 116 [(2, 83), (0, x1), (0, x2), (9, 0), (9, 0), (9, 0)] [(0, x1), (2, 83)] (js_up σ 83 6 x1) else js_J E d 191 19 [(2, 83), (0, x1), (0, x2), (9, 0), (9, 0), (9, 0)] [] σ) :=
  (j_iload_n q_191_15 rfl).trans <| (j_ifeq (t := 109) q_191_16 rfl).trans (js_ite ((j_aload_n q_191_109 rfl).trans <| (j_iload_n q_191_110 rfl).trans <| (j_putI (ji := 6) q_191_111 (js_Fo qy_191 qf_12_35) rfl js_o83 rfl rfl rfl).trans <| (j_aload_n q_191_114 rfl).trans <| (j_iload_n q_191_115 rfl).trans <| rfl) (rfl))
theorem b_191_19 {E : js_E} {d : Nat} {σ : js_S} {x1 x2 : Int} : js_J E d 191 19 [(2, 83), (0, x1), (0, x2), (9, 0), (9, 0), (9, 0)] [] σ = (if js_w x1 < js_w (σ 83 4) then js_J E d 191 29 [(2, 83), (0, x1), (0, x2), (9, 0), (9, 0), (9, 0)] [(0, x1), (2, 83)] σ else js_J E d 191 53 [(2, 83), (0, x1), (0, x2), (9, 0), (9, 0), (9, 0)] [] σ) :=
  (j_iload_n q_191_19 rfl).trans <| (j_aload_n q_191_20 rfl).trans <| (j_get (ji := 4) (v := (0, σ 83 4)) q_191_21 (js_Fo qy_191 qf_12_19) js_o83 rfl rfl rfl rfl).trans <| (j_cmpge (t := 53) q_191_24 rfl).trans (js_ite ((j_aload_n q_191_27 rfl).trans <| (j_iload_n q_191_28 rfl).trans <| rfl) (rfl))
theorem k_191_29 {E : js_E} {d : Nat} {σ σ2 : js_S} {x1 x2 z1 : Int} {v : Int} (hd : 1 ≤ d) (hz : js_J E (d - 1) 192 0 [(2, 83), (0, z1)] [] σ = js_r E (0, v) σ2) : js_J E d 191 29 [(2, 83), (0, x1), (0, x2), (9, 0), (9, 0), (9, 0)] [(0, z1), (2, 83)] σ = js_J E d 191 32 [(2, 83), (0, x1), (0, x2), (9, 0), (9, 0), (9, 0)] [(0, v)] σ2 :=
  j_call (m := 0) (js_caV q_191_29 (js_Mo qy_191 qm_12_31)) (js_agV (av := [(0, z1)]) (st := []) rfl rfl js_o83 rfl) rfl rfl (by rw [ql_192]; exact Nat.le_of_ble_eq_true rfl) (Nat.le_of_ble_eq_true rfl) hd hz
theorem b_191_32 {E : js_E} {d : Nat} {σ : js_S} {x1 x2 z0 : Int} : js_J E d 191 32 [(2, 83), (0, x1), (0, x2), (9, 0), (9, 0), (9, 0)] [(0, z0)] σ = (if js_w z0 = 32 then js_J E d 191 47 [(2, 83), (0, x1), (0, x2), (9, 0), (9, 0), (9, 0)] [] σ else js_J E d 191 39 [(2, 83), (0, x1), (0, x2), (9, 0), (9, 0), (9, 0)] [(0, x1), (2, 83)] σ) :=
  (j_bi q_191_32 rfl).trans <| (j_cmpeqB (t := 47) q_191_34 rfl ww_32).trans (js_ite (rfl) ((j_aload_n q_191_37 rfl).trans <| (j_iload_n q_191_38 rfl).trans <| rfl))
theorem k_191_39 {E : js_E} {d : Nat} {σ σ2 : js_S} {x1 x2 z1 : Int} {v : Int} (hd : 1 ≤ d) (hz : js_J E (d - 1) 192 0 [(2, 83), (0, z1)] [] σ = js_r E (0, v) σ2) : js_J E d 191 39 [(2, 83), (0, x1), (0, x2), (9, 0), (9, 0), (9, 0)] [(0, z1), (2, 83)] σ = js_J E d 191 42 [(2, 83), (0, x1), (0, x2), (9, 0), (9, 0), (9, 0)] [(0, v)] σ2 :=
  j_call (m := 0) (js_caV q_191_39 (js_Mo qy_191 qm_12_31)) (js_agV (av := [(0, z1)]) (st := []) rfl rfl js_o83 rfl) rfl rfl (by rw [ql_192]; exact Nat.le_of_ble_eq_true rfl) (Nat.le_of_ble_eq_true rfl) hd hz
theorem b_191_42 {E : js_E} {d : Nat} {σ : js_S} {x1 x2 z0 : Int} : js_J E d 191 42 [(2, 83), (0, x1), (0, x2), (9, 0), (9, 0), (9, 0)] [(0, z0)] σ = (if js_w z0 = 10 then js_J E d 191 47 [(2, 83), (0, x1), (0, x2), (9, 0), (9, 0), (9, 0)] [] σ else js_J E d 191 53 [(2, 83), (0, x1), (0, x2), (9, 0), (9, 0), (9, 0)] [] σ) :=
  (j_bi q_191_42 rfl).trans <| (j_cmpneB (t := 53) q_191_44 rfl ww_10).trans (js_ite (rfl) (rfl))
theorem b_191_47 {E : js_E} {d : Nat} {σ : js_S} {x1 x2 : Int} : js_J E d 191 47 [(2, 83), (0, x1), (0, x2), (9, 0), (9, 0), (9, 0)] [] σ = js_J E d 191 19 [(2, 83), (0, x1 + 1), (0, x2), (9, 0), (9, 0), (9, 0)] [] σ :=
  (j_iinc (l2 := [(2, 83), (0, x1 + 1), (0, x2), (9, 0), (9, 0), (9, 0)]) q_191_47 rfl rfl).trans <| (j_goto (t := 19) q_191_50 rfl).trans <| rfl
theorem b_191_53 {E : js_E} {d : Nat} {σ : js_S} {x1 x2 : Int} : js_J E d 191 53 [(2, 83), (0, x1), (0, x2), (9, 0), (9, 0), (9, 0)] [] σ = js_J E d 191 55 [(2, 83), (0, x1), (0, x2), (9, 0), (9, 0), (9, 0)] [(0, x1), (2, 83)] σ :=
  (j_aload_n q_191_53 rfl).trans <| (j_iload_n q_191_54 rfl).trans <| rfl
theorem k_191_55 {E : js_E} {d : Nat} {σ σ2 : js_S} {x1 x2 z1 : Int} {v : Int} (hd : 1 ≤ d) (hz : js_J E (d - 1) 192 0 [(2, 83), (0, z1)] [] σ = js_r E (0, v) σ2) : js_J E d 191 55 [(2, 83), (0, x1), (0, x2), (9, 0), (9, 0), (9, 0)] [(0, z1), (2, 83)] σ = js_J E d 191 58 [(2, 83), (0, x1), (0, x2), (9, 0), (9, 0), (9, 0)] [(0, v)] σ2 :=
  j_call (m := 0) (js_caV q_191_55 (js_Mo qy_191 qm_12_31)) (js_agV (av := [(0, z1)]) (st := []) rfl rfl js_o83 rfl) rfl rfl (by rw [ql_192]; exact Nat.le_of_ble_eq_true rfl) (Nat.le_of_ble_eq_true rfl) hd hz
theorem b_191_58 {E : js_E} {d : Nat} {σ : js_S} {x1 x2 z0 : Int} : js_J E d 191 58 [(2, 83), (0, x1), (0, x2), (9, 0), (9, 0), (9, 0)] [(0, z0)] σ = (if js_w z0 = 47 then js_J E d 191 67 [(2, 83), (0, x1), (0, x2), (9, 0), (9, 0), (9, 0)] [(0, x1 + 1), (2, 83)] σ else js_J E d 191 79 [(2, 83), (0, x1), (0, x2), (9, 0), (9, 0), (9, 0)] [] σ) :=
  (j_bi q_191_58 rfl).trans <| (j_cmpneB (t := 79) q_191_60 rfl ww_47).trans (js_ite ((j_aload_n q_191_63 rfl).trans <| (j_iload_n q_191_64 rfl).trans <| (j_iconst q_191_65).trans <| (j_iadd q_191_66).trans <| rfl) (rfl))
theorem k_191_67 {E : js_E} {d : Nat} {σ σ2 : js_S} {x1 x2 z1 : Int} {v : Int} (hd : 1 ≤ d) (hz : js_J E (d - 1) 192 0 [(2, 83), (0, z1)] [] σ = js_r E (0, v) σ2) : js_J E d 191 67 [(2, 83), (0, x1), (0, x2), (9, 0), (9, 0), (9, 0)] [(0, z1), (2, 83)] σ = js_J E d 191 70 [(2, 83), (0, x1), (0, x2), (9, 0), (9, 0), (9, 0)] [(0, v)] σ2 :=
  j_call (m := 0) (js_caV q_191_67 (js_Mo qy_191 qm_12_31)) (js_agV (av := [(0, z1)]) (st := []) rfl rfl js_o83 rfl) rfl rfl (by rw [ql_192]; exact Nat.le_of_ble_eq_true rfl) (Nat.le_of_ble_eq_true rfl) hd hz
theorem b_191_70 {E : js_E} {d : Nat} {σ : js_S} {x1 x2 z0 : Int} : js_J E d 191 70 [(2, 83), (0, x1), (0, x2), (9, 0), (9, 0), (9, 0)] [(0, z0)] σ = (if js_w z0 = 47 then js_J E d 191 80 [(2, 83), (0, x1), (0, x2), (9, 0), (9, 0), (9, 0)] [(0, 1)] σ else js_J E d 191 79 [(2, 83), (0, x1), (0, x2), (9, 0), (9, 0), (9, 0)] [] σ) :=
  (j_bi q_191_70 rfl).trans <| (j_cmpneB (t := 79) q_191_72 rfl ww_47).trans (js_ite ((j_iconst q_191_75).trans <| (j_goto (t := 80) q_191_76 rfl).trans <| rfl) (rfl))
theorem b_191_79 {E : js_E} {d : Nat} {σ : js_S} {x1 x2 : Int} : js_J E d 191 79 [(2, 83), (0, x1), (0, x2), (9, 0), (9, 0), (9, 0)] [] σ = js_J E d 191 80 [(2, 83), (0, x1), (0, x2), (9, 0), (9, 0), (9, 0)] [(0, 0)] σ :=
  (j_iconst q_191_79).trans <| rfl
theorem b_191_80 {E : js_E} {d : Nat} {σ : js_S} {x1 x2 z0 : Int} : js_J E d 191 80 [(2, 83), (0, x1), (0, x2), (9, 0), (9, 0), (9, 0)] [(0, z0)] σ = js_J E d 191 81 [(2, 83), (0, x1), (0, z0), (9, 0), (9, 0), (9, 0)] [] σ :=
  (j_istore_n (l2 := [(2, 83), (0, x1), (0, z0), (9, 0), (9, 0), (9, 0)]) q_191_80 rfl (Nat.le_of_ble_eq_true rfl)).trans <| rfl
theorem b_191_81 {E : js_E} {d : Nat} {σ : js_S} {x1 x2 : Int} : js_J E d 191 81 [(2, 83), (0, x1), (0, x2), (9, 0), (9, 0), (9, 0)] [] σ = (if js_w x2 = 0 then js_J E d 191 15 [(2, 83), (0, x1), (0, x2), (9, 0), (9, 0), (9, 0)] [] σ else (if js_w x1 < js_w (σ 83 4) then js_J E d 191 95 [(2, 83), (0, x1), (0, x2), (9, 0), (9, 0), (9, 0)] [(0, x1), (2, 83)] σ else js_J E d 191 15 [(2, 83), (0, x1), (0, x2), (9, 0), (9, 0), (9, 0)] [] σ)) :=
  (j_iload_n q_191_81 rfl).trans <| (j_ifeq (t := 15) q_191_82 rfl).trans (js_ite (rfl) ((j_iload_n q_191_85 rfl).trans <| (j_aload_n q_191_86 rfl).trans <| (j_get (ji := 4) (v := (0, σ 83 4)) q_191_87 (js_Fo qy_191 qf_12_19) js_o83 rfl rfl rfl rfl).trans <| (j_cmpge (t := 15) q_191_90 rfl).trans (js_ite ((j_aload_n q_191_93 rfl).trans <| (j_iload_n q_191_94 rfl).trans <| rfl) (rfl))))
theorem k_191_95 {E : js_E} {d : Nat} {σ σ2 : js_S} {x1 x2 z1 : Int} {v : Int} (hd : 1 ≤ d) (hz : js_J E (d - 1) 192 0 [(2, 83), (0, z1)] [] σ = js_r E (0, v) σ2) : js_J E d 191 95 [(2, 83), (0, x1), (0, x2), (9, 0), (9, 0), (9, 0)] [(0, z1), (2, 83)] σ = js_J E d 191 98 [(2, 83), (0, x1), (0, x2), (9, 0), (9, 0), (9, 0)] [(0, v)] σ2 :=
  j_call (m := 0) (js_caV q_191_95 (js_Mo qy_191 qm_12_31)) (js_agV (av := [(0, z1)]) (st := []) rfl rfl js_o83 rfl) rfl rfl (by rw [ql_192]; exact Nat.le_of_ble_eq_true rfl) (Nat.le_of_ble_eq_true rfl) hd hz
theorem b_191_98 {E : js_E} {d : Nat} {σ : js_S} {x1 x2 z0 : Int} : js_J E d 191 98 [(2, 83), (0, x1), (0, x2), (9, 0), (9, 0), (9, 0)] [(0, z0)] σ = (if js_w z0 = 10 then js_J E d 191 15 [(2, 83), (0, x1), (0, x2), (9, 0), (9, 0), (9, 0)] [] σ else js_J E d 191 81 [(2, 83), (0, x1 + 1), (0, x2), (9, 0), (9, 0), (9, 0)] [] σ) :=
  (j_bi q_191_98 rfl).trans <| (j_cmpeqB (t := 15) q_191_100 rfl ww_10).trans (js_ite (rfl) ((j_iinc (l2 := [(2, 83), (0, x1 + 1), (0, x2), (9, 0), (9, 0), (9, 0)]) q_191_103 rfl rfl).trans <| (j_goto (t := 81) q_191_106 rfl).trans <| rfl))
theorem k_191_116 {E : js_E} {d : Nat} {σ σ2 : js_S} {x1 x2 z1 : Int} {v : Int} (hd : 1 ≤ d) (hz : js_J E (d - 1) 192 0 [(2, 83), (0, z1)] [] σ = js_r E (0, v) σ2) : js_J E d 191 116 [(2, 83), (0, x1), (0, x2), (9, 0), (9, 0), (9, 0)] [(0, z1), (2, 83)] σ = js_J E d 191 119 [(2, 83), (0, x1), (0, x2), (9, 0), (9, 0), (9, 0)] [(0, v)] σ2 :=
  j_call (m := 0) (js_caV q_191_116 (js_Mo qy_191 qm_12_31)) (js_agV (av := [(0, z1)]) (st := []) rfl rfl js_o83 rfl) rfl rfl (by rw [ql_192]; exact Nat.le_of_ble_eq_true rfl) (Nat.le_of_ble_eq_true rfl) hd hz
theorem b_191_119 {E : js_E} {d : Nat} {σ : js_S} {x1 x2 z0 : Int} : js_J E d 191 119 [(2, 83), (0, x1), (0, x2), (9, 0), (9, 0), (9, 0)] [(0, z0)] σ = (if js_w x1 < js_w (σ 83 4) then js_J E d 191 142 [(2, 83), (0, x1), (0, x2), (0, z0), (9, 0), (9, 0)] [(0, z0)] σ else js_J E d 191 340 [(2, 83), (0, x1), (0, x2), (0, z0), (9, 0), (9, 0)] [] (js_up (js_up σ 83 5 1) 83 7 x1)) :=
  (j_istore_n (l2 := [(2, 83), (0, x1), (0, x2), (0, z0), (9, 0), (9, 0)]) q_191_119 rfl (Nat.le_of_ble_eq_true rfl)).trans <| (j_iload_n q_191_120 rfl).trans <| (j_aload_n q_191_121 rfl).trans <| (j_get (ji := 4) (v := (0, σ 83 4)) q_191_122 (js_Fo qy_191 qf_12_19) js_o83 rfl rfl rfl rfl).trans <| (j_cmplt (t := 141) q_191_125 rfl).trans (js_ite ((j_iload_n q_191_141 rfl).trans <| rfl) ((j_aload_n q_191_128 rfl).trans <| (j_iconst q_191_129).trans <| (j_putI (ji := 5) q_191_130 (js_Fo qy_191 qf_12_25) rfl js_o83 rfl rfl rfl).trans <| (j_aload_n q_191_133 rfl).trans <| (j_iload_n q_191_134 rfl).trans <| (j_putI (ji := 7) q_191_135 (js_Fo qy_191 qf_12_28) rfl js_o83 rfl rfl rfl).trans <| (j_goto (t := 340) q_191_138 rfl).trans <| rfl))
theorem k_191_142 {E : js_E} {d : Nat} {σ σ2 : js_S} {x1 x2 x3 z0 : Int} {v : Int} (hd : 1 ≤ d) (hz : js_J E (d - 1) 193 0 [(0, z0)] [] σ = js_r E (0, v) σ2) : js_J E d 191 142 [(2, 83), (0, x1), (0, x2), (0, x3), (9, 0), (9, 0)] [(0, z0)] σ = js_J E d 191 145 [(2, 83), (0, x1), (0, x2), (0, x3), (9, 0), (9, 0)] [(0, v)] σ2 :=
  j_call (m := 0) (js_caS q_191_142 (js_Mo qy_191 qm_12_38)) (js_agS (av := [(0, z0)]) (st := []) rfl rfl) rfl rfl (by rw [ql_193]; exact Nat.le_of_ble_eq_true rfl) (Nat.le_of_ble_eq_true rfl) hd hz
theorem b_191_145 {E : js_E} {d : Nat} {σ : js_S} {x1 x2 x3 z0 : Int} : js_J E d 191 145 [(2, 83), (0, x1), (0, x2), (0, x3), (9, 0), (9, 0)] [(0, z0)] σ = (if js_w z0 = 0 then js_J E d 191 222 [(2, 83), (0, x1), (0, x2), (0, x3), (9, 0), (9, 0)] [(0, x3)] σ else js_J E d 191 148 [(2, 83), (0, x1), (0, x2), (0, x3), (9, 0), (9, 0)] [] σ) :=
  (j_ifeq (t := 221) q_191_145 rfl).trans (js_ite ((j_iload_n q_191_221 rfl).trans <| rfl) (rfl))
theorem b_191_148 {E : js_E} {d : Nat} {σ : js_S} {x1 x2 x3 : Int} : js_J E d 191 148 [(2, 83), (0, x1), (0, x2), (0, x3), (9, 0), (9, 0)] [] σ = js_J E d 191 150 [(2, 83), (0, x1), (0, x2), (0, x3), (9, 0), (9, 0)] [(0, x1), (2, 83)] σ :=
  (j_aload_n q_191_148 rfl).trans <| (j_iload_n q_191_149 rfl).trans <| rfl
theorem k_191_150 {E : js_E} {d : Nat} {σ σ2 : js_S} {x1 x2 x3 z1 : Int} {v : Int} (hd : 1 ≤ d) (hz : js_J E (d - 1) 192 0 [(2, 83), (0, z1)] [] σ = js_r E (0, v) σ2) : js_J E d 191 150 [(2, 83), (0, x1), (0, x2), (0, x3), (9, 0), (9, 0)] [(0, z1), (2, 83)] σ = js_J E d 191 153 [(2, 83), (0, x1), (0, x2), (0, x3), (9, 0), (9, 0)] [(0, v)] σ2 :=
  j_call (m := 0) (js_caV q_191_150 (js_Mo qy_191 qm_12_31)) (js_agV (av := [(0, z1)]) (st := []) rfl rfl js_o83 rfl) rfl rfl (by rw [ql_192]; exact Nat.le_of_ble_eq_true rfl) (Nat.le_of_ble_eq_true rfl) hd hz
theorem k_191_153 {E : js_E} {d : Nat} {σ σ2 : js_S} {x1 x2 x3 z0 : Int} {v : Int} (hd : 1 ≤ d) (hz : js_J E (d - 1) 193 0 [(0, z0)] [] σ = js_r E (0, v) σ2) : js_J E d 191 153 [(2, 83), (0, x1), (0, x2), (0, x3), (9, 0), (9, 0)] [(0, z0)] σ = js_J E d 191 156 [(2, 83), (0, x1), (0, x2), (0, x3), (9, 0), (9, 0)] [(0, v)] σ2 :=
  j_call (m := 0) (js_caS q_191_153 (js_Mo qy_191 qm_12_38)) (js_agS (av := [(0, z0)]) (st := []) rfl rfl) rfl rfl (by rw [ql_193]; exact Nat.le_of_ble_eq_true rfl) (Nat.le_of_ble_eq_true rfl) hd hz
theorem b_191_156 {E : js_E} {d : Nat} {σ : js_S} {x1 x2 x3 z0 : Int} : js_J E d 191 156 [(2, 83), (0, x1), (0, x2), (0, x3), (9, 0), (9, 0)] [(0, z0)] σ = (if js_w z0 = 0 then js_J E d 191 161 [(2, 83), (0, x1), (0, x2), (0, x3), (9, 0), (9, 0)] [(0, x1), (2, 83)] σ else js_J E d 191 170 [(2, 83), (0, x1), (0, x2), (0, x3), (9, 0), (9, 0)] [] σ) :=
  (j_ifne (t := 170) q_191_156 rfl).trans (js_ite ((j_aload_n q_191_159 rfl).trans <| (j_iload_n q_191_160 rfl).trans <| rfl) (rfl))
theorem k_191_161 {E : js_E} {d : Nat} {σ σ2 : js_S} {x1 x2 x3 z1 : Int} {v : Int} (hd : 1 ≤ d) (hz : js_J E (d - 1) 192 0 [(2, 83), (0, z1)] [] σ = js_r E (0, v) σ2) : js_J E d 191 161 [(2, 83), (0, x1), (0, x2), (0, x3), (9, 0), (9, 0)] [(0, z1), (2, 83)] σ = js_J E d 191 164 [(2, 83), (0, x1), (0, x2), (0, x3), (9, 0), (9, 0)] [(0, v)] σ2 :=
  j_call (m := 0) (js_caV q_191_161 (js_Mo qy_191 qm_12_31)) (js_agV (av := [(0, z1)]) (st := []) rfl rfl js_o83 rfl) rfl rfl (by rw [ql_192]; exact Nat.le_of_ble_eq_true rfl) (Nat.le_of_ble_eq_true rfl) hd hz
theorem k_191_164 {E : js_E} {d : Nat} {σ σ2 : js_S} {x1 x2 x3 z0 : Int} {v : Int} (hd : 1 ≤ d) (hz : js_J E (d - 1) 194 0 [(0, z0)] [] σ = js_r E (0, v) σ2) : js_J E d 191 164 [(2, 83), (0, x1), (0, x2), (0, x3), (9, 0), (9, 0)] [(0, z0)] σ = js_J E d 191 167 [(2, 83), (0, x1), (0, x2), (0, x3), (9, 0), (9, 0)] [(0, v)] σ2 :=
  j_call (m := 0) (js_caS q_191_164 (js_Mo qy_191 qm_12_42)) (js_agS (av := [(0, z0)]) (st := []) rfl rfl) rfl rfl (by rw [ql_194]; exact Nat.le_of_ble_eq_true rfl) (Nat.le_of_ble_eq_true rfl) hd hz
theorem b_191_167 {E : js_E} {d : Nat} {σ : js_S} {x1 x2 x3 z0 : Int} : js_J E d 191 167 [(2, 83), (0, x1), (0, x2), (0, x3), (9, 0), (9, 0)] [(0, z0)] σ = (if js_w z0 = 0 then js_J E d 191 183 [(2, 83), (0, x1), (0, x2), (0, x3), (9, 0), (9, 0)] [(2, 83), (2, 83)] (js_up σ 83 7 x1) else js_J E d 191 170 [(2, 83), (0, x1), (0, x2), (0, x3), (9, 0), (9, 0)] [] σ) :=
  (j_ifeq (t := 176) q_191_167 rfl).trans (js_ite ((j_aload_n q_191_176 rfl).trans <| (j_iload_n q_191_177 rfl).trans <| (j_putI (ji := 7) q_191_178 (js_Fo qy_191 qf_12_28) rfl js_o83 rfl rfl rfl).trans <| (j_aload_n q_191_181 rfl).trans <| (j_aload_n q_191_182 rfl).trans <| rfl) (rfl))
theorem b_191_170 {E : js_E} {d : Nat} {σ : js_S} {x1 x2 x3 : Int} : js_J E d 191 170 [(2, 83), (0, x1), (0, x2), (0, x3), (9, 0), (9, 0)] [] σ = js_J E d 191 148 [(2, 83), (0, x1 + 1), (0, x2), (0, x3), (9, 0), (9, 0)] [] σ :=
  (j_iinc (l2 := [(2, 83), (0, x1 + 1), (0, x2), (0, x3), (9, 0), (9, 0)]) q_191_170 rfl rfl).trans <| (j_goto (t := 148) q_191_173 rfl).trans <| rfl
theorem k_191_183 {E : js_E} {d : Nat} {σ σ2 : js_S} {x1 x2 x3 : Int} {v : Int} (hd : 1 ≤ d) (hz : js_J E (d - 1) 195 0 [(2, 83), (9, 0), (9, 0), (9, 0), (9, 0), (9, 0)] [] σ = js_r E (0, v) σ2) : js_J E d 191 183 [(2, 83), (0, x1), (0, x2), (0, x3), (9, 0), (9, 0)] [(2, 83), (2, 83)] σ = js_J E d 191 186 [(2, 83), (0, x1), (0, x2), (0, x3), (9, 0), (9, 0)] [(0, v), (2, 83)] σ2 :=
  j_call (m := 5) (js_caV q_191_183 (js_Mo qy_191 qm_12_45)) (js_agV (av := []) (st := [(2, 83)]) rfl rfl js_o83 rfl) rfl rfl (by rw [ql_195]; exact Nat.le_of_ble_eq_true rfl) (Nat.le_of_ble_eq_true rfl) hd hz
theorem b_191_186 {E : js_E} {d : Nat} {σ : js_S} {x1 x2 x3 z1 : Int} : js_J E d 191 186 [(2, 83), (0, x1), (0, x2), (0, x3), (9, 0), (9, 0)] [(0, z1), (2, 83)] σ = (if js_w z1 = 2 then (if 20 < js_w ((σ 83 7) - (σ 83 6)) then js_J E d 191 340 [(2, 83), (0, x1), (0, x2), (0, x3), (9, 0), (9, 0)] [] (js_up (js_up σ 83 5 z1) 83 5 2000) else js_J E d 191 340 [(2, 83), (0, x1), (0, x2), (0, x3), (9, 0), (9, 0)] [] (js_up σ 83 5 z1)) else js_J E d 191 340 [(2, 83), (0, x1), (0, x2), (0, x3), (9, 0), (9, 0)] [] (js_up σ 83 5 z1)) :=
  (j_putI (ji := 5) q_191_186 (js_Fo qy_191 qf_12_25) rfl js_o83 rfl rfl rfl).trans <| (j_aload_n q_191_189 rfl).trans <| (j_get (ji := 5) (v := (0, z1)) q_191_190 (js_Fo qy_191 qf_12_25) js_o83 rfl rfl rfl (congrArg (Prod.mk 0) ((js_up_same _ _ _ _)))).trans <| (j_iconst q_191_193).trans <| (j_cmpneB (t := 340) q_191_194 rfl ww_2).trans (js_ite ((j_aload_n q_191_197 rfl).trans <| (j_get (ji := 7) (v := (0, σ 83 7)) q_191_198 (js_Fo qy_191 qf_12_28) js_o83 rfl rfl rfl (congrArg (Prod.mk 0) ((js_up_ni _ (by decide))))).trans <| (j_aload_n q_191_201 rfl).trans <| (j_get (ji := 6) (v := (0, σ 83 6)) q_191_202 (js_Fo qy_191 qf_12_35) js_o83 rfl rfl rfl (congrArg (Prod.mk 0) ((js_up_ni _ (by decide))))).trans <| (j_isub q_191_205).trans <| (j_bi q_191_206 rfl).trans <| (j_cmpleB (t := 340) q_191_208 rfl ww_20).trans (js_ite ((j_aload_n q_191_211 rfl).trans <| (j_si q_191_212 rfl).trans <| (j_putI (ji := 5) q_191_215 (js_Fo qy_191 qf_12_25) rfl js_o83 rfl rfl rfl).trans <| (j_goto (t := 340) q_191_218 rfl).trans <| rfl) (rfl))) (rfl))
theorem k_191_222 {E : js_E} {d : Nat} {σ σ2 : js_S} {x1 x2 x3 z0 : Int} {v : Int} (hd : 1 ≤ d) (hz : js_J E (d - 1) 194 0 [(0, z0)] [] σ = js_r E (0, v) σ2) : js_J E d 191 222 [(2, 83), (0, x1), (0, x2), (0, x3), (9, 0), (9, 0)] [(0, z0)] σ = js_J E d 191 225 [(2, 83), (0, x1), (0, x2), (0, x3), (9, 0), (9, 0)] [(0, v)] σ2 :=
  j_call (m := 0) (js_caS q_191_222 (js_Mo qy_191 qm_12_42)) (js_agS (av := [(0, z0)]) (st := []) rfl rfl) rfl rfl (by rw [ql_194]; exact Nat.le_of_ble_eq_true rfl) (Nat.le_of_ble_eq_true rfl) hd hz
theorem b_191_225 {E : js_E} {d : Nat} {σ : js_S} {x1 x2 x3 z0 : Int} : js_J E d 191 225 [(2, 83), (0, x1), (0, x2), (0, x3), (9, 0), (9, 0)] [(0, z0)] σ = (if js_w z0 = 0 then js_J E d 191 334 [(2, 83), (0, x1), (0, x2), (0, x3), (9, 0), (9, 0)] [(0, x1 + 1), (2, 83), (0, x3), (2, 83)] σ else js_J E d 191 231 [(2, 83), (0, x1), (0, x2), (0, x3), (1, 0), (9, 0)] [] σ) :=
  (j_ifeq (t := 328) q_191_225 rfl).trans (js_ite ((j_aload_n q_191_328 rfl).trans <| (j_iload_n q_191_329 rfl).trans <| (j_aload_n q_191_330 rfl).trans <| (j_iload_n q_191_331 rfl).trans <| (j_iconst q_191_332).trans <| (j_iadd q_191_333).trans <| rfl) ((j_lconst0 q_191_228).trans <| (j_lstore (l2 := [(2, 83), (0, x1), (0, x2), (0, x3), (1, 0), (9, 0)]) q_191_229 rfl (Nat.le_of_ble_eq_true rfl)).trans <| rfl))
theorem b_191_231 {E : js_E} {d : Nat} {σ : js_S} {x1 x2 x3 x4 : Int} : js_J E d 191 231 [(2, 83), (0, x1), (0, x2), (0, x3), (1, x4), (9, 0)] [] σ = js_J E d 191 233 [(2, 83), (0, x1), (0, x2), (0, x3), (1, x4), (9, 0)] [(0, x1), (2, 83)] σ :=
  (j_aload_n q_191_231 rfl).trans <| (j_iload_n q_191_232 rfl).trans <| rfl
theorem k_191_233 {E : js_E} {d : Nat} {σ σ2 : js_S} {x1 x2 x3 x4 z1 : Int} {v : Int} (hd : 1 ≤ d) (hz : js_J E (d - 1) 192 0 [(2, 83), (0, z1)] [] σ = js_r E (0, v) σ2) : js_J E d 191 233 [(2, 83), (0, x1), (0, x2), (0, x3), (1, x4), (9, 0)] [(0, z1), (2, 83)] σ = js_J E d 191 236 [(2, 83), (0, x1), (0, x2), (0, x3), (1, x4), (9, 0)] [(0, v)] σ2 :=
  j_call (m := 0) (js_caV q_191_233 (js_Mo qy_191 qm_12_31)) (js_agV (av := [(0, z1)]) (st := []) rfl rfl js_o83 rfl) rfl rfl (by rw [ql_192]; exact Nat.le_of_ble_eq_true rfl) (Nat.le_of_ble_eq_true rfl) hd hz
theorem k_191_236 {E : js_E} {d : Nat} {σ σ2 : js_S} {x1 x2 x3 x4 z0 : Int} {v : Int} (hd : 1 ≤ d) (hz : js_J E (d - 1) 194 0 [(0, z0)] [] σ = js_r E (0, v) σ2) : js_J E d 191 236 [(2, 83), (0, x1), (0, x2), (0, x3), (1, x4), (9, 0)] [(0, z0)] σ = js_J E d 191 239 [(2, 83), (0, x1), (0, x2), (0, x3), (1, x4), (9, 0)] [(0, v)] σ2 :=
  j_call (m := 0) (js_caS q_191_236 (js_Mo qy_191 qm_12_42)) (js_agS (av := [(0, z0)]) (st := []) rfl rfl) rfl rfl (by rw [ql_194]; exact Nat.le_of_ble_eq_true rfl) (Nat.le_of_ble_eq_true rfl) hd hz
theorem b_191_239 {E : js_E} {d : Nat} {σ : js_S} {x1 x2 x3 x4 z0 : Int} : js_J E d 191 239 [(2, 83), (0, x1), (0, x2), (0, x3), (1, x4), (9, 0)] [(0, z0)] σ = (if js_w z0 = 0 then (if 10 < js_w (x1 - (σ 83 6)) then js_J E d 191 318 [(2, 83), (0, x1), (0, x2), (0, x3), (1, x4), (9, 0)] [] (js_up (js_up (js_up σ 83 7 x1) 83 5 3) 83 8 x4) else (if 2000000000 < js_l x4 then js_J E d 191 318 [(2, 83), (0, x1), (0, x2), (0, x3), (1, x4), (9, 0)] [] (js_up (js_up (js_up σ 83 7 x1) 83 5 3) 83 8 x4) else js_J E d 191 340 [(2, 83), (0, x1), (0, x2), (0, x3), (1, x4), (9, 0)] [] (js_up (js_up (js_up σ 83 7 x1) 83 5 3) 83 8 x4))) else (if js_w (x1 - (σ 83 6)) < 11 then js_J E d 191 261 [(2, 83), (0, x1), (0, x2), (0, x3), (1, x4), (9, 0)] [(0, x1), (2, 83), (1, 10 * x4)] σ else js_J E d 191 272 [(2, 83), (0, x1), (0, x2), (0, x3), (1, x4), (9, 0)] [] σ)) :=
  (j_ifeq (t := 278) q_191_239 rfl).trans (js_ite ((j_aload_n q_191_278 rfl).trans <| (j_iload_n q_191_279 rfl).trans <| (j_putI (ji := 7) q_191_280 (js_Fo qy_191 qf_12_28) rfl js_o83 rfl rfl rfl).trans <| (j_aload_n q_191_283 rfl).trans <| (j_iconst q_191_284).trans <| (j_putI (ji := 5) q_191_285 (js_Fo qy_191 qf_12_25) rfl js_o83 rfl rfl rfl).trans <| (j_aload_n q_191_288 rfl).trans <| (j_lload q_191_289 rfl).trans <| (j_l2i q_191_291).trans <| (j_putI (ji := 8) q_191_292 (js_Fo qy_191 qf_12_53) rfl js_o83 rfl rfl rfl).trans <| (j_aload_n q_191_295 rfl).trans <| (j_get (ji := 7) (v := (0, x1)) q_191_296 (js_Fo qy_191 qf_12_28) js_o83 rfl rfl rfl (congrArg (Prod.mk 0) ((js_up_ni _ (by decide)).trans <| (js_up_ni _ (by decide)).trans <| (js_up_same _ _ _ _)))).trans <| (j_aload_n q_191_299 rfl).trans <| (j_get (ji := 6) (v := (0, σ 83 6)) q_191_300 (js_Fo qy_191 qf_12_35) js_o83 rfl rfl rfl (congrArg (Prod.mk 0) ((js_up_ni _ (by decide)).trans <| (js_up_ni _ (by decide)).trans <| (js_up_ni _ (by decide))))).trans <| (j_isub q_191_303).trans <| (j_bi q_191_304 rfl).trans <| (j_cmpgtB (t := 318) q_191_306 rfl ww_10).trans (js_ite (rfl) ((j_lload q_191_309 rfl).trans <| (j_ldc2 (v := (1, 2000000000)) q_191_311 (js_Co qy_191 qc_12_56)).trans <| (j_lleB (t := 325) q_191_314 q_191_315 rfl wl_2000000000).trans (js_ite (rfl) ((j_goto (t := 340) q_191_325 rfl).trans <| rfl))))) ((j_iload_n q_191_242 rfl).trans <| (j_aload_n q_191_243 rfl).trans <| (j_get (ji := 6) (v := (0, σ 83 6)) q_191_244 (js_Fo qy_191 qf_12_35) js_o83 rfl rfl rfl rfl).trans <| (j_isub q_191_247).trans <| (j_bi q_191_248 rfl).trans <| (j_cmpgeB (t := 272) q_191_250 rfl ww_11).trans (js_ite ((j_ldc2 (v := (1, 10)) q_191_253 (js_Co qy_191 qc_12_49)).trans <| (j_lload q_191_256 rfl).trans <| (j_lmul q_191_258).trans <| (j_aload_n q_191_259 rfl).trans <| (j_iload_n q_191_260 rfl).trans <| rfl) (rfl))))
theorem k_191_261 {E : js_E} {d : Nat} {σ σ2 : js_S} {x1 x2 x3 x4 z0 z2 : Int} {v : Int} (hd : 1 ≤ d) (hz : js_J E (d - 1) 192 0 [(2, 83), (0, z2)] [] σ = js_r E (0, v) σ2) : js_J E d 191 261 [(2, 83), (0, x1), (0, x2), (0, x3), (1, x4), (9, 0)] [(0, z2), (2, 83), (1, z0)] σ = js_J E d 191 264 [(2, 83), (0, x1), (0, x2), (0, x3), (1, x4), (9, 0)] [(0, v), (1, z0)] σ2 :=
  j_call (m := 0) (js_caV q_191_261 (js_Mo qy_191 qm_12_31)) (js_agV (av := [(0, z2)]) (st := [(1, z0)]) rfl rfl js_o83 rfl) rfl rfl (by rw [ql_192]; exact Nat.le_of_ble_eq_true rfl) (Nat.le_of_ble_eq_true rfl) hd hz
theorem b_191_264 {E : js_E} {d : Nat} {σ : js_S} {x1 x2 x3 x4 z0 z1 : Int} : js_J E d 191 264 [(2, 83), (0, x1), (0, x2), (0, x3), (1, x4), (9, 0)] [(0, z1), (1, z0)] σ = js_J E d 191 272 [(2, 83), (0, x1), (0, x2), (0, x3), (1, (z0 + (js_w z1)) - 48), (9, 0)] [] σ :=
  (j_i2l q_191_264).trans <| (j_ladd q_191_265).trans <| (j_ldc2 (v := (1, 48)) q_191_266 (js_Co qy_191 qc_12_51)).trans <| (j_lsub q_191_269).trans <| (j_lstore (l2 := [(2, 83), (0, x1), (0, x2), (0, x3), (1, (z0 + (js_w z1)) - 48), (9, 0)]) q_191_270 rfl (Nat.le_of_ble_eq_true rfl)).trans <| rfl
theorem b_191_272 {E : js_E} {d : Nat} {σ : js_S} {x1 x2 x3 x4 : Int} : js_J E d 191 272 [(2, 83), (0, x1), (0, x2), (0, x3), (1, x4), (9, 0)] [] σ = js_J E d 191 231 [(2, 83), (0, x1 + 1), (0, x2), (0, x3), (1, x4), (9, 0)] [] σ :=
  (j_iinc (l2 := [(2, 83), (0, x1 + 1), (0, x2), (0, x3), (1, x4), (9, 0)]) q_191_272 rfl rfl).trans <| (j_goto (t := 231) q_191_275 rfl).trans <| rfl
theorem b_191_318 {E : js_E} {d : Nat} {σ : js_S} {x1 x2 x3 x4 : Int} : js_J E d 191 318 [(2, 83), (0, x1), (0, x2), (0, x3), (1, x4), (9, 0)] [] σ = js_J E d 191 340 [(2, 83), (0, x1), (0, x2), (0, x3), (1, x4), (9, 0)] [] (js_up σ 83 5 2000) :=
  (j_aload_n q_191_318 rfl).trans <| (j_si q_191_319 rfl).trans <| (j_putI (ji := 5) q_191_322 (js_Fo qy_191 qf_12_25) rfl js_o83 rfl rfl rfl).trans <| (j_goto (t := 340) q_191_325 rfl).trans <| rfl
theorem k_191_334 {E : js_E} {d : Nat} {σ σ2 : js_S} {x1 x2 x3 z1 z3 : Int} {v : Int} (hd : 1 ≤ d) (hz : js_J E (d - 1) 192 0 [(2, 83), (0, z3)] [] σ = js_r E (0, v) σ2) : js_J E d 191 334 [(2, 83), (0, x1), (0, x2), (0, x3), (9, 0), (9, 0)] [(0, z3), (2, 83), (0, z1), (2, 83)] σ = js_J E d 191 337 [(2, 83), (0, x1), (0, x2), (0, x3), (9, 0), (9, 0)] [(0, v), (0, z1), (2, 83)] σ2 :=
  j_call (m := 0) (js_caV q_191_334 (js_Mo qy_191 qm_12_31)) (js_agV (av := [(0, z3)]) (st := [(0, z1), (2, 83)]) rfl rfl js_o83 rfl) rfl rfl (by rw [ql_192]; exact Nat.le_of_ble_eq_true rfl) (Nat.le_of_ble_eq_true rfl) hd hz
theorem k_191_337 {E : js_E} {d : Nat} {σ σ2 : js_S} {x1 x2 x3 z1 z2 : Int} (hd : 1 ≤ d) (hz : js_J E (d - 1) 196 0 [(2, 83), (0, z1), (0, z2), (9, 0)] [] σ = js_r0 E σ2) : js_J E d 191 337 [(2, 83), (0, x1), (0, x2), (0, x3), (9, 0), (9, 0)] [(0, z2), (0, z1), (2, 83)] σ = js_J E d 191 340 [(2, 83), (0, x1), (0, x2), (0, x3), (9, 0), (9, 0)] [] σ2 :=
  j_call0 (m := 1) (js_caV q_191_337 (js_Mo qy_191 qm_12_58)) (js_agV (av := [(0, z1), (0, z2)]) (st := []) rfl rfl js_o83 rfl) rfl rfl (by rw [ql_196]; exact Nat.le_of_ble_eq_true rfl) (Nat.le_of_ble_eq_true rfl) hd hz
theorem b_191_340 {E : js_E} {d : Nat} {σ : js_S} {x1 x2 x3 : Int} {ux4 : js_v} : js_J E d 191 340 [(2, 83), (0, x1), (0, x2), (0, x3), ux4, (9, 0)] [] σ = js_r0 E σ :=
  j_return q_191_340 qr_191
-- 192: VitalTwinModel.at (I)I
theorem b_192_0 {E : js_E} {d : Nat} {σ : js_S} {x1 : Int} : js_J E d 192 0 [(2, 83), (0, x1)] [] σ = (if js_w x1 < js_w (σ 83 4) then (if 0 ≤ js_w x1 ∧ js_w x1 < 65536 then js_r E (0, σ 84 (js_w x1)) σ else none) else js_r E (0, 0) σ) :=
  (j_iload_n q_192_0 rfl).trans <| (j_aload_n q_192_1 rfl).trans <| (j_get (ji := 4) (v := (0, σ 83 4)) q_192_2 (js_Fo qy_192 qf_12_19) js_o83 rfl rfl rfl rfl).trans <| (j_cmpge (t := 17) q_192_5 rfl).trans (js_ite ((j_aload_n q_192_8 rfl).trans <| (j_get (ji := 1) (v := (2, 84)) q_192_9 (js_Fo qy_192 qf_12_15) js_o83 rfl rfl rfl rfl).trans <| (j_iload_n q_192_12 rfl).trans <| (j_baload q_192_13 js_o84).trans <| js_itp fun g0 => (j_goto (t := 18) q_192_14 rfl).trans <| j_ireturn q_192_18 qr_192) ((j_iconst q_192_17).trans <| j_ireturn q_192_18 qr_192))
-- 193: VitalTwinModel.isLetter (I)Z
theorem b_193_0 {E : js_E} {d : Nat} {σ : js_S} {x0 : Int} : js_J E d 193 0 [(0, x0)] [] σ = (if js_w x0 < 97 then js_J E d 193 12 [(0, x0)] [] σ else (if 122 < js_w x0 then js_J E d 193 12 [(0, x0)] [] σ else js_r E (0, 1) σ)) :=
  (j_iload_n q_193_0 rfl).trans <| (j_bi q_193_1 rfl).trans <| (j_cmpltB (t := 12) q_193_3 rfl ww_97).trans (js_ite (rfl) ((j_iload_n q_193_6 rfl).trans <| (j_bi q_193_7 rfl).trans <| (j_cmpleB (t := 30) q_193_9 rfl ww_122).trans (js_ite (rfl) ((j_iconst q_193_30).trans <| (j_goto (t := 35) q_193_31 rfl).trans <| j_breturn1 q_193_35 qr_193))))
theorem b_193_12 {E : js_E} {d : Nat} {σ : js_S} {x0 : Int} : js_J E d 193 12 [(0, x0)] [] σ = (if js_w x0 < 65 then js_J E d 193 24 [(0, x0)] [] σ else (if 90 < js_w x0 then js_J E d 193 24 [(0, x0)] [] σ else js_r E (0, 1) σ)) :=
  (j_iload_n q_193_12 rfl).trans <| (j_bi q_193_13 rfl).trans <| (j_cmpltB (t := 24) q_193_15 rfl ww_65).trans (js_ite (rfl) ((j_iload_n q_193_18 rfl).trans <| (j_bi q_193_19 rfl).trans <| (j_cmpleB (t := 30) q_193_21 rfl ww_90).trans (js_ite (rfl) ((j_iconst q_193_30).trans <| (j_goto (t := 35) q_193_31 rfl).trans <| j_breturn1 q_193_35 qr_193))))
theorem b_193_24 {E : js_E} {d : Nat} {σ : js_S} {x0 : Int} : js_J E d 193 24 [(0, x0)] [] σ = (if js_w x0 = 95 then js_r E (0, 1) σ else js_r E (0, 0) σ) :=
  (j_iload_n q_193_24 rfl).trans <| (j_bi q_193_25 rfl).trans <| (j_cmpneB (t := 34) q_193_27 rfl ww_95).trans (js_ite ((j_iconst q_193_30).trans <| (j_goto (t := 35) q_193_31 rfl).trans <| j_breturn1 q_193_35 qr_193) ((j_iconst q_193_34).trans <| j_breturn0 q_193_35 qr_193))
-- 194: VitalTwinModel.isDigit (I)Z
theorem b_194_0 {E : js_E} {d : Nat} {σ : js_S} {x0 : Int} : js_J E d 194 0 [(0, x0)] [] σ = (if js_w x0 < 48 then js_r E (0, 0) σ else (if 57 < js_w x0 then js_r E (0, 0) σ else js_r E (0, 1) σ)) :=
  (j_iload_n q_194_0 rfl).trans <| (j_bi q_194_1 rfl).trans <| (j_cmpltB (t := 16) q_194_3 rfl ww_48).trans (js_ite ((j_iconst q_194_16).trans <| j_breturn0 q_194_17 qr_194) ((j_iload_n q_194_6 rfl).trans <| (j_bi q_194_7 rfl).trans <| (j_cmpgtB (t := 16) q_194_9 rfl ww_57).trans (js_ite ((j_iconst q_194_16).trans <| j_breturn0 q_194_17 qr_194) ((j_iconst q_194_12).trans <| (j_goto (t := 17) q_194_13 rfl).trans <| j_breturn1 q_194_17 qr_194))))
