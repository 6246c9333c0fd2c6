/-! part 75.c06: block equations of the class's (and the law's helpers') methods 104 to 115 (printed by wip/whole/tools/gen71.py) -/
theorem qy_107 : vt_O 107 = 10 := by decide +kernel
theorem qr_107 : vt_rc.getD 107 0 = 2 := by decide +kernel
theorem ql_107 : vt_ml.getD 107 0 = 1 := by decide +kernel
theorem qy_109 : vt_O 109 = 1 := by decide +kernel
theorem qr_109 : vt_rc.getD 109 0 = 0 := by decide +kernel
theorem ql_109 : vt_ml.getD 109 0 = 2 := by decide +kernel
theorem qy_113 : vt_O 113 = 7 := by decide +kernel
theorem qr_113 : vt_rc.getD 113 0 = 0 := by decide +kernel
theorem ql_113 : vt_ml.getD 113 0 = 3 := by decide +kernel
theorem qy_114 : vt_O 114 = 1 := by decide +kernel
theorem qr_114 : vt_rc.getD 114 0 = 1 := by decide +kernel
theorem ql_114 : vt_ml.getD 114 0 = 6 := by decide +kernel
theorem qy_115 : vt_O 115 = 8 := by decide +kernel
theorem qr_115 : vt_rc.getD 115 0 = 0 := by decide +kernel
theorem ql_115 : vt_ml.getD 115 0 = 1 := by decide +kernel
theorem q_104_0 : js_I 104 0 = some (.iconst (-1), 1) := by decide +kernel
theorem q_104_1 : js_I 104 1 = some (.istore_n 1, 1) := by decide +kernel
theorem q_104_2 : js_I 104 2 = some (.iconst 0, 1) := by decide +kernel
theorem q_104_3 : js_I 104 3 = some (.istore_n 2, 1) := by decide +kernel
theorem q_104_4 : js_I 104 4 = some (.iconst 1, 1) := by decide +kernel
theorem q_104_5 : js_I 104 5 = some (.istore_n 3, 1) := by decide +kernel
theorem q_104_6 : js_I 104 6 = some (.iconst 0, 1) := by decide +kernel
theorem q_104_7 : js_I 104 7 = some (.istore 4, 2) := by decide +kernel
theorem q_104_9 : js_I 104 9 = some (.iload 4, 2) := by decide +kernel
theorem q_104_11 : js_I 104 11 = some (.ldc 52, 2) := by decide +kernel
theorem q_104_13 : js_I 104 13 = some (.if_icmp .ge 193, 3) := by decide +kernel
theorem q_104_16 : js_I 104 16 = some (.iload_n 3, 1) := by decide +kernel
theorem q_104_17 : js_I 104 17 = some (.ifCond .eq 189, 3) := by decide +kernel
theorem q_104_20 : js_I 104 20 = some (.aload_n 0, 1) := by decide +kernel
theorem q_104_21 : js_I 104 21 = some (.getfield 9, 3) := by decide +kernel
theorem q_104_24 : js_I 104 24 = some (.invokevirtual 89, 3) := by decide +kernel
theorem q_104_27 : js_I 104 27 = some (.aload_n 0, 1) := by decide +kernel
theorem q_104_28 : js_I 104 28 = some (.getfield 9, 3) := by decide +kernel
theorem q_104_31 : js_I 104 31 = some (.bipush 40, 2) := by decide +kernel
theorem q_104_33 : js_I 104 33 = some (.invokevirtual 46, 3) := by decide +kernel
theorem q_104_36 : js_I 104 36 = some (.aload_n 0, 1) := by decide +kernel
theorem q_104_37 : js_I 104 37 = some (.invokevirtual 92, 3) := by decide +kernel
theorem q_104_40 : js_I 104 40 = some (.aload_n 0, 1) := by decide +kernel
theorem q_104_41 : js_I 104 41 = some (.getfield 9, 3) := by decide +kernel
theorem q_104_44 : js_I 104 44 = some (.bipush 41, 2) := by decide +kernel
theorem q_104_46 : js_I 104 46 = some (.invokevirtual 80, 3) := by decide +kernel
theorem q_104_49 : js_I 104 49 = some (.aload_n 0, 1) := by decide +kernel
theorem q_104_50 : js_I 104 50 = some (.getfield 25, 3) := by decide +kernel
theorem q_104_53 : js_I 104 53 = some (.bipush 25, 2) := by decide +kernel
theorem q_104_55 : js_I 104 55 = some (.iconst 0, 1) := by decide +kernel
theorem q_104_56 : js_I 104 56 = some (.invokevirtual 95, 3) := by decide +kernel
theorem q_104_59 : js_I 104 59 = some (.istore 5, 2) := by decide +kernel
theorem q_104_61 : js_I 104 61 = some (.aload_n 0, 1) := by decide +kernel
theorem q_104_62 : js_I 104 62 = some (.getfield 25, 3) := by decide +kernel
theorem q_104_65 : js_I 104 65 = some (.getfield 209, 3) := by decide +kernel
theorem q_104_68 : js_I 104 68 = some (.istore 6, 2) := by decide +kernel
theorem q_104_70 : js_I 104 70 = some (.aload_n 0, 1) := by decide +kernel
theorem q_104_71 : js_I 104 71 = some (.aload_n 0, 1) := by decide +kernel
theorem q_104_72 : js_I 104 72 = some (.getfield 15, 3) := by decide +kernel
theorem q_104_75 : js_I 104 75 = some (.getfield 212, 3) := by decide +kernel
theorem q_104_78 : js_I 104 78 = some (.aconst_null, 1) := by decide +kernel
theorem q_104_79 : js_I 104 79 = some (.invokevirtual 215, 3) := by decide +kernel
theorem q_104_82 : js_I 104 82 = some (.aload_n 0, 1) := by decide +kernel
theorem q_104_83 : js_I 104 83 = some (.getfield 9, 3) := by decide +kernel
theorem q_104_86 : js_I 104 86 = some (.getfield 53, 3) := by decide +kernel
theorem q_104_89 : js_I 104 89 = some (.sipush 208, 3) := by decide +kernel
theorem q_104_92 : js_I 104 92 = some (.if_icmp .ne 7, 3) := by decide +kernel
theorem q_104_95 : js_I 104 95 = some (.iconst 1, 1) := by decide +kernel
theorem q_104_96 : js_I 104 96 = some (.goto 4, 3) := by decide +kernel
theorem q_104_99 : js_I 104 99 = some (.iconst 0, 1) := by decide +kernel
theorem q_104_100 : js_I 104 100 = some (.istore 7, 2) := by decide +kernel
theorem q_104_102 : js_I 104 102 = some (.iload 7, 2) := by decide +kernel
theorem q_104_104 : js_I 104 104 = some (.ifCond .eq 42, 3) := by decide +kernel
theorem q_104_107 : js_I 104 107 = some (.aload_n 0, 1) := by decide +kernel
theorem q_104_108 : js_I 104 108 = some (.getfield 25, 3) := by decide +kernel
theorem q_104_111 : js_I 104 111 = some (.bipush 24, 2) := by decide +kernel
theorem q_104_113 : js_I 104 113 = some (.iload_n 1, 1) := by decide +kernel
theorem q_104_114 : js_I 104 114 = some (.invokevirtual 95, 3) := by decide +kernel
theorem q_104_117 : js_I 104 117 = some (.istore_n 1, 1) := by decide +kernel
theorem q_104_118 : js_I 104 118 = some (.iload_n 2, 1) := by decide +kernel
theorem q_104_119 : js_I 104 119 = some (.aload_n 0, 1) := by decide +kernel
theorem q_104_120 : js_I 104 120 = some (.getfield 25, 3) := by decide +kernel
theorem q_104_123 : js_I 104 123 = some (.getfield 209, 3) := by decide +kernel
theorem q_104_126 : js_I 104 126 = some (.invokestatic 219, 3) := by decide +kernel
theorem q_104_129 : js_I 104 129 = some (.istore_n 2, 1) := by decide +kernel
theorem q_104_130 : js_I 104 130 = some (.aload_n 0, 1) := by decide +kernel
theorem q_104_131 : js_I 104 131 = some (.getfield 25, 3) := by decide +kernel
theorem q_104_134 : js_I 104 134 = some (.iload 6, 2) := by decide +kernel
theorem q_104_136 : js_I 104 136 = some (.putfield 209, 3) := by decide +kernel
theorem q_104_139 : js_I 104 139 = some (.aload_n 0, 1) := by decide +kernel
theorem q_104_140 : js_I 104 140 = some (.getfield 9, 3) := by decide +kernel
theorem q_104_143 : js_I 104 143 = some (.invokevirtual 89, 3) := by decide +kernel
theorem q_104_146 : js_I 104 146 = some (.aload_n 0, 1) := by decide +kernel
theorem q_104_147 : js_I 104 147 = some (.getfield 25, 3) := by decide +kernel
theorem q_104_150 : js_I 104 150 = some (.iload 5, 2) := by decide +kernel
theorem q_104_152 : js_I 104 152 = some (.invokevirtual 224, 3) := by decide +kernel
theorem q_104_155 : js_I 104 155 = some (.iload 7, 2) := by decide +kernel
theorem q_104_157 : js_I 104 157 = some (.ifCond .eq 20, 3) := by decide +kernel
theorem q_104_160 : js_I 104 160 = some (.aload_n 0, 1) := by decide +kernel
theorem q_104_161 : js_I 104 161 = some (.getfield 9, 3) := by decide +kernel
theorem q_104_164 : js_I 104 164 = some (.getfield 53, 3) := by decide +kernel
theorem q_104_167 : js_I 104 167 = some (.sipush 207, 3) := by decide +kernel
theorem q_104_170 : js_I 104 170 = some (.if_icmp .ne 7, 3) := by decide +kernel
theorem q_104_173 : js_I 104 173 = some (.iconst 1, 1) := by decide +kernel
theorem q_104_174 : js_I 104 174 = some (.goto 4, 3) := by decide +kernel
theorem q_104_177 : js_I 104 177 = some (.iconst 0, 1) := by decide +kernel
theorem q_104_178 : js_I 104 178 = some (.istore_n 3, 1) := by decide +kernel
theorem q_104_179 : js_I 104 179 = some (.iload 7, 2) := by decide +kernel
theorem q_104_181 : js_I 104 181 = some (.ifCond .eq 19, 3) := by decide +kernel
theorem q_104_184 : js_I 104 184 = some (.iload_n 3, 1) := by decide +kernel
theorem q_104_185 : js_I 104 185 = some (.ifCond .ne 15, 3) := by decide +kernel
theorem q_104_188 : js_I 104 188 = some (.aload_n 0, 1) := by decide +kernel
theorem q_104_189 : js_I 104 189 = some (.aload_n 0, 1) := by decide +kernel
theorem q_104_190 : js_I 104 190 = some (.getfield 15, 3) := by decide +kernel
theorem q_104_193 : js_I 104 193 = some (.getfield 212, 3) := by decide +kernel
theorem q_104_196 : js_I 104 196 = some (.aconst_null, 1) := by decide +kernel
theorem q_104_197 : js_I 104 197 = some (.invokevirtual 215, 3) := by decide +kernel
theorem q_104_200 : js_I 104 200 = some (.iinc 4 1, 3) := by decide +kernel
theorem q_104_203 : js_I 104 203 = some (.goto (-194), 3) := by decide +kernel
theorem q_104_206 : js_I 104 206 = some (.aload_n 0, 1) := by decide +kernel
theorem q_104_207 : js_I 104 207 = some (.getfield 25, 3) := by decide +kernel
theorem q_104_210 : js_I 104 210 = some (.iload_n 1, 1) := by decide +kernel
theorem q_104_211 : js_I 104 211 = some (.invokevirtual 227, 3) := by decide +kernel
theorem q_104_214 : js_I 104 214 = some (.aload_n 0, 1) := by decide +kernel
theorem q_104_215 : js_I 104 215 = some (.getfield 25, 3) := by decide +kernel
theorem q_104_218 : js_I 104 218 = some (.iload_n 2, 1) := by decide +kernel
theorem q_104_219 : js_I 104 219 = some (.aload_n 0, 1) := by decide +kernel
theorem q_104_220 : js_I 104 220 = some (.getfield 25, 3) := by decide +kernel
theorem q_104_223 : js_I 104 223 = some (.getfield 209, 3) := by decide +kernel
theorem q_104_226 : js_I 104 226 = some (.invokestatic 219, 3) := by decide +kernel
theorem q_104_229 : js_I 104 229 = some (.putfield 209, 3) := by decide +kernel
theorem q_104_232 : js_I 104 232 = some (.return_, 1) := by decide +kernel
theorem q_105_0 : js_I 105 0 = some (.aload_n 0, 1) := by decide +kernel
theorem q_105_1 : js_I 105 1 = some (.getfield 9, 3) := by decide +kernel
theorem q_105_4 : js_I 105 4 = some (.invokevirtual 89, 3) := by decide +kernel
theorem q_105_7 : js_I 105 7 = some (.aload_n 0, 1) := by decide +kernel
theorem q_105_8 : js_I 105 8 = some (.getfield 15, 3) := by decide +kernel
theorem q_105_11 : js_I 105 11 = some (.bipush 7, 2) := by decide +kernel
theorem q_105_13 : js_I 105 13 = some (.iconst 0, 1) := by decide +kernel
theorem q_105_14 : js_I 105 14 = some (.aload_n 0, 1) := by decide +kernel
theorem q_105_15 : js_I 105 15 = some (.getfield 9, 3) := by decide +kernel
theorem q_105_18 : js_I 105 18 = some (.invokevirtual 146, 3) := by decide +kernel
theorem q_105_21 : js_I 105 21 = some (.astore_n 1, 1) := by decide +kernel
theorem q_105_22 : js_I 105 22 = some (.aload_n 0, 1) := by decide +kernel
theorem q_105_23 : js_I 105 23 = some (.aload_n 1, 1) := by decide +kernel
theorem q_105_24 : js_I 105 24 = some (.invokevirtual 158, 3) := by decide +kernel
theorem q_105_27 : js_I 105 27 = some (.aload_n 0, 1) := by decide +kernel
theorem q_105_28 : js_I 105 28 = some (.getfield 9, 3) := by decide +kernel
theorem q_105_31 : js_I 105 31 = some (.bipush 61, 2) := by decide +kernel
theorem q_105_33 : js_I 105 33 = some (.invokevirtual 59, 3) := by decide +kernel
theorem q_105_36 : js_I 105 36 = some (.aload_n 0, 1) := by decide +kernel
theorem q_105_37 : js_I 105 37 = some (.getfield 26, 3) := by decide +kernel
theorem q_105_40 : js_I 105 40 = some (.iconst 0, 1) := by decide +kernel
theorem q_105_41 : js_I 105 41 = some (.invokevirtual 237, 3) := by decide +kernel
theorem q_105_44 : js_I 105 44 = some (.istore_n 2, 1) := by decide +kernel
theorem q_105_45 : js_I 105 45 = some (.aload_n 0, 1) := by decide +kernel
theorem q_105_46 : js_I 105 46 = some (.getfield 9, 3) := by decide +kernel
theorem q_105_49 : js_I 105 49 = some (.sipush 211, 3) := by decide +kernel
theorem q_105_52 : js_I 105 52 = some (.invokevirtual 59, 3) := by decide +kernel
theorem q_105_55 : js_I 105 55 = some (.aload_n 0, 1) := by decide +kernel
theorem q_105_56 : js_I 105 56 = some (.getfield 26, 3) := by decide +kernel
theorem q_105_59 : js_I 105 59 = some (.iconst 0, 1) := by decide +kernel
theorem q_105_60 : js_I 105 60 = some (.invokevirtual 237, 3) := by decide +kernel
theorem q_105_63 : js_I 105 63 = some (.istore_n 3, 1) := by decide +kernel
theorem q_105_64 : js_I 105 64 = some (.aload_n 0, 1) := by decide +kernel
theorem q_105_65 : js_I 105 65 = some (.getfield 26, 3) := by decide +kernel
theorem q_105_68 : js_I 105 68 = some (.iload_n 2, 1) := by decide +kernel
theorem q_105_69 : js_I 105 69 = some (.invokevirtual 245, 3) := by decide +kernel
theorem q_105_72 : js_I 105 72 = some (.aload_n 1, 1) := by decide +kernel
theorem q_105_73 : js_I 105 73 = some (.iconst 0, 1) := by decide +kernel
theorem q_105_74 : js_I 105 74 = some (.iload_n 2, 1) := by decide +kernel
theorem q_105_75 : js_I 105 75 = some (.iload_n 3, 1) := by decide +kernel
theorem q_105_76 : js_I 105 76 = some (.invokevirtual 248, 3) := by decide +kernel
theorem q_105_79 : js_I 105 79 = some (.aload_n 1, 1) := by decide +kernel
theorem q_105_80 : js_I 105 80 = some (.iconst 1, 1) := by decide +kernel
theorem q_105_81 : js_I 105 81 = some (.putfield 178, 3) := by decide +kernel
theorem q_105_84 : js_I 105 84 = some (.aload_n 0, 1) := by decide +kernel
theorem q_105_85 : js_I 105 85 = some (.getfield 25, 3) := by decide +kernel
theorem q_105_88 : js_I 105 88 = some (.iconst 0, 1) := by decide +kernel
theorem q_105_89 : js_I 105 89 = some (.iload_n 2, 1) := by decide +kernel
theorem q_105_90 : js_I 105 90 = some (.iload_n 2, 1) := by decide +kernel
theorem q_105_91 : js_I 105 91 = some (.iload_n 2, 1) := by decide +kernel
theorem q_105_92 : js_I 105 92 = some (.invokevirtual 171, 3) := by decide +kernel
theorem q_105_95 : js_I 105 95 = some (.aload_n 0, 1) := by decide +kernel
theorem q_105_96 : js_I 105 96 = some (.getfield 25, 3) := by decide +kernel
theorem q_105_99 : js_I 105 99 = some (.aload_n 1, 1) := by decide +kernel
theorem q_105_100 : js_I 105 100 = some (.iconst 0, 1) := by decide +kernel
theorem q_105_101 : js_I 105 101 = some (.invokevirtual 175, 3) := by decide +kernel
theorem q_105_104 : js_I 105 104 = some (.aload_n 0, 1) := by decide +kernel
theorem q_105_105 : js_I 105 105 = some (.getfield 25, 3) := by decide +kernel
theorem q_105_108 : js_I 105 108 = some (.getfield 209, 3) := by decide +kernel
theorem q_105_111 : js_I 105 111 = some (.istore 4, 2) := by decide +kernel
theorem q_105_113 : js_I 105 113 = some (.aload_n 0, 1) := by decide +kernel
theorem q_105_114 : js_I 105 114 = some (.getfield 25, 3) := by decide +kernel
theorem q_105_117 : js_I 105 117 = some (.getfield 251, 3) := by decide +kernel
theorem q_105_120 : js_I 105 120 = some (.istore 5, 2) := by decide +kernel
theorem q_105_122 : js_I 105 122 = some (.aload_n 0, 1) := by decide +kernel
theorem q_105_123 : js_I 105 123 = some (.getfield 25, 3) := by decide +kernel
theorem q_105_126 : js_I 105 126 = some (.iconst 0, 1) := by decide +kernel
theorem q_105_127 : js_I 105 127 = some (.iload_n 3, 1) := by decide +kernel
theorem q_105_128 : js_I 105 128 = some (.iload_n 3, 1) := by decide +kernel
theorem q_105_129 : js_I 105 129 = some (.iload_n 3, 1) := by decide +kernel
theorem q_105_130 : js_I 105 130 = some (.invokevirtual 171, 3) := by decide +kernel
theorem q_105_133 : js_I 105 133 = some (.aload_n 0, 1) := by decide +kernel
theorem q_105_134 : js_I 105 134 = some (.getfield 25, 3) := by decide +kernel
theorem q_105_137 : js_I 105 137 = some (.iconst 3, 1) := by decide +kernel
theorem q_105_138 : js_I 105 138 = some (.iconst 0, 1) := by decide +kernel
theorem q_105_139 : js_I 105 139 = some (.invokevirtual 95, 3) := by decide +kernel
theorem q_105_142 : js_I 105 142 = some (.pop, 1) := by decide +kernel
theorem q_105_143 : js_I 105 143 = some (.aload_n 0, 1) := by decide +kernel
theorem q_105_144 : js_I 105 144 = some (.getfield 25, 3) := by decide +kernel
theorem q_105_147 : js_I 105 147 = some (.aload_n 1, 1) := by decide +kernel
theorem q_105_148 : js_I 105 148 = some (.iload_n 2, 1) := by decide +kernel
theorem q_105_149 : js_I 105 149 = some (.iload_n 3, 1) := by decide +kernel
theorem q_105_150 : js_I 105 150 = some (.iconst 1, 1) := by decide +kernel
theorem q_105_151 : js_I 105 151 = some (.iadd, 1) := by decide +kernel
theorem q_105_152 : js_I 105 152 = some (.invokevirtual 254, 3) := by decide +kernel
theorem q_105_155 : js_I 105 155 = some (.aload_n 0, 1) := by decide +kernel
theorem q_105_156 : js_I 105 156 = some (.getfield 25, 3) := by decide +kernel
theorem q_105_159 : js_I 105 159 = some (.bipush 14, 2) := by decide +kernel
theorem q_105_161 : js_I 105 161 = some (.iconst 0, 1) := by decide +kernel
theorem q_105_162 : js_I 105 162 = some (.iconst 0, 1) := by decide +kernel
theorem q_105_163 : js_I 105 163 = some (.iconst 1, 1) := by decide +kernel
theorem q_105_164 : js_I 105 164 = some (.invokevirtual 171, 3) := by decide +kernel
theorem q_105_167 : js_I 105 167 = some (.aload_n 0, 1) := by decide +kernel
theorem q_105_168 : js_I 105 168 = some (.getfield 25, 3) := by decide +kernel
theorem q_105_171 : js_I 105 171 = some (.bipush 25, 2) := by decide +kernel
theorem q_105_173 : js_I 105 173 = some (.iconst 0, 1) := by decide +kernel
theorem q_105_174 : js_I 105 174 = some (.invokevirtual 95, 3) := by decide +kernel
theorem q_105_177 : js_I 105 177 = some (.istore 6, 2) := by decide +kernel
theorem q_105_179 : js_I 105 179 = some (.aload_n 0, 1) := by decide +kernel
theorem q_105_180 : js_I 105 180 = some (.getfield 25, 3) := by decide +kernel
theorem q_105_183 : js_I 105 183 = some (.getfield 209, 3) := by decide +kernel
theorem q_105_186 : js_I 105 186 = some (.iload 4, 2) := by decide +kernel
theorem q_105_188 : js_I 105 188 = some (.isub, 1) := by decide +kernel
theorem q_105_189 : js_I 105 189 = some (.istore 7, 2) := by decide +kernel
theorem q_105_191 : js_I 105 191 = some (.aload_n 0, 1) := by decide +kernel
theorem q_105_192 : js_I 105 192 = some (.aload_n 1, 1) := by decide +kernel
theorem q_105_193 : js_I 105 193 = some (.getfield 258, 3) := by decide +kernel
theorem q_105_196 : js_I 105 196 = some (.aconst_null, 1) := by decide +kernel
theorem q_105_197 : js_I 105 197 = some (.invokevirtual 215, 3) := by decide +kernel
theorem q_105_200 : js_I 105 200 = some (.aload_n 0, 1) := by decide +kernel
theorem q_105_201 : js_I 105 201 = some (.getfield 25, 3) := by decide +kernel
theorem q_105_204 : js_I 105 204 = some (.iconst 0, 1) := by decide +kernel
theorem q_105_205 : js_I 105 205 = some (.iconst 1, 1) := by decide +kernel
theorem q_105_206 : js_I 105 206 = some (.iconst 1, 1) := by decide +kernel
theorem q_105_207 : js_I 105 207 = some (.iconst 1, 1) := by decide +kernel
theorem q_105_208 : js_I 105 208 = some (.invokevirtual 171, 3) := by decide +kernel
theorem q_105_211 : js_I 105 211 = some (.aload_n 0, 1) := by decide +kernel
theorem q_105_212 : js_I 105 212 = some (.getfield 25, 3) := by decide +kernel
theorem q_105_215 : js_I 105 215 = some (.iconst 3, 1) := by decide +kernel
theorem q_105_216 : js_I 105 216 = some (.iconst 0, 1) := by decide +kernel
theorem q_105_217 : js_I 105 217 = some (.invokevirtual 95, 3) := by decide +kernel
theorem q_105_220 : js_I 105 220 = some (.pop, 1) := by decide +kernel
theorem q_105_221 : js_I 105 221 = some (.aload_n 0, 1) := by decide +kernel
theorem q_105_222 : js_I 105 222 = some (.getfield 25, 3) := by decide +kernel
theorem q_105_225 : js_I 105 225 = some (.aload_n 1, 1) := by decide +kernel
theorem q_105_226 : js_I 105 226 = some (.iload_n 2, 1) := by decide +kernel
theorem q_105_227 : js_I 105 227 = some (.iload_n 3, 1) := by decide +kernel
theorem q_105_228 : js_I 105 228 = some (.invokevirtual 254, 3) := by decide +kernel
theorem q_105_231 : js_I 105 231 = some (.aload_n 0, 1) := by decide +kernel
theorem q_105_232 : js_I 105 232 = some (.getfield 25, 3) := by decide +kernel
theorem q_105_235 : js_I 105 235 = some (.bipush 6, 2) := by decide +kernel
theorem q_105_237 : js_I 105 237 = some (.iconst 0, 1) := by decide +kernel
theorem q_105_238 : js_I 105 238 = some (.iload_n 2, 1) := by decide +kernel
theorem q_105_239 : js_I 105 239 = some (.iconst 1, 1) := by decide +kernel
theorem q_105_240 : js_I 105 240 = some (.iadd, 1) := by decide +kernel
theorem q_105_241 : js_I 105 241 = some (.iload_n 3, 1) := by decide +kernel
theorem q_105_242 : js_I 105 242 = some (.iconst 1, 1) := by decide +kernel
theorem q_105_243 : js_I 105 243 = some (.iadd, 1) := by decide +kernel
theorem q_105_244 : js_I 105 244 = some (.invokevirtual 171, 3) := by decide +kernel
theorem q_105_247 : js_I 105 247 = some (.aload_n 0, 1) := by decide +kernel
theorem q_105_248 : js_I 105 248 = some (.getfield 25, 3) := by decide +kernel
theorem q_105_251 : js_I 105 251 = some (.aload_n 1, 1) := by decide +kernel
theorem q_105_252 : js_I 105 252 = some (.iconst 0, 1) := by decide +kernel
theorem q_105_253 : js_I 105 253 = some (.invokevirtual 175, 3) := by decide +kernel
theorem q_105_256 : js_I 105 256 = some (.aload_n 0, 1) := by decide +kernel
theorem q_105_257 : js_I 105 257 = some (.getfield 25, 3) := by decide +kernel
theorem q_105_260 : js_I 105 260 = some (.bipush 24, 2) := by decide +kernel
theorem q_105_262 : js_I 105 262 = some (.iload 5, 2) := by decide +kernel
theorem q_105_264 : js_I 105 264 = some (.invokevirtual 95, 3) := by decide +kernel
theorem q_105_267 : js_I 105 267 = some (.pop, 1) := by decide +kernel
theorem q_105_268 : js_I 105 268 = some (.aload_n 0, 1) := by decide +kernel
theorem q_105_269 : js_I 105 269 = some (.getfield 25, 3) := by decide +kernel
theorem q_105_272 : js_I 105 272 = some (.iload 6, 2) := by decide +kernel
theorem q_105_274 : js_I 105 274 = some (.invokevirtual 224, 3) := by decide +kernel
theorem q_105_277 : js_I 105 277 = some (.iload_n 3, 1) := by decide +kernel
theorem q_105_278 : js_I 105 278 = some (.i2l, 1) := by decide +kernel
theorem q_105_279 : js_I 105 279 = some (.iload_n 2, 1) := by decide +kernel
theorem q_105_280 : js_I 105 280 = some (.i2l, 1) := by decide +kernel
theorem q_105_281 : js_I 105 281 = some (.lsub, 1) := by decide +kernel
theorem q_105_282 : js_I 105 282 = some (.lstore 8, 2) := by decide +kernel
theorem q_105_284 : js_I 105 284 = some (.aload_n 0, 1) := by decide +kernel
theorem q_105_285 : js_I 105 285 = some (.getfield 25, 3) := by decide +kernel
theorem q_105_288 : js_I 105 288 = some (.lload 8, 2) := by decide +kernel
theorem q_105_290 : js_I 105 290 = some (.aload_n 0, 1) := by decide +kernel
theorem q_105_291 : js_I 105 291 = some (.getfield 25, 3) := by decide +kernel
theorem q_105_294 : js_I 105 294 = some (.getfield 209, 3) := by decide +kernel
theorem q_105_297 : js_I 105 297 = some (.iload 4, 2) := by decide +kernel
theorem q_105_299 : js_I 105 299 = some (.isub, 1) := by decide +kernel
theorem q_105_300 : js_I 105 300 = some (.i2l, 1) := by decide +kernel
theorem q_105_301 : js_I 105 301 = some (.lmul, 1) := by decide +kernel
theorem q_105_302 : js_I 105 302 = some (.iload 7, 2) := by decide +kernel
theorem q_105_304 : js_I 105 304 = some (.i2l, 1) := by decide +kernel
theorem q_105_305 : js_I 105 305 = some (.ladd, 1) := by decide +kernel
theorem q_105_306 : js_I 105 306 = some (.invokevirtual 261, 3) := by decide +kernel
theorem q_105_309 : js_I 105 309 = some (.return_, 1) := by decide +kernel
theorem q_106_0 : js_I 106 0 = some (.aload_n 0, 1) := by decide +kernel
theorem q_106_1 : js_I 106 1 = some (.getfield 9, 3) := by decide +kernel
theorem q_106_4 : js_I 106 4 = some (.getfield 110, 3) := by decide +kernel
theorem q_106_7 : js_I 106 7 = some (.istore_n 1, 1) := by decide +kernel
theorem q_106_8 : js_I 106 8 = some (.aload_n 0, 1) := by decide +kernel
theorem q_106_9 : js_I 106 9 = some (.getfield 15, 3) := by decide +kernel
theorem q_106_12 : js_I 106 12 = some (.aload_n 0, 1) := by decide +kernel
theorem q_106_13 : js_I 106 13 = some (.getfield 9, 3) := by decide +kernel
theorem q_106_16 : js_I 106 16 = some (.invokevirtual 181, 3) := by decide +kernel
theorem q_106_19 : js_I 106 19 = some (.astore_n 2, 1) := by decide +kernel
theorem q_106_20 : js_I 106 20 = some (.aload_n 2, 1) := by decide +kernel
theorem q_106_21 : js_I 106 21 = some (.ifnull 13, 3) := by decide +kernel
theorem q_106_24 : js_I 106 24 = some (.aload_n 2, 1) := by decide +kernel
theorem q_106_25 : js_I 106 25 = some (.getfield 117, 3) := by decide +kernel
theorem q_106_28 : js_I 106 28 = some (.invokestatic 185, 3) := by decide +kernel
theorem q_106_31 : js_I 106 31 = some (.ifCond .ne 14, 3) := by decide +kernel
theorem q_106_45 : js_I 106 45 = some (.aload_n 0, 1) := by decide +kernel
theorem q_106_46 : js_I 106 46 = some (.getfield 9, 3) := by decide +kernel
theorem q_106_49 : js_I 106 49 = some (.invokevirtual 89, 3) := by decide +kernel
theorem q_106_34 : js_I 106 34 = some (.aload_n 0, 1) := by decide +kernel
theorem q_106_35 : js_I 106 35 = some (.getfield 9, 3) := by decide +kernel
theorem q_106_38 : js_I 106 38 = some (.iconst 3, 1) := by decide +kernel
theorem q_106_39 : js_I 106 39 = some (.iload_n 1, 1) := by decide +kernel
theorem q_106_40 : js_I 106 40 = some (.invokevirtual 128, 3) := by decide +kernel
theorem q_106_43 : js_I 106 43 = some (.aconst_null, 1) := by decide +kernel
theorem q_106_44 : js_I 106 44 = some (.areturn, 1) := by decide +kernel
theorem q_106_52 : js_I 106 52 = some (.aload_n 0, 1) := by decide +kernel
theorem q_106_53 : js_I 106 53 = some (.getfield 35, 3) := by decide +kernel
theorem q_106_56 : js_I 106 56 = some (.aload_n 2, 1) := by decide +kernel
theorem q_106_57 : js_I 106 57 = some (.iload_n 1, 1) := by decide +kernel
theorem q_106_58 : js_I 106 58 = some (.invokevirtual 189, 3) := by decide +kernel
theorem q_106_61 : js_I 106 61 = some (.aload_n 2, 1) := by decide +kernel
theorem q_106_62 : js_I 106 62 = some (.areturn, 1) := by decide +kernel
theorem q_107_0 : js_I 107 0 = some (.iload_n 0, 1) := by decide +kernel
theorem q_107_1 : js_I 107 1 = some (.iconst 2, 1) := by decide +kernel
theorem q_107_2 : js_I 107 2 = some (.if_icmp .eq 24, 3) := by decide +kernel
theorem q_107_26 : js_I 107 26 = some (.iconst 1, 1) := by decide +kernel
theorem q_107_27 : js_I 107 27 = some (.goto 4, 3) := by decide +kernel
theorem q_107_31 : js_I 107 31 = some (.ireturn, 1) := by decide +kernel
theorem q_107_5 : js_I 107 5 = some (.iload_n 0, 1) := by decide +kernel
theorem q_107_6 : js_I 107 6 = some (.iconst 3, 1) := by decide +kernel
theorem q_107_7 : js_I 107 7 = some (.if_icmp .eq 19, 3) := by decide +kernel
theorem q_107_10 : js_I 107 10 = some (.iload_n 0, 1) := by decide +kernel
theorem q_107_11 : js_I 107 11 = some (.iconst 4, 1) := by decide +kernel
theorem q_107_12 : js_I 107 12 = some (.if_icmp .eq 14, 3) := by decide +kernel
theorem q_107_15 : js_I 107 15 = some (.iload_n 0, 1) := by decide +kernel
theorem q_107_16 : js_I 107 16 = some (.iconst 5, 1) := by decide +kernel
theorem q_107_17 : js_I 107 17 = some (.if_icmp .eq 9, 3) := by decide +kernel
theorem q_107_20 : js_I 107 20 = some (.iload_n 0, 1) := by decide +kernel
theorem q_107_21 : js_I 107 21 = some (.bipush 6, 2) := by decide +kernel
theorem q_107_23 : js_I 107 23 = some (.if_icmp .ne 7, 3) := by decide +kernel
theorem q_107_30 : js_I 107 30 = some (.iconst 0, 1) := by decide +kernel
theorem q_108_0 : js_I 108 0 = some (.aload_n 0, 1) := by decide +kernel
theorem q_108_1 : js_I 108 1 = some (.getfield 25, 3) := by decide +kernel
theorem q_108_4 : js_I 108 4 = some (.getfield 192, 3) := by decide +kernel
theorem q_108_7 : js_I 108 7 = some (.istore_n 2, 1) := by decide +kernel
theorem q_108_8 : js_I 108 8 = some (.aload_n 1, 1) := by decide +kernel
theorem q_108_9 : js_I 108 9 = some (.getfield 160, 3) := by decide +kernel
theorem q_108_12 : js_I 108 12 = some (.ifCond .eq 33, 3) := by decide +kernel
theorem q_108_15 : js_I 108 15 = some (.aload_n 0, 1) := by decide +kernel
theorem q_108_16 : js_I 108 16 = some (.getfield 35, 3) := by decide +kernel
theorem q_108_19 : js_I 108 19 = some (.aload_n 1, 1) := by decide +kernel
theorem q_108_20 : js_I 108 20 = some (.invokevirtual 195, 3) := by decide +kernel
theorem q_108_23 : js_I 108 23 = some (.aload_n 0, 1) := by decide +kernel
theorem q_108_24 : js_I 108 24 = some (.getfield 25, 3) := by decide +kernel
theorem q_108_27 : js_I 108 27 = some (.aload_n 0, 1) := by decide +kernel
theorem q_108_28 : js_I 108 28 = some (.getfield 35, 3) := by decide +kernel
theorem q_108_31 : js_I 108 31 = some (.getfield 198, 3) := by decide +kernel
theorem q_108_34 : js_I 108 34 = some (.aload_n 0, 1) := by decide +kernel
theorem q_108_35 : js_I 108 35 = some (.getfield 35, 3) := by decide +kernel
theorem q_108_38 : js_I 108 38 = some (.getfield 199, 3) := by decide +kernel
theorem q_108_41 : js_I 108 41 = some (.invokevirtual 200, 3) := by decide +kernel
theorem q_108_44 : js_I 108 44 = some (.pop, 1) := by decide +kernel
theorem q_108_45 : js_I 108 45 = some (.aload_n 0, 1) := by decide +kernel
theorem q_108_46 : js_I 108 46 = some (.getfield 9, 3) := by decide +kernel
theorem q_108_49 : js_I 108 49 = some (.bipush 61, 2) := by decide +kernel
theorem q_108_51 : js_I 108 51 = some (.invokevirtual 59, 3) := by decide +kernel
theorem q_108_54 : js_I 108 54 = some (.aload_n 0, 1) := by decide +kernel
theorem q_108_55 : js_I 108 55 = some (.getfield 35, 3) := by decide +kernel
theorem q_108_58 : js_I 108 58 = some (.invokevirtual 62, 3) := by decide +kernel
theorem q_108_61 : js_I 108 61 = some (.aload_n 0, 1) := by decide +kernel
theorem q_108_62 : js_I 108 62 = some (.getfield 35, 3) := by decide +kernel
theorem q_108_65 : js_I 108 65 = some (.aload_n 1, 1) := by decide +kernel
theorem q_108_66 : js_I 108 66 = some (.getfield 65, 3) := by decide +kernel
theorem q_108_69 : js_I 108 69 = some (.aload_n 1, 1) := by decide +kernel
theorem q_108_70 : js_I 108 70 = some (.getfield 70, 3) := by decide +kernel
theorem q_108_73 : js_I 108 73 = some (.aload_n 1, 1) := by decide +kernel
theorem q_108_74 : js_I 108 74 = some (.getfield 73, 3) := by decide +kernel
theorem q_108_77 : js_I 108 77 = some (.invokevirtual 76, 3) := by decide +kernel
theorem q_108_80 : js_I 108 80 = some (.aload_n 1, 1) := by decide +kernel
theorem q_108_81 : js_I 108 81 = some (.getfield 160, 3) := by decide +kernel
theorem q_108_84 : js_I 108 84 = some (.ifCond .eq 72, 3) := by decide +kernel
theorem q_108_156 : js_I 108 156 = some (.aload_n 0, 1) := by decide +kernel
theorem q_108_157 : js_I 108 157 = some (.getfield 25, 3) := by decide +kernel
theorem q_108_160 : js_I 108 160 = some (.aload_n 1, 1) := by decide +kernel
theorem q_108_161 : js_I 108 161 = some (.iconst 0, 1) := by decide +kernel
theorem q_108_162 : js_I 108 162 = some (.invokevirtual 175, 3) := by decide +kernel
theorem q_108_87 : js_I 108 87 = some (.aload_n 0, 1) := by decide +kernel
theorem q_108_88 : js_I 108 88 = some (.getfield 25, 3) := by decide +kernel
theorem q_108_91 : js_I 108 91 = some (.aload_n 0, 1) := by decide +kernel
theorem q_108_92 : js_I 108 92 = some (.getfield 35, 3) := by decide +kernel
theorem q_108_95 : js_I 108 95 = some (.getfield 198, 3) := by decide +kernel
theorem q_108_98 : js_I 108 98 = some (.aload_n 0, 1) := by decide +kernel
theorem q_108_99 : js_I 108 99 = some (.getfield 35, 3) := by decide +kernel
theorem q_108_102 : js_I 108 102 = some (.getfield 199, 3) := by decide +kernel
theorem q_108_105 : js_I 108 105 = some (.invokevirtual 200, 3) := by decide +kernel
theorem q_108_108 : js_I 108 108 = some (.pop, 1) := by decide +kernel
theorem q_108_109 : js_I 108 109 = some (.aload_n 0, 1) := by decide +kernel
theorem q_108_110 : js_I 108 110 = some (.getfield 25, 3) := by decide +kernel
theorem q_108_113 : js_I 108 113 = some (.iload_n 2, 1) := by decide +kernel
theorem q_108_114 : js_I 108 114 = some (.invokevirtual 203, 3) := by decide +kernel
theorem q_108_117 : js_I 108 117 = some (.aload_n 0, 1) := by decide +kernel
theorem q_108_118 : js_I 108 118 = some (.getfield 25, 3) := by decide +kernel
theorem q_108_121 : js_I 108 121 = some (.iconst 3, 1) := by decide +kernel
theorem q_108_122 : js_I 108 122 = some (.iconst 0, 1) := by decide +kernel
theorem q_108_123 : js_I 108 123 = some (.invokevirtual 95, 3) := by decide +kernel
theorem q_108_126 : js_I 108 126 = some (.pop, 1) := by decide +kernel
theorem q_108_127 : js_I 108 127 = some (.aload_n 0, 1) := by decide +kernel
theorem q_108_128 : js_I 108 128 = some (.getfield 25, 3) := by decide +kernel
theorem q_108_131 : js_I 108 131 = some (.iload_n 2, 1) := by decide +kernel
theorem q_108_132 : js_I 108 132 = some (.iconst 1, 1) := by decide +kernel
theorem q_108_133 : js_I 108 133 = some (.iadd, 1) := by decide +kernel
theorem q_108_134 : js_I 108 134 = some (.invokevirtual 203, 3) := by decide +kernel
theorem q_108_137 : js_I 108 137 = some (.aload_n 0, 1) := by decide +kernel
theorem q_108_138 : js_I 108 138 = some (.getfield 25, 3) := by decide +kernel
theorem q_108_141 : js_I 108 141 = some (.aload_n 1, 1) := by decide +kernel
theorem q_108_142 : js_I 108 142 = some (.invokevirtual 206, 3) := by decide +kernel
theorem q_108_145 : js_I 108 145 = some (.aload_n 0, 1) := by decide +kernel
theorem q_108_146 : js_I 108 146 = some (.getfield 25, 3) := by decide +kernel
theorem q_108_149 : js_I 108 149 = some (.iload_n 2, 1) := by decide +kernel
theorem q_108_150 : js_I 108 150 = some (.putfield 192, 3) := by decide +kernel
theorem q_108_153 : js_I 108 153 = some (.goto 12, 3) := by decide +kernel
theorem q_108_165 : js_I 108 165 = some (.return_, 1) := by decide +kernel
theorem q_109_0 : js_I 109 0 = some (.aload_n 0, 1) := by decide +kernel
theorem q_109_1 : js_I 109 1 = some (.iconst 5, 1) := by decide +kernel
theorem q_109_2 : js_I 109 2 = some (.aload_n 1, 1) := by decide +kernel
theorem q_109_3 : js_I 109 3 = some (.getfield 81, 3) := by decide +kernel
theorem q_109_6 : js_I 109 6 = some (.aload_n 1, 1) := by decide +kernel
theorem q_109_7 : js_I 109 7 = some (.getfield 88, 3) := by decide +kernel
theorem q_109_10 : js_I 109 10 = some (.iconst 1, 1) := by decide +kernel
theorem q_109_11 : js_I 109 11 = some (.iconst 0, 1) := by decide +kernel
theorem q_109_12 : js_I 109 12 = some (.aload_n 1, 1) := by decide +kernel
theorem q_109_13 : js_I 109 13 = some (.invokestatic 84, 3) := by decide +kernel
theorem q_109_16 : js_I 109 16 = some (.invokevirtual 74, 3) := by decide +kernel
theorem q_109_19 : js_I 109 19 = some (.return_, 1) := by decide +kernel
theorem q_110_0 : js_I 110 0 = some (.iconst 0, 1) := by decide +kernel
theorem q_110_1 : js_I 110 1 = some (.iload_n 1, 1) := by decide +kernel
theorem q_110_2 : js_I 110 2 = some (.invokestatic 104, 3) := by decide +kernel
theorem q_110_5 : js_I 110 5 = some (.istore_n 2, 1) := by decide +kernel
theorem q_110_6 : js_I 110 6 = some (.iload_n 2, 1) := by decide +kernel
theorem q_110_7 : js_I 110 7 = some (.aload_n 0, 1) := by decide +kernel
theorem q_110_8 : js_I 110 8 = some (.getfield 31, 3) := by decide +kernel
theorem q_110_11 : js_I 110 11 = some (.if_icmp .ge 24, 3) := by decide +kernel
theorem q_110_14 : js_I 110 14 = some (.aload_n 0, 1) := by decide +kernel
theorem q_110_15 : js_I 110 15 = some (.iload_n 2, 1) := by decide +kernel
theorem q_110_16 : js_I 110 16 = some (.invokevirtual 50, 3) := by decide +kernel
theorem q_110_35 : js_I 110 35 = some (.return_, 1) := by decide +kernel
theorem q_110_19 : js_I 110 19 = some (.astore_n 3, 1) := by decide +kernel
theorem q_110_20 : js_I 110 20 = some (.aload_n 3, 1) := by decide +kernel
theorem q_110_21 : js_I 110 21 = some (.ifnull 8, 3) := by decide +kernel
theorem q_110_24 : js_I 110 24 = some (.aload_n 3, 1) := by decide +kernel
theorem q_110_25 : js_I 110 25 = some (.iconst 0, 1) := by decide +kernel
theorem q_110_26 : js_I 110 26 = some (.putfield 60, 3) := by decide +kernel
theorem q_110_29 : js_I 110 29 = some (.iinc 2 1, 3) := by decide +kernel
theorem q_110_32 : js_I 110 32 = some (.goto (-26), 3) := by decide +kernel
theorem q_111_0 : js_I 111 0 = some (.aload_n 0, 1) := by decide +kernel
theorem q_111_1 : js_I 111 1 = some (.getfield 46, 3) := by decide +kernel
theorem q_111_4 : js_I 111 4 = some (.sipush 401, 3) := by decide +kernel
theorem q_111_7 : js_I 111 7 = some (.if_icmp .ge 29, 3) := by decide +kernel
theorem q_111_10 : js_I 111 10 = some (.aload_n 0, 1) := by decide +kernel
theorem q_111_11 : js_I 111 11 = some (.getfield 30, 3) := by decide +kernel
theorem q_111_14 : js_I 111 14 = some (.aload_n 0, 1) := by decide +kernel
theorem q_111_15 : js_I 111 15 = some (.getfield 46, 3) := by decide +kernel
theorem q_111_18 : js_I 111 18 = some (.aload_n 0, 1) := by decide +kernel
theorem q_111_19 : js_I 111 19 = some (.getfield 55, 3) := by decide +kernel
theorem q_111_22 : js_I 111 22 = some (.iastore, 1) := by decide +kernel
theorem q_111_23 : js_I 111 23 = some (.aload_n 0, 1) := by decide +kernel
theorem q_111_24 : js_I 111 24 = some (.getfield 33, 3) := by decide +kernel
theorem q_111_27 : js_I 111 27 = some (.aload_n 0, 1) := by decide +kernel
theorem q_111_28 : js_I 111 28 = some (.getfield 46, 3) := by decide +kernel
theorem q_111_31 : js_I 111 31 = some (.aload_n 0, 1) := by decide +kernel
theorem q_111_32 : js_I 111 32 = some (.getfield 61, 3) := by decide +kernel
theorem q_111_35 : js_I 111 35 = some (.iastore, 1) := by decide +kernel
theorem q_111_36 : js_I 111 36 = some (.aload_n 0, 1) := by decide +kernel
theorem q_111_37 : js_I 111 37 = some (.dup, 1) := by decide +kernel
theorem q_111_38 : js_I 111 38 = some (.getfield 46, 3) := by decide +kernel
theorem q_111_41 : js_I 111 41 = some (.iconst 1, 1) := by decide +kernel
theorem q_111_42 : js_I 111 42 = some (.iadd, 1) := by decide +kernel
theorem q_111_43 : js_I 111 43 = some (.putfield 46, 3) := by decide +kernel
theorem q_111_46 : js_I 111 46 = some (.aload_n 0, 1) := by decide +kernel
theorem q_111_47 : js_I 111 47 = some (.invokevirtual 49, 3) := by decide +kernel
theorem q_111_50 : js_I 111 50 = some (.return_, 1) := by decide +kernel
theorem q_112_0 : js_I 112 0 = some (.aload_n 0, 1) := by decide +kernel
theorem q_112_1 : js_I 112 1 = some (.getfield 17, 3) := by decide +kernel
theorem q_112_4 : js_I 112 4 = some (.sipush 214, 3) := by decide +kernel
theorem q_112_7 : js_I 112 7 = some (.invokevirtual 80, 3) := by decide +kernel
theorem q_112_10 : js_I 112 10 = some (.aload_n 0, 1) := by decide +kernel
theorem q_112_11 : js_I 112 11 = some (.getfield 27, 3) := by decide +kernel
theorem q_112_14 : js_I 112 14 = some (.aload_n 0, 1) := by decide +kernel
theorem q_112_15 : js_I 112 15 = some (.getfield 27, 3) := by decide +kernel
theorem q_112_18 : js_I 112 18 = some (.getfield 83, 3) := by decide +kernel
theorem q_112_21 : js_I 112 21 = some (.getfield 87, 3) := by decide +kernel
theorem q_112_24 : js_I 112 24 = some (.putfield 92, 3) := by decide +kernel
theorem q_112_27 : js_I 112 27 = some (.aload_n 0, 1) := by decide +kernel
theorem q_112_28 : js_I 112 28 = some (.getfield 40, 3) := by decide +kernel
theorem q_112_31 : js_I 112 31 = some (.aload_n 0, 1) := by decide +kernel
theorem q_112_32 : js_I 112 32 = some (.getfield 27, 3) := by decide +kernel
theorem q_112_35 : js_I 112 35 = some (.getfield 95, 3) := by decide +kernel
theorem q_112_38 : js_I 112 38 = some (.aconst_null, 1) := by decide +kernel
theorem q_112_39 : js_I 112 39 = some (.invokevirtual 98, 3) := by decide +kernel
theorem q_112_42 : js_I 112 42 = some (.aload_n 0, 1) := by decide +kernel
theorem q_112_43 : js_I 112 43 = some (.getfield 27, 3) := by decide +kernel
theorem q_112_46 : js_I 112 46 = some (.getfield 83, 3) := by decide +kernel
theorem q_112_49 : js_I 112 49 = some (.bipush 29, 2) := by decide +kernel
theorem q_112_51 : js_I 112 51 = some (.iconst 0, 1) := by decide +kernel
theorem q_112_52 : js_I 112 52 = some (.invokevirtual 102, 3) := by decide +kernel
theorem q_112_55 : js_I 112 55 = some (.pop, 1) := by decide +kernel
theorem q_112_56 : js_I 112 56 = some (.aload_n 0, 1) := by decide +kernel
theorem q_112_57 : js_I 112 57 = some (.getfield 27, 3) := by decide +kernel
theorem q_112_60 : js_I 112 60 = some (.aload_n 0, 1) := by decide +kernel
theorem q_112_61 : js_I 112 61 = some (.getfield 27, 3) := by decide +kernel
theorem q_112_64 : js_I 112 64 = some (.getfield 83, 3) := by decide +kernel
theorem q_112_67 : js_I 112 67 = some (.getfield 106, 3) := by decide +kernel
theorem q_112_70 : js_I 112 70 = some (.putfield 109, 3) := by decide +kernel
theorem q_112_73 : js_I 112 73 = some (.aload_n 0, 1) := by decide +kernel
theorem q_112_74 : js_I 112 74 = some (.getfield 27, 3) := by decide +kernel
theorem q_112_77 : js_I 112 77 = some (.getfield 83, 3) := by decide +kernel
theorem q_112_80 : js_I 112 80 = some (.invokevirtual 110, 3) := by decide +kernel
theorem q_112_83 : js_I 112 83 = some (.aload_n 0, 1) := by decide +kernel
theorem q_112_84 : js_I 112 84 = some (.getfield 17, 3) := by decide +kernel
theorem q_112_87 : js_I 112 87 = some (.getfield 54, 3) := by decide +kernel
theorem q_112_90 : js_I 112 90 = some (.ifCond .eq 18, 3) := by decide +kernel
theorem q_112_93 : js_I 112 93 = some (.aload_n 0, 1) := by decide +kernel
theorem q_112_94 : js_I 112 94 = some (.getfield 17, 3) := by decide +kernel
theorem q_112_97 : js_I 112 97 = some (.iconst 1, 1) := by decide +kernel
theorem q_112_98 : js_I 112 98 = some (.aload_n 0, 1) := by decide +kernel
theorem q_112_99 : js_I 112 99 = some (.getfield 17, 3) := by decide +kernel
theorem q_112_102 : js_I 112 102 = some (.getfield 70, 3) := by decide +kernel
theorem q_112_105 : js_I 112 105 = some (.invokevirtual 73, 3) := by decide +kernel
theorem q_112_108 : js_I 112 108 = some (.aload_n 0, 1) := by decide +kernel
theorem q_112_109 : js_I 112 109 = some (.getfield 27, 3) := by decide +kernel
theorem q_112_112 : js_I 112 112 = some (.invokevirtual 113, 3) := by decide +kernel
theorem q_112_115 : js_I 112 115 = some (.aload_n 0, 1) := by decide +kernel
theorem q_112_116 : js_I 112 116 = some (.getfield 27, 3) := by decide +kernel
theorem q_112_119 : js_I 112 119 = some (.getfield 83, 3) := by decide +kernel
theorem q_112_122 : js_I 112 122 = some (.getfield 87, 3) := by decide +kernel
theorem q_112_125 : js_I 112 125 = some (.sipush 8192, 3) := by decide +kernel
theorem q_112_128 : js_I 112 128 = some (.if_icmp .gt 29, 3) := by decide +kernel
theorem q_112_131 : js_I 112 131 = some (.aload_n 0, 1) := by decide +kernel
theorem q_112_132 : js_I 112 132 = some (.getfield 27, 3) := by decide +kernel
theorem q_112_135 : js_I 112 135 = some (.getfield 116, 3) := by decide +kernel
theorem q_112_138 : js_I 112 138 = some (.aload_n 0, 1) := by decide +kernel
theorem q_112_139 : js_I 112 139 = some (.getfield 23, 3) := by decide +kernel
theorem q_112_142 : js_I 112 142 = some (.if_icmp .gt 15, 3) := by decide +kernel
theorem q_112_145 : js_I 112 145 = some (.aload_n 0, 1) := by decide +kernel
theorem q_112_146 : js_I 112 146 = some (.getfield 27, 3) := by decide +kernel
theorem q_112_149 : js_I 112 149 = some (.getfield 109, 3) := by decide +kernel
theorem q_112_152 : js_I 112 152 = some (.ldc 119, 2) := by decide +kernel
theorem q_112_154 : js_I 112 154 = some (.if_icmp .le 19, 3) := by decide +kernel
theorem q_112_157 : js_I 112 157 = some (.aload_n 0, 1) := by decide +kernel
theorem q_112_158 : js_I 112 158 = some (.getfield 17, 3) := by decide +kernel
theorem q_112_161 : js_I 112 161 = some (.bipush 11, 2) := by decide +kernel
theorem q_112_163 : js_I 112 163 = some (.aload_n 0, 1) := by decide +kernel
theorem q_112_164 : js_I 112 164 = some (.getfield 17, 3) := by decide +kernel
theorem q_112_167 : js_I 112 167 = some (.getfield 70, 3) := by decide +kernel
theorem q_112_170 : js_I 112 170 = some (.invokevirtual 73, 3) := by decide +kernel
theorem q_112_173 : js_I 112 173 = some (.return_, 1) := by decide +kernel
theorem q_113_0 : js_I 113 0 = some (.aload_n 0, 1) := by decide +kernel
theorem q_113_1 : js_I 113 1 = some (.aload_n 0, 1) := by decide +kernel
theorem q_113_2 : js_I 113 2 = some (.getfield 12, 3) := by decide +kernel
theorem q_113_5 : js_I 113 5 = some (.aload_n 0, 1) := by decide +kernel
theorem q_113_6 : js_I 113 6 = some (.getfield 35, 3) := by decide +kernel
theorem q_113_9 : js_I 113 9 = some (.invokevirtual 107, 3) := by decide +kernel
theorem q_113_12 : js_I 113 12 = some (.putfield 35, 3) := by decide +kernel
theorem q_113_15 : js_I 113 15 = some (.iconst 0, 1) := by decide +kernel
theorem q_113_16 : js_I 113 16 = some (.istore_n 1, 1) := by decide +kernel
theorem q_113_17 : js_I 113 17 = some (.iload_n 1, 1) := by decide +kernel
theorem q_113_18 : js_I 113 18 = some (.aload_n 0, 1) := by decide +kernel
theorem q_113_19 : js_I 113 19 = some (.getfield 31, 3) := by decide +kernel
theorem q_113_22 : js_I 113 22 = some (.if_icmp .ge 57, 3) := by decide +kernel
theorem q_113_25 : js_I 113 25 = some (.aload_n 0, 1) := by decide +kernel
theorem q_113_26 : js_I 113 26 = some (.iload_n 1, 1) := by decide +kernel
theorem q_113_27 : js_I 113 27 = some (.invokevirtual 50, 3) := by decide +kernel
theorem q_113_79 : js_I 113 79 = some (.return_, 1) := by decide +kernel
theorem q_113_30 : js_I 113 30 = some (.astore_n 2, 1) := by decide +kernel
theorem q_113_31 : js_I 113 31 = some (.aload_n 2, 1) := by decide +kernel
theorem q_113_32 : js_I 113 32 = some (.ifnull 41, 3) := by decide +kernel
theorem q_113_35 : js_I 113 35 = some (.aload_n 2, 1) := by decide +kernel
theorem q_113_36 : js_I 113 36 = some (.getfield 111, 3) := by decide +kernel
theorem q_113_39 : js_I 113 39 = some (.ifCond .lt 34, 3) := by decide +kernel
theorem q_113_42 : js_I 113 42 = some (.aload_n 2, 1) := by decide +kernel
theorem q_113_43 : js_I 113 43 = some (.getfield 111, 3) := by decide +kernel
theorem q_113_46 : js_I 113 46 = some (.sipush 401, 3) := by decide +kernel
theorem q_113_49 : js_I 113 49 = some (.if_icmp .ge 24, 3) := by decide +kernel
theorem q_113_52 : js_I 113 52 = some (.aload_n 2, 1) := by decide +kernel
theorem q_113_53 : js_I 113 53 = some (.dup, 1) := by decide +kernel
theorem q_113_54 : js_I 113 54 = some (.getfield 114, 3) := by decide +kernel
theorem q_113_57 : js_I 113 57 = some (.aload_n 0, 1) := by decide +kernel
theorem q_113_58 : js_I 113 58 = some (.getfield 12, 3) := by decide +kernel
theorem q_113_61 : js_I 113 61 = some (.getfield 117, 3) := by decide +kernel
theorem q_113_64 : js_I 113 64 = some (.aload_n 2, 1) := by decide +kernel
theorem q_113_65 : js_I 113 65 = some (.getfield 111, 3) := by decide +kernel
theorem q_113_68 : js_I 113 68 = some (.iaload, 1) := by decide +kernel
theorem q_113_69 : js_I 113 69 = some (.iadd, 1) := by decide +kernel
theorem q_113_70 : js_I 113 70 = some (.putfield 114, 3) := by decide +kernel
theorem q_113_73 : js_I 113 73 = some (.iinc 1 1, 3) := by decide +kernel
theorem q_113_76 : js_I 113 76 = some (.goto (-59), 3) := by decide +kernel
theorem q_114_0 : js_I 114 0 = some (.iload_n 1, 1) := by decide +kernel
theorem q_114_1 : js_I 114 1 = some (.istore_n 2, 1) := by decide +kernel
theorem q_114_2 : js_I 114 2 = some (.iconst 0, 1) := by decide +kernel
theorem q_114_3 : js_I 114 3 = some (.istore_n 3, 1) := by decide +kernel
theorem q_114_4 : js_I 114 4 = some (.iload_n 3, 1) := by decide +kernel
theorem q_114_5 : js_I 114 5 = some (.aload_n 0, 1) := by decide +kernel
theorem q_114_6 : js_I 114 6 = some (.getfield 46, 3) := by decide +kernel
theorem q_114_9 : js_I 114 9 = some (.if_icmp .ge 56, 3) := by decide +kernel
theorem q_114_12 : js_I 114 12 = some (.iload_n 3, 1) := by decide +kernel
theorem q_114_13 : js_I 114 13 = some (.sipush 401, 3) := by decide +kernel
theorem q_114_16 : js_I 114 16 = some (.if_icmp .ge 49, 3) := by decide +kernel
theorem q_114_19 : js_I 114 19 = some (.aload_n 0, 1) := by decide +kernel
theorem q_114_20 : js_I 114 20 = some (.getfield 30, 3) := by decide +kernel
theorem q_114_23 : js_I 114 23 = some (.iload_n 3, 1) := by decide +kernel
theorem q_114_24 : js_I 114 24 = some (.iaload, 1) := by decide +kernel
theorem q_114_25 : js_I 114 25 = some (.istore 4, 2) := by decide +kernel
theorem q_114_27 : js_I 114 27 = some (.aload_n 0, 1) := by decide +kernel
theorem q_114_28 : js_I 114 28 = some (.getfield 30, 3) := by decide +kernel
theorem q_114_31 : js_I 114 31 = some (.iload_n 3, 1) := by decide +kernel
theorem q_114_32 : js_I 114 32 = some (.iload_n 2, 1) := by decide +kernel
theorem q_114_33 : js_I 114 33 = some (.iastore, 1) := by decide +kernel
theorem q_114_34 : js_I 114 34 = some (.iload_n 2, 1) := by decide +kernel
theorem q_114_35 : js_I 114 35 = some (.iload 4, 2) := by decide +kernel
theorem q_114_37 : js_I 114 37 = some (.iadd, 1) := by decide +kernel
theorem q_114_38 : js_I 114 38 = some (.istore_n 2, 1) := by decide +kernel
theorem q_114_39 : js_I 114 39 = some (.aload_n 0, 1) := by decide +kernel
theorem q_114_40 : js_I 114 40 = some (.getfield 33, 3) := by decide +kernel
theorem q_114_43 : js_I 114 43 = some (.iload_n 3, 1) := by decide +kernel
theorem q_114_44 : js_I 114 44 = some (.iaload, 1) := by decide +kernel
theorem q_114_45 : js_I 114 45 = some (.istore 5, 2) := by decide +kernel
theorem q_114_47 : js_I 114 47 = some (.aload_n 0, 1) := by decide +kernel
theorem q_114_48 : js_I 114 48 = some (.getfield 33, 3) := by decide +kernel
theorem q_114_51 : js_I 114 51 = some (.iload_n 3, 1) := by decide +kernel
theorem q_114_52 : js_I 114 52 = some (.iload_n 2, 1) := by decide +kernel
theorem q_114_53 : js_I 114 53 = some (.iastore, 1) := by decide +kernel
theorem q_114_54 : js_I 114 54 = some (.iload_n 2, 1) := by decide +kernel
theorem q_114_55 : js_I 114 55 = some (.iload 5, 2) := by decide +kernel
theorem q_114_57 : js_I 114 57 = some (.iadd, 1) := by decide +kernel
theorem q_114_58 : js_I 114 58 = some (.istore_n 2, 1) := by decide +kernel
theorem q_114_59 : js_I 114 59 = some (.iinc 3 1, 3) := by decide +kernel
theorem q_114_62 : js_I 114 62 = some (.goto (-58), 3) := by decide +kernel
theorem q_114_65 : js_I 114 65 = some (.iconst 0, 1) := by decide +kernel
theorem q_114_66 : js_I 114 66 = some (.istore_n 3, 1) := by decide +kernel
theorem q_114_67 : js_I 114 67 = some (.iload_n 3, 1) := by decide +kernel
theorem q_114_68 : js_I 114 68 = some (.aload_n 0, 1) := by decide +kernel
theorem q_114_69 : js_I 114 69 = some (.getfield 42, 3) := by decide +kernel
theorem q_114_72 : js_I 114 72 = some (.if_icmp .ge 85, 3) := by decide +kernel
theorem q_114_75 : js_I 114 75 = some (.iload_n 3, 1) := by decide +kernel
theorem q_114_76 : js_I 114 76 = some (.aload_n 0, 1) := by decide +kernel
theorem q_114_77 : js_I 114 77 = some (.getfield 9, 3) := by decide +kernel
theorem q_114_80 : js_I 114 80 = some (.arraylength, 1) := by decide +kernel
theorem q_114_81 : js_I 114 81 = some (.if_icmp .ge 76, 3) := by decide +kernel
theorem q_114_84 : js_I 114 84 = some (.aload_n 0, 1) := by decide +kernel
theorem q_114_85 : js_I 114 85 = some (.getfield 27, 3) := by decide +kernel
theorem q_114_88 : js_I 114 88 = some (.iload_n 3, 1) := by decide +kernel
theorem q_114_89 : js_I 114 89 = some (.iaload, 1) := by decide +kernel
theorem q_114_90 : js_I 114 90 = some (.iconst 1, 1) := by decide +kernel
theorem q_114_91 : js_I 114 91 = some (.isub, 1) := by decide +kernel
theorem q_114_92 : js_I 114 92 = some (.iconst 2, 1) := by decide +kernel
theorem q_114_93 : js_I 114 93 = some (.idiv, 1) := by decide +kernel
theorem q_114_94 : js_I 114 94 = some (.istore 4, 2) := by decide +kernel
theorem q_114_96 : js_I 114 96 = some (.aload_n 0, 1) := by decide +kernel
theorem q_114_97 : js_I 114 97 = some (.getfield 27, 3) := by decide +kernel
theorem q_114_100 : js_I 114 100 = some (.iload_n 3, 1) := by decide +kernel
theorem q_114_101 : js_I 114 101 = some (.iaload, 1) := by decide +kernel
theorem q_114_102 : js_I 114 102 = some (.ifCond .le 49, 3) := by decide +kernel
theorem q_114_105 : js_I 114 105 = some (.iload 4, 2) := by decide +kernel
theorem q_114_107 : js_I 114 107 = some (.sipush 401, 3) := by decide +kernel
theorem q_114_110 : js_I 114 110 = some (.if_icmp .ge 41, 3) := by decide +kernel
theorem q_114_113 : js_I 114 113 = some (.aload_n 0, 1) := by decide +kernel
theorem q_114_114 : js_I 114 114 = some (.getfield 15, 3) := by decide +kernel
theorem q_114_117 : js_I 114 117 = some (.iload_n 3, 1) := by decide +kernel
theorem q_114_118 : js_I 114 118 = some (.dup2, 1) := by decide +kernel
theorem q_114_119 : js_I 114 119 = some (.iaload, 1) := by decide +kernel
theorem q_114_120 : js_I 114 120 = some (.aload_n 0, 1) := by decide +kernel
theorem q_114_121 : js_I 114 121 = some (.getfield 27, 3) := by decide +kernel
theorem q_114_124 : js_I 114 124 = some (.iload_n 3, 1) := by decide +kernel
theorem q_114_125 : js_I 114 125 = some (.iaload, 1) := by decide +kernel
theorem q_114_126 : js_I 114 126 = some (.iconst 2, 1) := by decide +kernel
theorem q_114_127 : js_I 114 127 = some (.irem, 1) := by decide +kernel
theorem q_114_128 : js_I 114 128 = some (.iconst 1, 1) := by decide +kernel
theorem q_114_129 : js_I 114 129 = some (.if_icmp .ne 13, 3) := by decide +kernel
theorem q_114_132 : js_I 114 132 = some (.aload_n 0, 1) := by decide +kernel
theorem q_114_133 : js_I 114 133 = some (.getfield 30, 3) := by decide +kernel
theorem q_114_136 : js_I 114 136 = some (.iload 4, 2) := by decide +kernel
theorem q_114_138 : js_I 114 138 = some (.iaload, 1) := by decide +kernel
theorem q_114_139 : js_I 114 139 = some (.goto 10, 3) := by decide +kernel
theorem q_114_142 : js_I 114 142 = some (.aload_n 0, 1) := by decide +kernel
theorem q_114_143 : js_I 114 143 = some (.getfield 33, 3) := by decide +kernel
theorem q_114_146 : js_I 114 146 = some (.iload 4, 2) := by decide +kernel
theorem q_114_148 : js_I 114 148 = some (.iaload, 1) := by decide +kernel
theorem q_114_157 : js_I 114 157 = some (.iload_n 2, 1) := by decide +kernel
theorem q_114_158 : js_I 114 158 = some (.ireturn, 1) := by decide +kernel
theorem q_114_149 : js_I 114 149 = some (.iadd, 1) := by decide +kernel
theorem q_114_150 : js_I 114 150 = some (.iastore, 1) := by decide +kernel
theorem q_114_151 : js_I 114 151 = some (.iinc 3 1, 3) := by decide +kernel
theorem q_114_154 : js_I 114 154 = some (.goto (-87), 3) := by decide +kernel
theorem q_115_0 : js_I 115 0 = some (.aload_n 0, 1) := by decide +kernel
theorem q_115_1 : js_I 115 1 = some (.iconst 0, 1) := by decide +kernel
theorem q_115_2 : js_I 115 2 = some (.putfield 29, 3) := by decide +kernel
theorem q_115_5 : js_I 115 5 = some (.return_, 1) := by decide +kernel
theorem qf_10_251 : ip_lk (vt_FL.getD 10 []) 251 = some (1, 6) := by decide +kernel
theorem qf_10_258 : ip_lk (vt_FL.getD 10 []) 258 = some (11, 0) := by decide +kernel
theorem qf_1_30 : ip_lk (vt_FL.getD 1 []) 30 = some (1, 13) := by decide +kernel
theorem qf_1_33 : ip_lk (vt_FL.getD 1 []) 33 = some (1, 14) := by decide +kernel
theorem qf_4_92 : ip_lk (vt_FL.getD 4 []) 92 = some (7, 3) := by decide +kernel
theorem qf_4_95 : ip_lk (vt_FL.getD 4 []) 95 = some (7, 1) := by decide +kernel
theorem qf_4_109 : ip_lk (vt_FL.getD 4 []) 109 = some (7, 4) := by decide +kernel
theorem qf_4_23 : ip_lk (vt_FL.getD 4 []) 23 = some (4, 2) := by decide +kernel
theorem qf_7_111 : ip_lk (vt_FL.getD 7 []) 111 = some (11, 11) := by decide +kernel
theorem qf_7_114 : ip_lk (vt_FL.getD 7 []) 114 = some (11, 5) := by decide +kernel
theorem qf_7_117 : ip_lk (vt_FL.getD 7 []) 117 = some (1, 13) := by decide +kernel
theorem qm_10_224 : ip_lk (vt_ML.getD 10 []) 224 = some (91, 1, 1, 1) := by decide +kernel
theorem qm_10_248 : ip_lk (vt_ML.getD 10 []) 248 = some (43, 3, 1, 11) := by decide +kernel
theorem qm_10_254 : ip_lk (vt_ML.getD 10 []) 254 = some (78, 3, 1, 1) := by decide +kernel
theorem qm_10_261 : ip_lk (vt_ML.getD 10 []) 261 = some (74, 1, 1, 1) := by decide +kernel
theorem qm_10_181 : ip_lk (vt_ML.getD 10 []) 181 = some (37, 1, 1, 7) := by decide +kernel
theorem qm_10_185 : ip_lk (vt_ML.getD 10 []) 185 = some (107, 1, 0, 0) := by decide +kernel
theorem qm_10_189 : ip_lk (vt_ML.getD 10 []) 189 = some (65, 2, 1, 5) := by decide +kernel
theorem qm_10_195 : ip_lk (vt_ML.getD 10 []) 195 = some (76, 1, 1, 5) := by decide +kernel
theorem qm_10_206 : ip_lk (vt_ML.getD 10 []) 206 = some (109, 1, 1, 1) := by decide +kernel
theorem qm_7_104 : ip_lk (vt_ML.getD 7 []) 104 = some (1, 2, 4, 0) := by decide +kernel
theorem qm_7_50 : ip_lk (vt_ML.getD 7 []) 50 = some (67, 1, 1, 7) := by decide +kernel
theorem qm_4_113 : ip_lk (vt_ML.getD 4 []) 113 = some (113, 0, 1, 7) := by decide +kernel
theorem qm_7_107 : ip_lk (vt_ML.getD 7 []) 107 = some (114, 1, 1, 1) := by decide +kernel
theorem qc_4_119 : ip_lk (vt_CL.getD 4 []) 119 = some (js_V (0, 100000)) := by decide +kernel
theorem ww_207 : js_w 207 = 207 := by decide +kernel
theorem ww_401 : js_w 401 = 401 := by decide +kernel
theorem ww_100000 : js_w 100000 = 100000 := by decide +kernel
-- 104: VitalTwin$Statements.ifs ()V
theorem b_104_0 {E : js_E} {d : Nat} {σ : js_S} {b : Int} : js_J E d 104 0 [(2, 22 + b), (9, 0), (9, 0), (9, 0), (9, 0), (9, 0), (9, 0), (9, 0)] [] σ = js_J E d 104 9 [(2, 22 + b), (0, (-1)), (0, 0), (0, 1), (0, 0), (9, 0), (9, 0), (9, 0)] [] σ :=
  (j_iconst q_104_0).trans <| (j_istore_n (l2 := [(2, 22 + b), (0, (-1)), (9, 0), (9, 0), (9, 0), (9, 0), (9, 0), (9, 0)]) q_104_1 rfl (Nat.le_of_ble_eq_true rfl)).trans <| (j_iconst q_104_2).trans <| (j_istore_n (l2 := [(2, 22 + b), (0, (-1)), (0, 0), (9, 0), (9, 0), (9, 0), (9, 0), (9, 0)]) q_104_3 rfl (Nat.le_of_ble_eq_true rfl)).trans <| (j_iconst q_104_4).trans <| (j_istore_n (l2 := [(2, 22 + b), (0, (-1)), (0, 0), (0, 1), (9, 0), (9, 0), (9, 0), (9, 0)]) q_104_5 rfl (Nat.le_of_ble_eq_true rfl)).trans <| (j_iconst q_104_6).trans <| (j_istore (l2 := [(2, 22 + b), (0, (-1)), (0, 0), (0, 1), (0, 0), (9, 0), (9, 0), (9, 0)]) q_104_7 rfl (Nat.le_of_ble_eq_true rfl)).trans <| rfl
theorem b_104_9 {E : js_E} {d : Nat} {σ : js_S} {x1 x2 x3 x4 b : Int} {ux5 ux6 ux7 : js_v} (hb : b = 0 ∨ b = 25) : js_J E d 104 9 [(2, 22 + b), (0, x1), (0, x2), (0, x3), (0, x4), ux5, ux6, ux7] [] σ = (if js_w x4 < 1000000 then (if js_w x3 = 0 then js_J E d 104 206 [(2, 22 + b), (0, x1), (0, x2), (0, x3), (0, x4), ux5, ux6, ux7] [] σ else js_J E d 104 24 [(2, 22 + b), (0, x1), (0, x2), (0, x3), (0, x4), ux5, ux6, ux7] [(2, 1)] σ) else js_J E d 104 206 [(2, 22 + b), (0, x1), (0, x2), (0, x3), (0, x4), ux5, ux6, ux7] [] σ) :=
  (j_iload q_104_9 rfl).trans <| (j_ldc (v := (0, 1000000)) q_104_11 (js_Co qy_104 qc_10_52)).trans <| (j_cmpgeB (t := 206) q_104_13 rfl ww_1000000).trans (js_ite ((j_iload_n q_104_16 rfl).trans <| (j_ifeq (t := 206) q_104_17 rfl).trans (js_ite (rfl) ((j_aload_n q_104_20 rfl).trans <| (j_get (ji := 1) (v := (2, 1)) q_104_21 (js_Fo qy_104 qf_10_9) (js_o22b hb) rfl rfl rfl rfl).trans <| rfl))) (rfl))
theorem k_104_24 {E : js_E} {d : Nat} {σ σ2 : js_S} {x1 x2 x3 x4 b : Int} {ux5 ux6 ux7 : js_v} (hd : 1 ≤ d) (hz : js_J E (d - 1) 33 0 [(2, 1), (9, 0)] [] σ = js_r0 E σ2) : js_J E d 104 24 [(2, 22 + b), (0, x1), (0, x2), (0, x3), (0, x4), ux5, ux6, ux7] [(2, 1)] σ = js_J E d 104 27 [(2, 22 + b), (0, x1), (0, x2), (0, x3), (0, x4), ux5, ux6, ux7] [] σ2 :=
  j_call0 (m := 1) (js_caV q_104_24 (js_Mo qy_104 qm_10_89)) (js_agV (av := []) (st := []) rfl rfl js_o1 rfl) rfl rfl (by rw [ql_33]; exact Nat.le_of_ble_eq_true rfl) (Nat.le_of_ble_eq_true rfl) hd hz
theorem kt_104_24 {E : js_E} {d : Nat} {σ σ2 : js_S} {x1 x2 x3 x4 b : Int} {ux5 ux6 ux7 : js_v} {w : Int} (hd : 1 ≤ d) (hz : js_J E (d - 1) 33 0 [(2, 1), (9, 0)] [] σ = js_t E w σ2) : js_J E d 104 24 [(2, 22 + b), (0, x1), (0, x2), (0, x3), (0, x4), ux5, ux6, ux7] [(2, 1)] σ = js_t E w σ2 :=
  j_callT (m := 1) (js_caV q_104_24 (js_Mo qy_104 qm_10_89)) (js_agV (av := []) (st := []) rfl rfl js_o1 rfl) rfl rfl (by rw [ql_33]; exact Nat.le_of_ble_eq_true rfl) (Nat.le_of_ble_eq_true rfl) hd rfl hz
theorem b_104_27 {E : js_E} {d : Nat} {σ : js_S} {x1 x2 x3 x4 b : Int} {ux5 ux6 ux7 : js_v} (hb : b = 0 ∨ b = 25) : js_J E d 104 27 [(2, 22 + b), (0, x1), (0, x2), (0, x3), (0, x4), ux5, ux6, ux7] [] σ = js_J E d 104 33 [(2, 22 + b), (0, x1), (0, x2), (0, x3), (0, x4), ux5, ux6, ux7] [(0, 40), (2, 1)] σ :=
  (j_aload_n q_104_27 rfl).trans <| (j_get (ji := 1) (v := (2, 1)) q_104_28 (js_Fo qy_104 qf_10_9) (js_o22b hb) rfl rfl rfl rfl).trans <| (j_bi q_104_31 rfl).trans <| rfl
theorem k_104_33 {E : js_E} {d : Nat} {σ σ2 : js_S} {x1 x2 x3 x4 z1 b : Int} {ux5 ux6 ux7 : js_v} (hd : 1 ≤ d) (hz : js_J E (d - 1) 47 0 [(2, 1), (0, z1)] [] σ = js_r0 E σ2) : js_J E d 104 33 [(2, 22 + b), (0, x1), (0, x2), (0, x3), (0, x4), ux5, ux6, ux7] [(0, z1), (2, 1)] σ = js_J E d 104 36 [(2, 22 + b), (0, x1), (0, x2), (0, x3), (0, x4), ux5, ux6, ux7] [] σ2 :=
  j_call0 (m := 0) (js_caV q_104_33 (js_Mo qy_104 qm_10_46)) (js_agV (av := [(0, z1)]) (st := []) rfl rfl js_o1 rfl) rfl rfl (by rw [ql_47]; exact Nat.le_of_ble_eq_true rfl) (Nat.le_of_ble_eq_true rfl) hd hz
theorem kt_104_33 {E : js_E} {d : Nat} {σ σ2 : js_S} {x1 x2 x3 x4 z1 b : Int} {ux5 ux6 ux7 : js_v} {w : Int} (hd : 1 ≤ d) (hz : js_J E (d - 1) 47 0 [(2, 1), (0, z1)] [] σ = js_t E w σ2) : js_J E d 104 33 [(2, 22 + b), (0, x1), (0, x2), (0, x3), (0, x4), ux5, ux6, ux7] [(0, z1), (2, 1)] σ = js_t E w σ2 :=
  j_callT (m := 0) (js_caV q_104_33 (js_Mo qy_104 qm_10_46)) (js_agV (av := [(0, z1)]) (st := []) rfl rfl js_o1 rfl) rfl rfl (by rw [ql_47]; exact Nat.le_of_ble_eq_true rfl) (Nat.le_of_ble_eq_true rfl) hd rfl hz
theorem b_104_36 {E : js_E} {d : Nat} {σ : js_S} {x1 x2 x3 x4 b : Int} {ux5 ux6 ux7 : js_v} : js_J E d 104 36 [(2, 22 + b), (0, x1), (0, x2), (0, x3), (0, x4), ux5, ux6, ux7] [] σ = js_J E d 104 37 [(2, 22 + b), (0, x1), (0, x2), (0, x3), (0, x4), ux5, ux6, ux7] [(2, 22 + b)] σ :=
  (j_aload_n q_104_36 rfl).trans <| rfl
theorem k_104_37 {E : js_E} {d : Nat} {σ σ2 : js_S} {x1 x2 x3 x4 b : Int} {ux5 ux6 ux7 : js_v} (hb : b = 0 ∨ b = 25) (hd : 1 ≤ d) (hz : js_J E (d - 1) 98 0 [(2, 22 + b)] [] σ = js_r0 E σ2) : js_J E d 104 37 [(2, 22 + b), (0, x1), (0, x2), (0, x3), (0, x4), ux5, ux6, ux7] [(2, 22 + b)] σ = js_J E d 104 40 [(2, 22 + b), (0, x1), (0, x2), (0, x3), (0, x4), ux5, ux6, ux7] [] σ2 :=
  j_call0 (m := 0) (js_caV q_104_37 (js_Mo qy_104 qm_10_92)) (js_agV (av := []) (st := []) rfl rfl (js_o22b hb) rfl) rfl rfl (by rw [ql_98]; exact Nat.le_of_ble_eq_true rfl) (Nat.le_of_ble_eq_true rfl) hd hz
theorem kt_104_37 {E : js_E} {d : Nat} {σ σ2 : js_S} {x1 x2 x3 x4 b : Int} {ux5 ux6 ux7 : js_v} (hb : b = 0 ∨ b = 25) {w : Int} (hd : 1 ≤ d) (hz : js_J E (d - 1) 98 0 [(2, 22 + b)] [] σ = js_t E w σ2) : js_J E d 104 37 [(2, 22 + b), (0, x1), (0, x2), (0, x3), (0, x4), ux5, ux6, ux7] [(2, 22 + b)] σ = js_t E w σ2 :=
  j_callT (m := 0) (js_caV q_104_37 (js_Mo qy_104 qm_10_92)) (js_agV (av := []) (st := []) rfl rfl (js_o22b hb) rfl) rfl rfl (by rw [ql_98]; exact Nat.le_of_ble_eq_true rfl) (Nat.le_of_ble_eq_true rfl) hd rfl hz
theorem b_104_40 {E : js_E} {d : Nat} {σ : js_S} {x1 x2 x3 x4 b : Int} {ux5 ux6 ux7 : js_v} (hb : b = 0 ∨ b = 25) : js_J E d 104 40 [(2, 22 + b), (0, x1), (0, x2), (0, x3), (0, x4), ux5, ux6, ux7] [] σ = js_J E d 104 46 [(2, 22 + b), (0, x1), (0, x2), (0, x3), (0, x4), ux5, ux6, ux7] [(0, 41), (2, 1)] σ :=
  (j_aload_n q_104_40 rfl).trans <| (j_get (ji := 1) (v := (2, 1)) q_104_41 (js_Fo qy_104 qf_10_9) (js_o22b hb) rfl rfl rfl rfl).trans <| (j_bi q_104_44 rfl).trans <| rfl
theorem k_104_46 {E : js_E} {d : Nat} {σ σ2 : js_S} {x1 x2 x3 x4 z1 b : Int} {ux5 ux6 ux7 : js_v} (hd : 1 ≤ d) (hz : js_J E (d - 1) 48 0 [(2, 1), (0, z1)] [] σ = js_r0 E σ2) : js_J E d 104 46 [(2, 22 + b), (0, x1), (0, x2), (0, x3), (0, x4), ux5, ux6, ux7] [(0, z1), (2, 1)] σ = js_J E d 104 49 [(2, 22 + b), (0, x1), (0, x2), (0, x3), (0, x4), ux5, ux6, ux7] [] σ2 :=
  j_call0 (m := 0) (js_caV q_104_46 (js_Mo qy_104 qm_10_80)) (js_agV (av := [(0, z1)]) (st := []) rfl rfl js_o1 rfl) rfl rfl (by rw [ql_48]; exact Nat.le_of_ble_eq_true rfl) (Nat.le_of_ble_eq_true rfl) hd hz
theorem kt_104_46 {E : js_E} {d : Nat} {σ σ2 : js_S} {x1 x2 x3 x4 z1 b : Int} {ux5 ux6 ux7 : js_v} {w : Int} (hd : 1 ≤ d) (hz : js_J E (d - 1) 48 0 [(2, 1), (0, z1)] [] σ = js_t E w σ2) : js_J E d 104 46 [(2, 22 + b), (0, x1), (0, x2), (0, x3), (0, x4), ux5, ux6, ux7] [(0, z1), (2, 1)] σ = js_t E w σ2 :=
  j_callT (m := 0) (js_caV q_104_46 (js_Mo qy_104 qm_10_80)) (js_agV (av := [(0, z1)]) (st := []) rfl rfl js_o1 rfl) rfl rfl (by rw [ql_48]; exact Nat.le_of_ble_eq_true rfl) (Nat.le_of_ble_eq_true rfl) hd rfl hz
theorem b_104_49 {E : js_E} {d : Nat} {σ : js_S} {x1 x2 x3 x4 b : Int} {ux5 ux6 ux7 : js_v} (hb : b = 0 ∨ b = 25) : js_J E d 104 49 [(2, 22 + b), (0, x1), (0, x2), (0, x3), (0, x4), ux5, ux6, ux7] [] σ = js_J E d 104 56 [(2, 22 + b), (0, x1), (0, x2), (0, x3), (0, x4), ux5, ux6, ux7] [(0, 0), (0, 25), (2, 8 + b)] σ :=
  (j_aload_n q_104_49 rfl).trans <| (j_get (ji := 3) (v := (2, 8 + b)) q_104_50 (js_Fo qy_104 qf_10_25) (js_o22b hb) rfl rfl rfl rfl).trans <| (j_bi q_104_53 rfl).trans <| (j_iconst q_104_55).trans <| rfl
theorem k_104_56 {E : js_E} {d : Nat} {σ σ2 : js_S} {x1 x2 x3 x4 z1 z2 b : Int} {ux5 ux6 ux7 : js_v} (hb : b = 0 ∨ b = 25) {v : Int} (hd : 1 ≤ d) (hz : js_J E (d - 1) 95 0 [(2, 8 + b), (0, z1), (0, z2)] [] σ = js_r E (0, v) σ2) : js_J E d 104 56 [(2, 22 + b), (0, x1), (0, x2), (0, x3), (0, x4), ux5, ux6, ux7] [(0, z2), (0, z1), (2, 8 + b)] σ = js_J E d 104 59 [(2, 22 + b), (0, x1), (0, x2), (0, x3), (0, x4), ux5, ux6, ux7] [(0, v)] σ2 :=
  j_call (m := 0) (js_caV q_104_56 (js_Mo qy_104 qm_10_95)) (js_agV (av := [(0, z1), (0, z2)]) (st := []) rfl rfl (js_o8b hb) rfl) rfl rfl (by rw [ql_95]; exact Nat.le_of_ble_eq_true rfl) (Nat.le_of_ble_eq_true rfl) hd hz
theorem kt_104_56 {E : js_E} {d : Nat} {σ σ2 : js_S} {x1 x2 x3 x4 z1 z2 b : Int} {ux5 ux6 ux7 : js_v} (hb : b = 0 ∨ b = 25) {w : Int} (hd : 1 ≤ d) (hz : js_J E (d - 1) 95 0 [(2, 8 + b), (0, z1), (0, z2)] [] σ = js_t E w σ2) : js_J E d 104 56 [(2, 22 + b), (0, x1), (0, x2), (0, x3), (0, x4), ux5, ux6, ux7] [(0, z2), (0, z1), (2, 8 + b)] σ = js_t E w σ2 :=
  j_callT (m := 0) (js_caV q_104_56 (js_Mo qy_104 qm_10_95)) (js_agV (av := [(0, z1), (0, z2)]) (st := []) rfl rfl (js_o8b hb) rfl) rfl rfl (by rw [ql_95]; exact Nat.le_of_ble_eq_true rfl) (Nat.le_of_ble_eq_true rfl) hd rfl hz
theorem b_104_59 {E : js_E} {d : Nat} {σ : js_S} {x1 x2 x3 x4 z0 b : Int} {ux5 ux6 ux7 : js_v} (hb : b = 0 ∨ b = 25) : js_J E d 104 59 [(2, 22 + b), (0, x1), (0, x2), (0, x3), (0, x4), ux5, ux6, ux7] [(0, z0)] σ = js_J E d 104 79 [(2, 22 + b), (0, x1), (0, x2), (0, x3), (0, x4), (0, z0), (0, σ (8 + b) 7), ux7] [(2, (-1)), (0, σ (7 + b) 1), (2, 22 + b)] σ :=
  (j_istore (l2 := [(2, 22 + b), (0, x1), (0, x2), (0, x3), (0, x4), (0, z0), ux6, ux7]) q_104_59 rfl (Nat.le_of_ble_eq_true rfl)).trans <| (j_aload_n q_104_61 rfl).trans <| (j_get (ji := 3) (v := (2, 8 + b)) q_104_62 (js_Fo qy_104 qf_10_25) (js_o22b hb) rfl rfl rfl rfl).trans <| (j_get (ji := 7) (v := (0, σ (8 + b) 7)) q_104_65 (js_Fo qy_104 qf_10_209) (js_o8b hb) rfl rfl rfl rfl).trans <| (j_istore (l2 := [(2, 22 + b), (0, x1), (0, x2), (0, x3), (0, x4), (0, z0), (0, σ (8 + b) 7), ux7]) q_104_68 rfl (Nat.le_of_ble_eq_true rfl)).trans <| (j_aload_n q_104_70 rfl).trans <| (j_aload_n q_104_71 rfl).trans <| (j_get (ji := 2) (v := (2, 7 + b)) q_104_72 (js_Fo qy_104 qf_10_15) (js_o22b hb) rfl rfl rfl rfl).trans <| (j_get (ji := 1) (v := (0, σ (7 + b) 1)) q_104_75 (js_Fo qy_104 qf_10_212) (js_o7b hb) rfl rfl rfl rfl).trans <| (j_null q_104_78).trans <| rfl
theorem k_104_79 {E : js_E} {d : Nat} {σ σ2 : js_S} {x1 x2 x3 x4 x5 x6 z1 z2 b : Int} {ux7 : js_v} (hb : b = 0 ∨ b = 25) (hd : 1 ≤ d) (hz : js_J E (d - 1) 55 0 [(2, 22 + b), (0, z1), (2, z2), (9, 0)] [] σ = js_r0 E σ2) : js_J E d 104 79 [(2, 22 + b), (0, x1), (0, x2), (0, x3), (0, x4), (0, x5), (0, x6), ux7] [(2, z2), (0, z1), (2, 22 + b)] σ = js_J E d 104 82 [(2, 22 + b), (0, x1), (0, x2), (0, x3), (0, x4), (0, x5), (0, x6), ux7] [] σ2 :=
  j_call0 (m := 1) (js_caV q_104_79 (js_Mo qy_104 qm_10_215)) (js_agV (av := [(0, z1), (2, z2)]) (st := []) rfl rfl (js_o22b hb) rfl) rfl rfl (by rw [ql_55]; exact Nat.le_of_ble_eq_true rfl) (Nat.le_of_ble_eq_true rfl) hd hz
theorem kt_104_79 {E : js_E} {d : Nat} {σ σ2 : js_S} {x1 x2 x3 x4 x5 x6 z1 z2 b : Int} {ux7 : js_v} (hb : b = 0 ∨ b = 25) {w : Int} (hd : 1 ≤ d) (hz : js_J E (d - 1) 55 0 [(2, 22 + b), (0, z1), (2, z2), (9, 0)] [] σ = js_t E w σ2) : js_J E d 104 79 [(2, 22 + b), (0, x1), (0, x2), (0, x3), (0, x4), (0, x5), (0, x6), ux7] [(2, z2), (0, z1), (2, 22 + b)] σ = js_t E w σ2 :=
  j_callT (m := 1) (js_caV q_104_79 (js_Mo qy_104 qm_10_215)) (js_agV (av := [(0, z1), (2, z2)]) (st := []) rfl rfl (js_o22b hb) rfl) rfl rfl (by rw [ql_55]; exact Nat.le_of_ble_eq_true rfl) (Nat.le_of_ble_eq_true rfl) hd rfl hz
theorem b_104_82 {E : js_E} {d : Nat} {σ : js_S} {x1 x2 x3 x4 x5 x6 b : Int} {ux7 : js_v} (hb : b = 0 ∨ b = 25) : js_J E d 104 82 [(2, 22 + b), (0, x1), (0, x2), (0, x3), (0, x4), (0, x5), (0, x6), ux7] [] σ = (if js_w (σ 1 1) = 208 then js_J E d 104 100 [(2, 22 + b), (0, x1), (0, x2), (0, x3), (0, x4), (0, x5), (0, x6), ux7] [(0, 1)] σ else js_J E d 104 100 [(2, 22 + b), (0, x1), (0, x2), (0, x3), (0, x4), (0, x5), (0, x6), ux7] [(0, 0)] σ) :=
  (j_aload_n q_104_82 rfl).trans <| (j_get (ji := 1) (v := (2, 1)) q_104_83 (js_Fo qy_104 qf_10_9) (js_o22b hb) rfl rfl rfl rfl).trans <| (j_get (ji := 1) (v := (0, σ 1 1)) q_104_86 (js_Fo qy_104 qf_10_53) js_o1 rfl rfl rfl rfl).trans <| (j_si q_104_89 rfl).trans <| (j_cmpneB (t := 99) q_104_92 rfl ww_208).trans (js_ite ((j_iconst q_104_95).trans <| (j_goto (t := 100) q_104_96 rfl).trans <| rfl) ((j_iconst q_104_99).trans <| rfl))
theorem b_104_100 {E : js_E} {d : Nat} {σ : js_S} {x1 x2 x3 x4 x5 x6 z0 b : Int} {ux7 : js_v} (hb : b = 0 ∨ b = 25) : js_J E d 104 100 [(2, 22 + b), (0, x1), (0, x2), (0, x3), (0, x4), (0, x5), (0, x6), ux7] [(0, z0)] σ = (if js_w z0 = 0 then js_J E d 104 146 [(2, 22 + b), (0, x1), (0, x2), (0, x3), (0, x4), (0, x5), (0, x6), (0, z0)] [] σ else js_J E d 104 114 [(2, 22 + b), (0, x1), (0, x2), (0, x3), (0, x4), (0, x5), (0, x6), (0, z0)] [(0, x1), (0, 24), (2, 8 + b)] σ) :=
  (j_istore (l2 := [(2, 22 + b), (0, x1), (0, x2), (0, x3), (0, x4), (0, x5), (0, x6), (0, z0)]) q_104_100 rfl (Nat.le_of_ble_eq_true rfl)).trans <| (j_iload q_104_102 rfl).trans <| (j_ifeq (t := 146) q_104_104 rfl).trans (js_ite (rfl) ((j_aload_n q_104_107 rfl).trans <| (j_get (ji := 3) (v := (2, 8 + b)) q_104_108 (js_Fo qy_104 qf_10_25) (js_o22b hb) rfl rfl rfl rfl).trans <| (j_bi q_104_111 rfl).trans <| (j_iload_n q_104_113 rfl).trans <| rfl))
theorem k_104_114 {E : js_E} {d : Nat} {σ σ2 : js_S} {x1 x2 x3 x4 x5 x6 x7 z1 z2 b : Int} (hb : b = 0 ∨ b = 25) {v : Int} (hd : 1 ≤ d) (hz : js_J E (d - 1) 95 0 [(2, 8 + b), (0, z1), (0, z2)] [] σ = js_r E (0, v) σ2) : js_J E d 104 114 [(2, 22 + b), (0, x1), (0, x2), (0, x3), (0, x4), (0, x5), (0, x6), (0, x7)] [(0, z2), (0, z1), (2, 8 + b)] σ = js_J E d 104 117 [(2, 22 + b), (0, x1), (0, x2), (0, x3), (0, x4), (0, x5), (0, x6), (0, x7)] [(0, v)] σ2 :=
  j_call (m := 0) (js_caV q_104_114 (js_Mo qy_104 qm_10_95)) (js_agV (av := [(0, z1), (0, z2)]) (st := []) rfl rfl (js_o8b hb) rfl) rfl rfl (by rw [ql_95]; exact Nat.le_of_ble_eq_true rfl) (Nat.le_of_ble_eq_true rfl) hd hz
theorem kt_104_114 {E : js_E} {d : Nat} {σ σ2 : js_S} {x1 x2 x3 x4 x5 x6 x7 z1 z2 b : Int} (hb : b = 0 ∨ b = 25) {w : Int} (hd : 1 ≤ d) (hz : js_J E (d - 1) 95 0 [(2, 8 + b), (0, z1), (0, z2)] [] σ = js_t E w σ2) : js_J E d 104 114 [(2, 22 + b), (0, x1), (0, x2), (0, x3), (0, x4), (0, x5), (0, x6), (0, x7)] [(0, z2), (0, z1), (2, 8 + b)] σ = js_t E w σ2 :=
  j_callT (m := 0) (js_caV q_104_114 (js_Mo qy_104 qm_10_95)) (js_agV (av := [(0, z1), (0, z2)]) (st := []) rfl rfl (js_o8b hb) rfl) rfl rfl (by rw [ql_95]; exact Nat.le_of_ble_eq_true rfl) (Nat.le_of_ble_eq_true rfl) hd rfl hz
theorem b_104_117 {E : js_E} {d : Nat} {σ : js_S} {x1 x2 x3 x4 x5 x6 x7 z0 b : Int} (hd : 4 ≤ d) (hb : b = 0 ∨ b = 25) : js_J E d 104 117 [(2, 22 + b), (0, x1), (0, x2), (0, x3), (0, x4), (0, x5), (0, x6), (0, x7)] [(0, z0)] σ = js_J E d 104 143 [(2, 22 + b), (0, z0), (0, if js_w x2 < js_w (σ (8 + b) 7) then (σ (8 + b) 7) else x2), (0, x3), (0, x4), (0, x5), (0, x6), (0, x7)] [(2, 1)] (js_up σ (8 + b) 7 x6) :=
  (j_istore_n (l2 := [(2, 22 + b), (0, z0), (0, x2), (0, x3), (0, x4), (0, x5), (0, x6), (0, x7)]) q_104_117 rfl (Nat.le_of_ble_eq_true rfl)).trans <| (j_iload_n q_104_118 rfl).trans <| (j_aload_n q_104_119 rfl).trans <| (j_get (ji := 3) (v := (2, 8 + b)) q_104_120 (js_Fo qy_104 qf_10_25) (js_o22b hb) rfl rfl rfl rfl).trans <| (j_get (ji := 7) (v := (0, σ (8 + b) 7)) q_104_123 (js_Fo qy_104 qf_10_209) (js_o8b hb) rfl rfl rfl rfl).trans <| (j_max (js_clS q_104_126 (js_Mo qy_104 qm_10_219)) (Nat.le_of_ble_eq_true rfl) hd).trans <| (j_istore_n (l2 := [(2, 22 + b), (0, z0), (0, if js_w x2 < js_w (σ (8 + b) 7) then (σ (8 + b) 7) else x2), (0, x3), (0, x4), (0, x5), (0, x6), (0, x7)]) q_104_129 rfl (Nat.le_of_ble_eq_true rfl)).trans <| (j_aload_n q_104_130 rfl).trans <| (j_get (ji := 3) (v := (2, 8 + b)) q_104_131 (js_Fo qy_104 qf_10_25) (js_o22b hb) rfl rfl rfl rfl).trans <| (j_iload q_104_134 rfl).trans <| (j_putI (ji := 7) q_104_136 (js_Fo qy_104 qf_10_209) rfl (js_o8b hb) rfl rfl rfl).trans <| (j_aload_n q_104_139 rfl).trans <| (j_get (ji := 1) (v := (2, 1)) q_104_140 (js_Fo qy_104 qf_10_9) (js_o22b hb) rfl rfl rfl rfl).trans <| rfl
theorem k_104_143 {E : js_E} {d : Nat} {σ σ2 : js_S} {x1 x2 x3 x4 x5 x6 x7 b : Int} (hd : 1 ≤ d) (hz : js_J E (d - 1) 33 0 [(2, 1), (9, 0)] [] σ = js_r0 E σ2) : js_J E d 104 143 [(2, 22 + b), (0, x1), (0, x2), (0, x3), (0, x4), (0, x5), (0, x6), (0, x7)] [(2, 1)] σ = js_J E d 104 146 [(2, 22 + b), (0, x1), (0, x2), (0, x3), (0, x4), (0, x5), (0, x6), (0, x7)] [] σ2 :=
  j_call0 (m := 1) (js_caV q_104_143 (js_Mo qy_104 qm_10_89)) (js_agV (av := []) (st := []) rfl rfl js_o1 rfl) rfl rfl (by rw [ql_33]; exact Nat.le_of_ble_eq_true rfl) (Nat.le_of_ble_eq_true rfl) hd hz
theorem kt_104_143 {E : js_E} {d : Nat} {σ σ2 : js_S} {x1 x2 x3 x4 x5 x6 x7 b : Int} {w : Int} (hd : 1 ≤ d) (hz : js_J E (d - 1) 33 0 [(2, 1), (9, 0)] [] σ = js_t E w σ2) : js_J E d 104 143 [(2, 22 + b), (0, x1), (0, x2), (0, x3), (0, x4), (0, x5), (0, x6), (0, x7)] [(2, 1)] σ = js_t E w σ2 :=
  j_callT (m := 1) (js_caV q_104_143 (js_Mo qy_104 qm_10_89)) (js_agV (av := []) (st := []) rfl rfl js_o1 rfl) rfl rfl (by rw [ql_33]; exact Nat.le_of_ble_eq_true rfl) (Nat.le_of_ble_eq_true rfl) hd rfl hz
theorem b_104_146 {E : js_E} {d : Nat} {σ : js_S} {x1 x2 x3 x4 x5 x6 x7 b : Int} (hb : b = 0 ∨ b = 25) : js_J E d 104 146 [(2, 22 + b), (0, x1), (0, x2), (0, x3), (0, x4), (0, x5), (0, x6), (0, x7)] [] σ = js_J E d 104 152 [(2, 22 + b), (0, x1), (0, x2), (0, x3), (0, x4), (0, x5), (0, x6), (0, x7)] [(0, x5), (2, 8 + b)] σ :=
  (j_aload_n q_104_146 rfl).trans <| (j_get (ji := 3) (v := (2, 8 + b)) q_104_147 (js_Fo qy_104 qf_10_25) (js_o22b hb) rfl rfl rfl rfl).trans <| (j_iload q_104_150 rfl).trans <| rfl
theorem k_104_152 {E : js_E} {d : Nat} {σ σ2 : js_S} {x1 x2 x3 x4 x5 x6 x7 z1 b : Int} (hb : b = 0 ∨ b = 25) (hd : 1 ≤ d) (hz : js_J E (d - 1) 91 0 [(2, 8 + b), (0, z1)] [] σ = js_r0 E σ2) : js_J E d 104 152 [(2, 22 + b), (0, x1), (0, x2), (0, x3), (0, x4), (0, x5), (0, x6), (0, x7)] [(0, z1), (2, 8 + b)] σ = js_J E d 104 155 [(2, 22 + b), (0, x1), (0, x2), (0, x3), (0, x4), (0, x5), (0, x6), (0, x7)] [] σ2 :=
  j_call0 (m := 0) (js_caV q_104_152 (js_Mo qy_104 qm_10_224)) (js_agV (av := [(0, z1)]) (st := []) rfl rfl (js_o8b hb) rfl) rfl rfl (by rw [ql_91]; exact Nat.le_of_ble_eq_true rfl) (Nat.le_of_ble_eq_true rfl) hd hz
theorem kt_104_152 {E : js_E} {d : Nat} {σ σ2 : js_S} {x1 x2 x3 x4 x5 x6 x7 z1 b : Int} (hb : b = 0 ∨ b = 25) {w : Int} (hd : 1 ≤ d) (hz : js_J E (d - 1) 91 0 [(2, 8 + b), (0, z1)] [] σ = js_t E w σ2) : js_J E d 104 152 [(2, 22 + b), (0, x1), (0, x2), (0, x3), (0, x4), (0, x5), (0, x6), (0, x7)] [(0, z1), (2, 8 + b)] σ = js_t E w σ2 :=
  j_callT (m := 0) (js_caV q_104_152 (js_Mo qy_104 qm_10_224)) (js_agV (av := [(0, z1)]) (st := []) rfl rfl (js_o8b hb) rfl) rfl rfl (by rw [ql_91]; exact Nat.le_of_ble_eq_true rfl) (Nat.le_of_ble_eq_true rfl) hd rfl hz
theorem b_104_155 {E : js_E} {d : Nat} {σ : js_S} {x1 x2 x3 x4 x5 x6 x7 b : Int} (hb : b = 0 ∨ b = 25) : js_J E d 104 155 [(2, 22 + b), (0, x1), (0, x2), (0, x3), (0, x4), (0, x5), (0, x6), (0, x7)] [] σ = (if js_w x7 = 0 then js_J E d 104 177 [(2, 22 + b), (0, x1), (0, x2), (0, x3), (0, x4), (0, x5), (0, x6), (0, x7)] [] σ else (if js_w (σ 1 1) = 207 then js_J E d 104 178 [(2, 22 + b), (0, x1), (0, x2), (0, x3), (0, x4), (0, x5), (0, x6), (0, x7)] [(0, 1)] σ else js_J E d 104 177 [(2, 22 + b), (0, x1), (0, x2), (0, x3), (0, x4), (0, x5), (0, x6), (0, x7)] [] σ)) :=
  (j_iload q_104_155 rfl).trans <| (j_ifeq (t := 177) q_104_157 rfl).trans (js_ite (rfl) ((j_aload_n q_104_160 rfl).trans <| (j_get (ji := 1) (v := (2, 1)) q_104_161 (js_Fo qy_104 qf_10_9) (js_o22b hb) rfl rfl rfl rfl).trans <| (j_get (ji := 1) (v := (0, σ 1 1)) q_104_164 (js_Fo qy_104 qf_10_53) js_o1 rfl rfl rfl rfl).trans <| (j_si q_104_167 rfl).trans <| (j_cmpneB (t := 177) q_104_170 rfl ww_207).trans (js_ite ((j_iconst q_104_173).trans <| (j_goto (t := 178) q_104_174 rfl).trans <| rfl) (rfl))))
theorem b_104_177 {E : js_E} {d : Nat} {σ : js_S} {x1 x2 x3 x4 x5 x6 x7 b : Int} : js_J E d 104 177 [(2, 22 + b), (0, x1), (0, x2), (0, x3), (0, x4), (0, x5), (0, x6), (0, x7)] [] σ = js_J E d 104 178 [(2, 22 + b), (0, x1), (0, x2), (0, x3), (0, x4), (0, x5), (0, x6), (0, x7)] [(0, 0)] σ :=
  (j_iconst q_104_177).trans <| rfl
theorem b_104_178 {E : js_E} {d : Nat} {σ : js_S} {x1 x2 x3 x4 x5 x6 x7 z0 b : Int} (hb : b = 0 ∨ b = 25) : js_J E d 104 178 [(2, 22 + b), (0, x1), (0, x2), (0, x3), (0, x4), (0, x5), (0, x6), (0, x7)] [(0, z0)] σ = (if js_w x7 = 0 then js_J E d 104 200 [(2, 22 + b), (0, x1), (0, x2), (0, z0), (0, x4), (0, x5), (0, x6), (0, x7)] [] σ else (if js_w z0 = 0 then js_J E d 104 197 [(2, 22 + b), (0, x1), (0, x2), (0, z0), (0, x4), (0, x5), (0, x6), (0, x7)] [(2, (-1)), (0, σ (7 + b) 1), (2, 22 + b)] σ else js_J E d 104 200 [(2, 22 + b), (0, x1), (0, x2), (0, z0), (0, x4), (0, x5), (0, x6), (0, x7)] [] σ)) :=
  (j_istore_n (l2 := [(2, 22 + b), (0, x1), (0, x2), (0, z0), (0, x4), (0, x5), (0, x6), (0, x7)]) q_104_178 rfl (Nat.le_of_ble_eq_true rfl)).trans <| (j_iload q_104_179 rfl).trans <| (j_ifeq (t := 200) q_104_181 rfl).trans (js_ite (rfl) ((j_iload_n q_104_184 rfl).trans <| (j_ifne (t := 200) q_104_185 rfl).trans (js_ite ((j_aload_n q_104_188 rfl).trans <| (j_aload_n q_104_189 rfl).trans <| (j_get (ji := 2) (v := (2, 7 + b)) q_104_190 (js_Fo qy_104 qf_10_15) (js_o22b hb) rfl rfl rfl rfl).trans <| (j_get (ji := 1) (v := (0, σ (7 + b) 1)) q_104_193 (js_Fo qy_104 qf_10_212) (js_o7b hb) rfl rfl rfl rfl).trans <| (j_null q_104_196).trans <| rfl) (rfl))))
theorem k_104_197 {E : js_E} {d : Nat} {σ σ2 : js_S} {x1 x2 x3 x4 x5 x6 x7 z1 z2 b : Int} (hb : b = 0 ∨ b = 25) (hd : 1 ≤ d) (hz : js_J E (d - 1) 55 0 [(2, 22 + b), (0, z1), (2, z2), (9, 0)] [] σ = js_r0 E σ2) : js_J E d 104 197 [(2, 22 + b), (0, x1), (0, x2), (0, x3), (0, x4), (0, x5), (0, x6), (0, x7)] [(2, z2), (0, z1), (2, 22 + b)] σ = js_J E d 104 200 [(2, 22 + b), (0, x1), (0, x2), (0, x3), (0, x4), (0, x5), (0, x6), (0, x7)] [] σ2 :=
  j_call0 (m := 1) (js_caV q_104_197 (js_Mo qy_104 qm_10_215)) (js_agV (av := [(0, z1), (2, z2)]) (st := []) rfl rfl (js_o22b hb) rfl) rfl rfl (by rw [ql_55]; exact Nat.le_of_ble_eq_true rfl) (Nat.le_of_ble_eq_true rfl) hd hz
theorem kt_104_197 {E : js_E} {d : Nat} {σ σ2 : js_S} {x1 x2 x3 x4 x5 x6 x7 z1 z2 b : Int} (hb : b = 0 ∨ b = 25) {w : Int} (hd : 1 ≤ d) (hz : js_J E (d - 1) 55 0 [(2, 22 + b), (0, z1), (2, z2), (9, 0)] [] σ = js_t E w σ2) : js_J E d 104 197 [(2, 22 + b), (0, x1), (0, x2), (0, x3), (0, x4), (0, x5), (0, x6), (0, x7)] [(2, z2), (0, z1), (2, 22 + b)] σ = js_t E w σ2 :=
  j_callT (m := 1) (js_caV q_104_197 (js_Mo qy_104 qm_10_215)) (js_agV (av := [(0, z1), (2, z2)]) (st := []) rfl rfl (js_o22b hb) rfl) rfl rfl (by rw [ql_55]; exact Nat.le_of_ble_eq_true rfl) (Nat.le_of_ble_eq_true rfl) hd rfl hz
theorem b_104_200 {E : js_E} {d : Nat} {σ : js_S} {x1 x2 x3 x4 x5 x6 x7 b : Int} : js_J E d 104 200 [(2, 22 + b), (0, x1), (0, x2), (0, x3), (0, x4), (0, x5), (0, x6), (0, x7)] [] σ = js_J E d 104 9 [(2, 22 + b), (0, x1), (0, x2), (0, x3), (0, x4 + 1), (0, x5), (0, x6), (0, x7)] [] σ :=
  (j_iinc (l2 := [(2, 22 + b), (0, x1), (0, x2), (0, x3), (0, x4 + 1), (0, x5), (0, x6), (0, x7)]) q_104_200 rfl rfl).trans <| (j_goto (t := 9) q_104_203 rfl).trans <| rfl
theorem b_104_206 {E : js_E} {d : Nat} {σ : js_S} {x1 x2 x3 x4 b : Int} {ux5 ux6 ux7 : js_v} (hb : b = 0 ∨ b = 25) : js_J E d 104 206 [(2, 22 + b), (0, x1), (0, x2), (0, x3), (0, x4), ux5, ux6, ux7] [] σ = js_J E d 104 211 [(2, 22 + b), (0, x1), (0, x2), (0, x3), (0, x4), ux5, ux6, ux7] [(0, x1), (2, 8 + b)] σ :=
  (j_aload_n q_104_206 rfl).trans <| (j_get (ji := 3) (v := (2, 8 + b)) q_104_207 (js_Fo qy_104 qf_10_25) (js_o22b hb) rfl rfl rfl rfl).trans <| (j_iload_n q_104_210 rfl).trans <| rfl
theorem k_104_211 {E : js_E} {d : Nat} {σ σ2 : js_S} {x1 x2 x3 x4 z1 b : Int} {ux5 ux6 ux7 : js_v} (hb : b = 0 ∨ b = 25) (hd : 1 ≤ d) (hz : js_J E (d - 1) 103 0 [(2, 8 + b), (0, z1), (9, 0), (9, 0), (9, 0)] [] σ = js_r0 E σ2) : js_J E d 104 211 [(2, 22 + b), (0, x1), (0, x2), (0, x3), (0, x4), ux5, ux6, ux7] [(0, z1), (2, 8 + b)] σ = js_J E d 104 214 [(2, 22 + b), (0, x1), (0, x2), (0, x3), (0, x4), ux5, ux6, ux7] [] σ2 :=
  j_call0 (m := 3) (js_caV q_104_211 (js_Mo qy_104 qm_10_227)) (js_agV (av := [(0, z1)]) (st := []) rfl rfl (js_o8b hb) rfl) rfl rfl (by rw [ql_103]; exact Nat.le_of_ble_eq_true rfl) (Nat.le_of_ble_eq_true rfl) hd hz
theorem kt_104_211 {E : js_E} {d : Nat} {σ σ2 : js_S} {x1 x2 x3 x4 z1 b : Int} {ux5 ux6 ux7 : js_v} (hb : b = 0 ∨ b = 25) {w : Int} (hd : 1 ≤ d) (hz : js_J E (d - 1) 103 0 [(2, 8 + b), (0, z1), (9, 0), (9, 0), (9, 0)] [] σ = js_t E w σ2) : js_J E d 104 211 [(2, 22 + b), (0, x1), (0, x2), (0, x3), (0, x4), ux5, ux6, ux7] [(0, z1), (2, 8 + b)] σ = js_t E w σ2 :=
  j_callT (m := 3) (js_caV q_104_211 (js_Mo qy_104 qm_10_227)) (js_agV (av := [(0, z1)]) (st := []) rfl rfl (js_o8b hb) rfl) rfl rfl (by rw [ql_103]; exact Nat.le_of_ble_eq_true rfl) (Nat.le_of_ble_eq_true rfl) hd rfl hz
theorem b_104_214 {E : js_E} {d : Nat} {σ : js_S} {x1 x2 x3 x4 b : Int} {ux5 ux6 ux7 : js_v} (hd : 4 ≤ d) (hb : b = 0 ∨ b = 25) : js_J E d 104 214 [(2, 22 + b), (0, x1), (0, x2), (0, x3), (0, x4), ux5, ux6, ux7] [] σ = js_r0 E (js_up σ (8 + b) 7 (if js_w x2 < js_w (σ (8 + b) 7) then (σ (8 + b) 7) else x2)) :=
  (j_aload_n q_104_214 rfl).trans <| (j_get (ji := 3) (v := (2, 8 + b)) q_104_215 (js_Fo qy_104 qf_10_25) (js_o22b hb) rfl rfl rfl rfl).trans <| (j_iload_n q_104_218 rfl).trans <| (j_aload_n q_104_219 rfl).trans <| (j_get (ji := 3) (v := (2, 8 + b)) q_104_220 (js_Fo qy_104 qf_10_25) (js_o22b hb) rfl rfl rfl rfl).trans <| (j_get (ji := 7) (v := (0, σ (8 + b) 7)) q_104_223 (js_Fo qy_104 qf_10_209) (js_o8b hb) rfl rfl rfl rfl).trans <| (j_max (js_clS q_104_226 (js_Mo qy_104 qm_10_219)) (Nat.le_of_ble_eq_true rfl) hd).trans <| (j_putI (ji := 7) q_104_229 (js_Fo qy_104 qf_10_209) rfl (js_o8b hb) rfl rfl rfl).trans <| j_return q_104_232 qr_104
-- 105: VitalTwin$Statements.rounds ()V
theorem b_105_0 {E : js_E} {d : Nat} {σ : js_S} {b : Int} (hb : b = 0 ∨ b = 25) : js_J E d 105 0 [(2, 22 + b), (9, 0), (9, 0), (9, 0), (9, 0), (9, 0), (9, 0), (9, 0), (9, 0), (9, 0)] [] σ = js_J E d 105 4 [(2, 22 + b), (9, 0), (9, 0), (9, 0), (9, 0), (9, 0), (9, 0), (9, 0), (9, 0), (9, 0)] [(2, 1)] σ :=
  (j_aload_n q_105_0 rfl).trans <| (j_get (ji := 1) (v := (2, 1)) q_105_1 (js_Fo qy_105 qf_10_9) (js_o22b hb) rfl rfl rfl rfl).trans <| rfl
theorem k_105_4 {E : js_E} {d : Nat} {σ σ2 : js_S} {b : Int} (hd : 1 ≤ d) (hz : js_J E (d - 1) 33 0 [(2, 1), (9, 0)] [] σ = js_r0 E σ2) : js_J E d 105 4 [(2, 22 + b), (9, 0), (9, 0), (9, 0), (9, 0), (9, 0), (9, 0), (9, 0), (9, 0), (9, 0)] [(2, 1)] σ = js_J E d 105 7 [(2, 22 + b), (9, 0), (9, 0), (9, 0), (9, 0), (9, 0), (9, 0), (9, 0), (9, 0), (9, 0)] [] σ2 :=
  j_call0 (m := 1) (js_caV q_105_4 (js_Mo qy_105 qm_10_89)) (js_agV (av := []) (st := []) rfl rfl js_o1 rfl) rfl rfl (by rw [ql_33]; exact Nat.le_of_ble_eq_true rfl) (Nat.le_of_ble_eq_true rfl) hd hz
theorem kt_105_4 {E : js_E} {d : Nat} {σ σ2 : js_S} {b : Int} {w : Int} (hd : 1 ≤ d) (hz : js_J E (d - 1) 33 0 [(2, 1), (9, 0)] [] σ = js_t E w σ2) : js_J E d 105 4 [(2, 22 + b), (9, 0), (9, 0), (9, 0), (9, 0), (9, 0), (9, 0), (9, 0), (9, 0), (9, 0)] [(2, 1)] σ = js_t E w σ2 :=
  j_callT (m := 1) (js_caV q_105_4 (js_Mo qy_105 qm_10_89)) (js_agV (av := []) (st := []) rfl rfl js_o1 rfl) rfl rfl (by rw [ql_33]; exact Nat.le_of_ble_eq_true rfl) (Nat.le_of_ble_eq_true rfl) hd rfl hz
theorem b_105_7 {E : js_E} {d : Nat} {σ : js_S} {b : Int} (hb : b = 0 ∨ b = 25) : js_J E d 105 7 [(2, 22 + b), (9, 0), (9, 0), (9, 0), (9, 0), (9, 0), (9, 0), (9, 0), (9, 0), (9, 0)] [] σ = js_J E d 105 18 [(2, 22 + b), (9, 0), (9, 0), (9, 0), (9, 0), (9, 0), (9, 0), (9, 0), (9, 0), (9, 0)] [(2, 1), (0, 0), (0, 7), (2, 7 + b)] σ :=
  (j_aload_n q_105_7 rfl).trans <| (j_get (ji := 2) (v := (2, 7 + b)) q_105_8 (js_Fo qy_105 qf_10_15) (js_o22b hb) rfl rfl rfl rfl).trans <| (j_bi q_105_11 rfl).trans <| (j_iconst q_105_13).trans <| (j_aload_n q_105_14 rfl).trans <| (j_get (ji := 1) (v := (2, 1)) q_105_15 (js_Fo qy_105 qf_10_9) (js_o22b hb) rfl rfl rfl rfl).trans <| rfl
theorem k_105_18 {E : js_E} {d : Nat} {σ σ2 : js_S} {z1 z2 b : Int} (hb : b = 0 ∨ b = 25) {v : Int} (hd : 1 ≤ d) (hz : js_J E (d - 1) 35 0 [(2, 7 + b), (0, z1), (0, z2), (2, 1), (9, 0), (9, 0)] [] σ = js_r E (2, v) σ2) : js_J E d 105 18 [(2, 22 + b), (9, 0), (9, 0), (9, 0), (9, 0), (9, 0), (9, 0), (9, 0), (9, 0), (9, 0)] [(2, 1), (0, z2), (0, z1), (2, 7 + b)] σ = js_J E d 105 21 [(2, 22 + b), (9, 0), (9, 0), (9, 0), (9, 0), (9, 0), (9, 0), (9, 0), (9, 0), (9, 0)] [(2, v)] σ2 :=
  j_call (m := 2) (js_caV q_105_18 (js_Mo qy_105 qm_10_146)) (js_agV (av := [(0, z1), (0, z2), (2, 1)]) (st := []) rfl rfl (js_o7b hb) rfl) rfl rfl (by rw [ql_35]; exact Nat.le_of_ble_eq_true rfl) (Nat.le_of_ble_eq_true rfl) hd hz
theorem kt_105_18 {E : js_E} {d : Nat} {σ σ2 : js_S} {z1 z2 b : Int} (hb : b = 0 ∨ b = 25) {w : Int} (hd : 1 ≤ d) (hz : js_J E (d - 1) 35 0 [(2, 7 + b), (0, z1), (0, z2), (2, 1), (9, 0), (9, 0)] [] σ = js_t E w σ2) : js_J E d 105 18 [(2, 22 + b), (9, 0), (9, 0), (9, 0), (9, 0), (9, 0), (9, 0), (9, 0), (9, 0), (9, 0)] [(2, 1), (0, z2), (0, z1), (2, 7 + b)] σ = js_t E w σ2 :=
  j_callT (m := 2) (js_caV q_105_18 (js_Mo qy_105 qm_10_146)) (js_agV (av := [(0, z1), (0, z2), (2, 1)]) (st := []) rfl rfl (js_o7b hb) rfl) rfl rfl (by rw [ql_35]; exact Nat.le_of_ble_eq_true rfl) (Nat.le_of_ble_eq_true rfl) hd rfl hz
theorem b_105_21 {E : js_E} {d : Nat} {σ : js_S} {z0 b : Int} : js_J E d 105 21 [(2, 22 + b), (9, 0), (9, 0), (9, 0), (9, 0), (9, 0), (9, 0), (9, 0), (9, 0), (9, 0)] [(2, z0)] σ = js_J E d 105 24 [(2, 22 + b), (2, z0), (9, 0), (9, 0), (9, 0), (9, 0), (9, 0), (9, 0), (9, 0), (9, 0)] [(2, z0), (2, 22 + b)] σ :=
  (j_astore_n (l2 := [(2, 22 + b), (2, z0), (9, 0), (9, 0), (9, 0), (9, 0), (9, 0), (9, 0), (9, 0), (9, 0)]) q_105_21 rfl (Nat.le_of_ble_eq_true rfl)).trans <| (j_aload_n q_105_22 rfl).trans <| (j_aload_n q_105_23 rfl).trans <| rfl
theorem k_105_24 {E : js_E} {d : Nat} {σ σ2 : js_S} {x1 z1 b : Int} (hb : b = 0 ∨ b = 25) (hd : 1 ≤ d) (hz : js_J E (d - 1) 54 0 [(2, 22 + b), (2, z1)] [] σ = js_r0 E σ2) : js_J E d 105 24 [(2, 22 + b), (2, x1), (9, 0), (9, 0), (9, 0), (9, 0), (9, 0), (9, 0), (9, 0), (9, 0)] [(2, z1), (2, 22 + b)] σ = js_J E d 105 27 [(2, 22 + b), (2, x1), (9, 0), (9, 0), (9, 0), (9, 0), (9, 0), (9, 0), (9, 0), (9, 0)] [] σ2 :=
  j_call0 (m := 0) (js_caV q_105_24 (js_Mo qy_105 qm_10_158)) (js_agV (av := [(2, z1)]) (st := []) rfl rfl (js_o22b hb) rfl) rfl rfl (by rw [ql_54]; exact Nat.le_of_ble_eq_true rfl) (Nat.le_of_ble_eq_true rfl) hd hz
theorem kt_105_24 {E : js_E} {d : Nat} {σ σ2 : js_S} {x1 z1 b : Int} (hb : b = 0 ∨ b = 25) {w : Int} (hd : 1 ≤ d) (hz : js_J E (d - 1) 54 0 [(2, 22 + b), (2, z1)] [] σ = js_t E w σ2) : js_J E d 105 24 [(2, 22 + b), (2, x1), (9, 0), (9, 0), (9, 0), (9, 0), (9, 0), (9, 0), (9, 0), (9, 0)] [(2, z1), (2, 22 + b)] σ = js_t E w σ2 :=
  j_callT (m := 0) (js_caV q_105_24 (js_Mo qy_105 qm_10_158)) (js_agV (av := [(2, z1)]) (st := []) rfl rfl (js_o22b hb) rfl) rfl rfl (by rw [ql_54]; exact Nat.le_of_ble_eq_true rfl) (Nat.le_of_ble_eq_true rfl) hd rfl hz
theorem b_105_27 {E : js_E} {d : Nat} {σ : js_S} {x1 b : Int} (hb : b = 0 ∨ b = 25) : js_J E d 105 27 [(2, 22 + b), (2, x1), (9, 0), (9, 0), (9, 0), (9, 0), (9, 0), (9, 0), (9, 0), (9, 0)] [] σ = js_J E d 105 33 [(2, 22 + b), (2, x1), (9, 0), (9, 0), (9, 0), (9, 0), (9, 0), (9, 0), (9, 0), (9, 0)] [(0, 61), (2, 1)] σ :=
  (j_aload_n q_105_27 rfl).trans <| (j_get (ji := 1) (v := (2, 1)) q_105_28 (js_Fo qy_105 qf_10_9) (js_o22b hb) rfl rfl rfl rfl).trans <| (j_bi q_105_31 rfl).trans <| rfl
theorem k_105_33 {E : js_E} {d : Nat} {σ σ2 : js_S} {x1 z1 b : Int} (hd : 1 ≤ d) (hz : js_J E (d - 1) 40 0 [(2, 1), (0, z1)] [] σ = js_r0 E σ2) : js_J E d 105 33 [(2, 22 + b), (2, x1), (9, 0), (9, 0), (9, 0), (9, 0), (9, 0), (9, 0), (9, 0), (9, 0)] [(0, z1), (2, 1)] σ = js_J E d 105 36 [(2, 22 + b), (2, x1), (9, 0), (9, 0), (9, 0), (9, 0), (9, 0), (9, 0), (9, 0), (9, 0)] [] σ2 :=
  j_call0 (m := 0) (js_caV q_105_33 (js_Mo qy_105 qm_10_59)) (js_agV (av := [(0, z1)]) (st := []) rfl rfl js_o1 rfl) rfl rfl (by rw [ql_40]; exact Nat.le_of_ble_eq_true rfl) (Nat.le_of_ble_eq_true rfl) hd hz
theorem kt_105_33 {E : js_E} {d : Nat} {σ σ2 : js_S} {x1 z1 b : Int} {w : Int} (hd : 1 ≤ d) (hz : js_J E (d - 1) 40 0 [(2, 1), (0, z1)] [] σ = js_t E w σ2) : js_J E d 105 33 [(2, 22 + b), (2, x1), (9, 0), (9, 0), (9, 0), (9, 0), (9, 0), (9, 0), (9, 0), (9, 0)] [(0, z1), (2, 1)] σ = js_t E w σ2 :=
  j_callT (m := 0) (js_caV q_105_33 (js_Mo qy_105 qm_10_59)) (js_agV (av := [(0, z1)]) (st := []) rfl rfl js_o1 rfl) rfl rfl (by rw [ql_40]; exact Nat.le_of_ble_eq_true rfl) (Nat.le_of_ble_eq_true rfl) hd rfl hz
theorem b_105_36 {E : js_E} {d : Nat} {σ : js_S} {x1 b : Int} (hb : b = 0 ∨ b = 25) : js_J E d 105 36 [(2, 22 + b), (2, x1), (9, 0), (9, 0), (9, 0), (9, 0), (9, 0), (9, 0), (9, 0), (9, 0)] [] σ = js_J E d 105 41 [(2, 22 + b), (2, x1), (9, 0), (9, 0), (9, 0), (9, 0), (9, 0), (9, 0), (9, 0), (9, 0)] [(0, 0), (2, 21 + b)] σ :=
  (j_aload_n q_105_36 rfl).trans <| (j_get (ji := 4) (v := (2, 21 + b)) q_105_37 (js_Fo qy_105 qf_10_26) (js_o22b hb) rfl rfl rfl rfl).trans <| (j_iconst q_105_40).trans <| rfl
theorem k_105_41 {E : js_E} {d : Nat} {σ σ2 : js_S} {x1 z1 b : Int} (hb : b = 0 ∨ b = 25) {v : Int} (hd : 1 ≤ d) (hz : js_J E (d - 1) 41 0 [(2, 21 + b), (0, z1), (9, 0), (9, 0), (9, 0)] [] σ = js_r E (0, v) σ2) : js_J E d 105 41 [(2, 22 + b), (2, x1), (9, 0), (9, 0), (9, 0), (9, 0), (9, 0), (9, 0), (9, 0), (9, 0)] [(0, z1), (2, 21 + b)] σ = js_J E d 105 44 [(2, 22 + b), (2, x1), (9, 0), (9, 0), (9, 0), (9, 0), (9, 0), (9, 0), (9, 0), (9, 0)] [(0, v)] σ2 :=
  j_call (m := 3) (js_caV q_105_41 (js_Mo qy_105 qm_10_237)) (js_agV (av := [(0, z1)]) (st := []) rfl rfl (js_o21b hb) rfl) rfl rfl (by rw [ql_41]; exact Nat.le_of_ble_eq_true rfl) (Nat.le_of_ble_eq_true rfl) hd hz
theorem kt_105_41 {E : js_E} {d : Nat} {σ σ2 : js_S} {x1 z1 b : Int} (hb : b = 0 ∨ b = 25) {w : Int} (hd : 1 ≤ d) (hz : js_J E (d - 1) 41 0 [(2, 21 + b), (0, z1), (9, 0), (9, 0), (9, 0)] [] σ = js_t E w σ2) : js_J E d 105 41 [(2, 22 + b), (2, x1), (9, 0), (9, 0), (9, 0), (9, 0), (9, 0), (9, 0), (9, 0), (9, 0)] [(0, z1), (2, 21 + b)] σ = js_t E w σ2 :=
  j_callT (m := 3) (js_caV q_105_41 (js_Mo qy_105 qm_10_237)) (js_agV (av := [(0, z1)]) (st := []) rfl rfl (js_o21b hb) rfl) rfl rfl (by rw [ql_41]; exact Nat.le_of_ble_eq_true rfl) (Nat.le_of_ble_eq_true rfl) hd rfl hz
theorem b_105_44 {E : js_E} {d : Nat} {σ : js_S} {x1 z0 b : Int} (hb : b = 0 ∨ b = 25) : js_J E d 105 44 [(2, 22 + b), (2, x1), (9, 0), (9, 0), (9, 0), (9, 0), (9, 0), (9, 0), (9, 0), (9, 0)] [(0, z0)] σ = js_J E d 105 52 [(2, 22 + b), (2, x1), (0, z0), (9, 0), (9, 0), (9, 0), (9, 0), (9, 0), (9, 0), (9, 0)] [(0, 211), (2, 1)] σ :=
  (j_istore_n (l2 := [(2, 22 + b), (2, x1), (0, z0), (9, 0), (9, 0), (9, 0), (9, 0), (9, 0), (9, 0), (9, 0)]) q_105_44 rfl (Nat.le_of_ble_eq_true rfl)).trans <| (j_aload_n q_105_45 rfl).trans <| (j_get (ji := 1) (v := (2, 1)) q_105_46 (js_Fo qy_105 qf_10_9) (js_o22b hb) rfl rfl rfl rfl).trans <| (j_si q_105_49 rfl).trans <| rfl
theorem k_105_52 {E : js_E} {d : Nat} {σ σ2 : js_S} {x1 x2 z1 b : Int} (hd : 1 ≤ d) (hz : js_J E (d - 1) 40 0 [(2, 1), (0, z1)] [] σ = js_r0 E σ2) : js_J E d 105 52 [(2, 22 + b), (2, x1), (0, x2), (9, 0), (9, 0), (9, 0), (9, 0), (9, 0), (9, 0), (9, 0)] [(0, z1), (2, 1)] σ = js_J E d 105 55 [(2, 22 + b), (2, x1), (0, x2), (9, 0), (9, 0), (9, 0), (9, 0), (9, 0), (9, 0), (9, 0)] [] σ2 :=
  j_call0 (m := 0) (js_caV q_105_52 (js_Mo qy_105 qm_10_59)) (js_agV (av := [(0, z1)]) (st := []) rfl rfl js_o1 rfl) rfl rfl (by rw [ql_40]; exact Nat.le_of_ble_eq_true rfl) (Nat.le_of_ble_eq_true rfl) hd hz
theorem kt_105_52 {E : js_E} {d : Nat} {σ σ2 : js_S} {x1 x2 z1 b : Int} {w : Int} (hd : 1 ≤ d) (hz : js_J E (d - 1) 40 0 [(2, 1), (0, z1)] [] σ = js_t E w σ2) : js_J E d 105 52 [(2, 22 + b), (2, x1), (0, x2), (9, 0), (9, 0), (9, 0), (9, 0), (9, 0), (9, 0), (9, 0)] [(0, z1), (2, 1)] σ = js_t E w σ2 :=
  j_callT (m := 0) (js_caV q_105_52 (js_Mo qy_105 qm_10_59)) (js_agV (av := [(0, z1)]) (st := []) rfl rfl js_o1 rfl) rfl rfl (by rw [ql_40]; exact Nat.le_of_ble_eq_true rfl) (Nat.le_of_ble_eq_true rfl) hd rfl hz
theorem b_105_55 {E : js_E} {d : Nat} {σ : js_S} {x1 x2 b : Int} (hb : b = 0 ∨ b = 25) : js_J E d 105 55 [(2, 22 + b), (2, x1), (0, x2), (9, 0), (9, 0), (9, 0), (9, 0), (9, 0), (9, 0), (9, 0)] [] σ = js_J E d 105 60 [(2, 22 + b), (2, x1), (0, x2), (9, 0), (9, 0), (9, 0), (9, 0), (9, 0), (9, 0), (9, 0)] [(0, 0), (2, 21 + b)] σ :=
  (j_aload_n q_105_55 rfl).trans <| (j_get (ji := 4) (v := (2, 21 + b)) q_105_56 (js_Fo qy_105 qf_10_26) (js_o22b hb) rfl rfl rfl rfl).trans <| (j_iconst q_105_59).trans <| rfl
theorem k_105_60 {E : js_E} {d : Nat} {σ σ2 : js_S} {x1 x2 z1 b : Int} (hb : b = 0 ∨ b = 25) {v : Int} (hd : 1 ≤ d) (hz : js_J E (d - 1) 41 0 [(2, 21 + b), (0, z1), (9, 0), (9, 0), (9, 0)] [] σ = js_r E (0, v) σ2) : js_J E d 105 60 [(2, 22 + b), (2, x1), (0, x2), (9, 0), (9, 0), (9, 0), (9, 0), (9, 0), (9, 0), (9, 0)] [(0, z1), (2, 21 + b)] σ = js_J E d 105 63 [(2, 22 + b), (2, x1), (0, x2), (9, 0), (9, 0), (9, 0), (9, 0), (9, 0), (9, 0), (9, 0)] [(0, v)] σ2 :=
  j_call (m := 3) (js_caV q_105_60 (js_Mo qy_105 qm_10_237)) (js_agV (av := [(0, z1)]) (st := []) rfl rfl (js_o21b hb) rfl) rfl rfl (by rw [ql_41]; exact Nat.le_of_ble_eq_true rfl) (Nat.le_of_ble_eq_true rfl) hd hz
theorem kt_105_60 {E : js_E} {d : Nat} {σ σ2 : js_S} {x1 x2 z1 b : Int} (hb : b = 0 ∨ b = 25) {w : Int} (hd : 1 ≤ d) (hz : js_J E (d - 1) 41 0 [(2, 21 + b), (0, z1), (9, 0), (9, 0), (9, 0)] [] σ = js_t E w σ2) : js_J E d 105 60 [(2, 22 + b), (2, x1), (0, x2), (9, 0), (9, 0), (9, 0), (9, 0), (9, 0), (9, 0), (9, 0)] [(0, z1), (2, 21 + b)] σ = js_t E w σ2 :=
  j_callT (m := 3) (js_caV q_105_60 (js_Mo qy_105 qm_10_237)) (js_agV (av := [(0, z1)]) (st := []) rfl rfl (js_o21b hb) rfl) rfl rfl (by rw [ql_41]; exact Nat.le_of_ble_eq_true rfl) (Nat.le_of_ble_eq_true rfl) hd rfl hz
theorem b_105_63 {E : js_E} {d : Nat} {σ : js_S} {x1 x2 z0 b : Int} (hb : b = 0 ∨ b = 25) : js_J E d 105 63 [(2, 22 + b), (2, x1), (0, x2), (9, 0), (9, 0), (9, 0), (9, 0), (9, 0), (9, 0), (9, 0)] [(0, z0)] σ = js_J E d 105 69 [(2, 22 + b), (2, x1), (0, x2), (0, z0), (9, 0), (9, 0), (9, 0), (9, 0), (9, 0), (9, 0)] [(0, x2), (2, 21 + b)] σ :=
  (j_istore_n (l2 := [(2, 22 + b), (2, x1), (0, x2), (0, z0), (9, 0), (9, 0), (9, 0), (9, 0), (9, 0), (9, 0)]) q_105_63 rfl (Nat.le_of_ble_eq_true rfl)).trans <| (j_aload_n q_105_64 rfl).trans <| (j_get (ji := 4) (v := (2, 21 + b)) q_105_65 (js_Fo qy_105 qf_10_26) (js_o22b hb) rfl rfl rfl rfl).trans <| (j_iload_n q_105_68 rfl).trans <| rfl
theorem k_105_69 {E : js_E} {d : Nat} {σ σ2 : js_S} {x1 x2 x3 z1 b : Int} (hb : b = 0 ∨ b = 25) (hd : 1 ≤ d) (hz : js_J E (d - 1) 50 0 [(2, 21 + b), (0, z1)] [] σ = js_r0 E σ2) : js_J E d 105 69 [(2, 22 + b), (2, x1), (0, x2), (0, x3), (9, 0), (9, 0), (9, 0), (9, 0), (9, 0), (9, 0)] [(0, z1), (2, 21 + b)] σ = js_J E d 105 72 [(2, 22 + b), (2, x1), (0, x2), (0, x3), (9, 0), (9, 0), (9, 0), (9, 0), (9, 0), (9, 0)] [] σ2 :=
  j_call0 (m := 0) (js_caV q_105_69 (js_Mo qy_105 qm_10_245)) (js_agV (av := [(0, z1)]) (st := []) rfl rfl (js_o21b hb) rfl) rfl rfl (by rw [ql_50]; exact Nat.le_of_ble_eq_true rfl) (Nat.le_of_ble_eq_true rfl) hd hz
theorem kt_105_69 {E : js_E} {d : Nat} {σ σ2 : js_S} {x1 x2 x3 z1 b : Int} (hb : b = 0 ∨ b = 25) {w : Int} (hd : 1 ≤ d) (hz : js_J E (d - 1) 50 0 [(2, 21 + b), (0, z1)] [] σ = js_t E w σ2) : js_J E d 105 69 [(2, 22 + b), (2, x1), (0, x2), (0, x3), (9, 0), (9, 0), (9, 0), (9, 0), (9, 0), (9, 0)] [(0, z1), (2, 21 + b)] σ = js_t E w σ2 :=
  j_callT (m := 0) (js_caV q_105_69 (js_Mo qy_105 qm_10_245)) (js_agV (av := [(0, z1)]) (st := []) rfl rfl (js_o21b hb) rfl) rfl rfl (by rw [ql_50]; exact Nat.le_of_ble_eq_true rfl) (Nat.le_of_ble_eq_true rfl) hd rfl hz
theorem b_105_72 {E : js_E} {d : Nat} {σ : js_S} {x1 x2 x3 b : Int} : js_J E d 105 72 [(2, 22 + b), (2, x1), (0, x2), (0, x3), (9, 0), (9, 0), (9, 0), (9, 0), (9, 0), (9, 0)] [] σ = js_J E d 105 76 [(2, 22 + b), (2, x1), (0, x2), (0, x3), (9, 0), (9, 0), (9, 0), (9, 0), (9, 0), (9, 0)] [(0, x3), (0, x2), (0, 0), (2, x1)] σ :=
  (j_aload_n q_105_72 rfl).trans <| (j_iconst q_105_73).trans <| (j_iload_n q_105_74 rfl).trans <| (j_iload_n q_105_75 rfl).trans <| rfl
theorem k_105_76 {E : js_E} {d : Nat} {σ σ2 : js_S} {x1 x2 x3 z0 z1 z2 z3 b : Int} (hs_z0 : js_desc E.1 σ z0 = some (0, 11, js_sym)) (hd : 1 ≤ d) (hz : js_J E (d - 1) 43 0 [(2, z0), (0, z1), (0, z2), (0, z3)] [] σ = js_r0 E σ2) : js_J E d 105 76 [(2, 22 + b), (2, x1), (0, x2), (0, x3), (9, 0), (9, 0), (9, 0), (9, 0), (9, 0), (9, 0)] [(0, z3), (0, z2), (0, z1), (2, z0)] σ = js_J E d 105 79 [(2, 22 + b), (2, x1), (0, x2), (0, x3), (9, 0), (9, 0), (9, 0), (9, 0), (9, 0), (9, 0)] [] σ2 :=
  j_call0 (m := 0) (js_caV q_105_76 (js_Mo qy_105 qm_10_248)) (js_agV (av := [(0, z1), (0, z2), (0, z3)]) (st := []) rfl rfl hs_z0 rfl) rfl rfl (by rw [ql_43]; exact Nat.le_of_ble_eq_true rfl) (Nat.le_of_ble_eq_true rfl) hd hz
theorem kt_105_76 {E : js_E} {d : Nat} {σ σ2 : js_S} {x1 x2 x3 z0 z1 z2 z3 b : Int} (hs_z0 : js_desc E.1 σ z0 = some (0, 11, js_sym)) {w : Int} (hd : 1 ≤ d) (hz : js_J E (d - 1) 43 0 [(2, z0), (0, z1), (0, z2), (0, z3)] [] σ = js_t E w σ2) : js_J E d 105 76 [(2, 22 + b), (2, x1), (0, x2), (0, x3), (9, 0), (9, 0), (9, 0), (9, 0), (9, 0), (9, 0)] [(0, z3), (0, z2), (0, z1), (2, z0)] σ = js_t E w σ2 :=
  j_callT (m := 0) (js_caV q_105_76 (js_Mo qy_105 qm_10_248)) (js_agV (av := [(0, z1), (0, z2), (0, z3)]) (st := []) rfl rfl hs_z0 rfl) rfl rfl (by rw [ql_43]; exact Nat.le_of_ble_eq_true rfl) (Nat.le_of_ble_eq_true rfl) hd rfl hz
theorem b_105_79 {E : js_E} {d : Nat} {σ : js_S} {x1 x2 x3 b : Int} (hs_x1 : js_desc E.1 σ x1 = some (0, 11, js_sym)) (hb : b = 0 ∨ b = 25) : js_J E d 105 79 [(2, 22 + b), (2, x1), (0, x2), (0, x3), (9, 0), (9, 0), (9, 0), (9, 0), (9, 0), (9, 0)] [] σ = js_J E d 105 92 [(2, 22 + b), (2, x1), (0, x2), (0, x3), (9, 0), (9, 0), (9, 0), (9, 0), (9, 0), (9, 0)] [(0, x2), (0, x2), (0, x2), (0, 0), (2, 8 + b)] (js_up σ x1 13 1) :=
  (j_aload_n q_105_79 rfl).trans <| (j_iconst q_105_80).trans <| (j_putB1 (ji := 13) q_105_81 (js_Fo qy_105 qf_10_178) rfl hs_x1 rfl rfl rfl).trans <| (j_aload_n q_105_84 rfl).trans <| (j_get (ji := 3) (v := (2, 8 + b)) q_105_85 (js_Fo qy_105 qf_10_25) (js_o22b hb) rfl rfl rfl rfl).trans <| (j_iconst q_105_88).trans <| (j_iload_n q_105_89 rfl).trans <| (j_iload_n q_105_90 rfl).trans <| (j_iload_n q_105_91 rfl).trans <| rfl
theorem k_105_92 {E : js_E} {d : Nat} {σ σ2 : js_S} {x1 x2 x3 z1 z2 z3 z4 b : Int} (hb : b = 0 ∨ b = 25) (hd : 1 ≤ d) (hz : js_J E (d - 1) 59 0 [(2, 8 + b), (0, z1), (0, z2), (0, z3), (0, z4)] [] σ = js_r0 E σ2) : js_J E d 105 92 [(2, 22 + b), (2, x1), (0, x2), (0, x3), (9, 0), (9, 0), (9, 0), (9, 0), (9, 0), (9, 0)] [(0, z4), (0, z3), (0, z2), (0, z1), (2, 8 + b)] σ = js_J E d 105 95 [(2, 22 + b), (2, x1), (0, x2), (0, x3), (9, 0), (9, 0), (9, 0), (9, 0), (9, 0), (9, 0)] [] σ2 :=
  j_call0 (m := 0) (js_caV q_105_92 (js_Mo qy_105 qm_10_171)) (js_agV (av := [(0, z1), (0, z2), (0, z3), (0, z4)]) (st := []) rfl rfl (js_o8b hb) rfl) rfl rfl (by rw [ql_59]; exact Nat.le_of_ble_eq_true rfl) (Nat.le_of_ble_eq_true rfl) hd hz
theorem kt_105_92 {E : js_E} {d : Nat} {σ σ2 : js_S} {x1 x2 x3 z1 z2 z3 z4 b : Int} (hb : b = 0 ∨ b = 25) {w : Int} (hd : 1 ≤ d) (hz : js_J E (d - 1) 59 0 [(2, 8 + b), (0, z1), (0, z2), (0, z3), (0, z4)] [] σ = js_t E w σ2) : js_J E d 105 92 [(2, 22 + b), (2, x1), (0, x2), (0, x3), (9, 0), (9, 0), (9, 0), (9, 0), (9, 0), (9, 0)] [(0, z4), (0, z3), (0, z2), (0, z1), (2, 8 + b)] σ = js_t E w σ2 :=
  j_callT (m := 0) (js_caV q_105_92 (js_Mo qy_105 qm_10_171)) (js_agV (av := [(0, z1), (0, z2), (0, z3), (0, z4)]) (st := []) rfl rfl (js_o8b hb) rfl) rfl rfl (by rw [ql_59]; exact Nat.le_of_ble_eq_true rfl) (Nat.le_of_ble_eq_true rfl) hd rfl hz
theorem b_105_95 {E : js_E} {d : Nat} {σ : js_S} {x1 x2 x3 b : Int} (hb : b = 0 ∨ b = 25) : js_J E d 105 95 [(2, 22 + b), (2, x1), (0, x2), (0, x3), (9, 0), (9, 0), (9, 0), (9, 0), (9, 0), (9, 0)] [] σ = js_J E d 105 101 [(2, 22 + b), (2, x1), (0, x2), (0, x3), (9, 0), (9, 0), (9, 0), (9, 0), (9, 0), (9, 0)] [(0, 0), (2, x1), (2, 8 + b)] σ :=
  (j_aload_n q_105_95 rfl).trans <| (j_get (ji := 3) (v := (2, 8 + b)) q_105_96 (js_Fo qy_105 qf_10_25) (js_o22b hb) rfl rfl rfl rfl).trans <| (j_aload_n q_105_99 rfl).trans <| (j_iconst q_105_100).trans <| rfl
theorem k_105_101 {E : js_E} {d : Nat} {σ σ2 : js_S} {x1 x2 x3 z1 z2 b : Int} (hb : b = 0 ∨ b = 25) (hd : 1 ≤ d) (hz : js_J E (d - 1) 97 0 [(2, 8 + b), (2, z1), (0, z2)] [] σ = js_r0 E σ2) : js_J E d 105 101 [(2, 22 + b), (2, x1), (0, x2), (0, x3), (9, 0), (9, 0), (9, 0), (9, 0), (9, 0), (9, 0)] [(0, z2), (2, z1), (2, 8 + b)] σ = js_J E d 105 104 [(2, 22 + b), (2, x1), (0, x2), (0, x3), (9, 0), (9, 0), (9, 0), (9, 0), (9, 0), (9, 0)] [] σ2 :=
  j_call0 (m := 0) (js_caV q_105_101 (js_Mo qy_105 qm_10_175)) (js_agV (av := [(2, z1), (0, z2)]) (st := []) rfl rfl (js_o8b hb) rfl) rfl rfl (by rw [ql_97]; exact Nat.le_of_ble_eq_true rfl) (Nat.le_of_ble_eq_true rfl) hd hz
theorem kt_105_101 {E : js_E} {d : Nat} {σ σ2 : js_S} {x1 x2 x3 z1 z2 b : Int} (hb : b = 0 ∨ b = 25) {w : Int} (hd : 1 ≤ d) (hz : js_J E (d - 1) 97 0 [(2, 8 + b), (2, z1), (0, z2)] [] σ = js_t E w σ2) : js_J E d 105 101 [(2, 22 + b), (2, x1), (0, x2), (0, x3), (9, 0), (9, 0), (9, 0), (9, 0), (9, 0), (9, 0)] [(0, z2), (2, z1), (2, 8 + b)] σ = js_t E w σ2 :=
  j_callT (m := 0) (js_caV q_105_101 (js_Mo qy_105 qm_10_175)) (js_agV (av := [(2, z1), (0, z2)]) (st := []) rfl rfl (js_o8b hb) rfl) rfl rfl (by rw [ql_97]; exact Nat.le_of_ble_eq_true rfl) (Nat.le_of_ble_eq_true rfl) hd rfl hz
theorem b_105_104 {E : js_E} {d : Nat} {σ : js_S} {x1 x2 x3 b : Int} (hb : b = 0 ∨ b = 25) : js_J E d 105 104 [(2, 22 + b), (2, x1), (0, x2), (0, x3), (9, 0), (9, 0), (9, 0), (9, 0), (9, 0), (9, 0)] [] σ = js_J E d 105 130 [(2, 22 + b), (2, x1), (0, x2), (0, x3), (0, σ (8 + b) 7), (0, σ (8 + b) 6), (9, 0), (9, 0), (9, 0), (9, 0)] [(0, x3), (0, x3), (0, x3), (0, 0), (2, 8 + b)] σ :=
  (j_aload_n q_105_104 rfl).trans <| (j_get (ji := 3) (v := (2, 8 + b)) q_105_105 (js_Fo qy_105 qf_10_25) (js_o22b hb) rfl rfl rfl rfl).trans <| (j_get (ji := 7) (v := (0, σ (8 + b) 7)) q_105_108 (js_Fo qy_105 qf_10_209) (js_o8b hb) rfl rfl rfl rfl).trans <| (j_istore (l2 := [(2, 22 + b), (2, x1), (0, x2), (0, x3), (0, σ (8 + b) 7), (9, 0), (9, 0), (9, 0), (9, 0), (9, 0)]) q_105_111 rfl (Nat.le_of_ble_eq_true rfl)).trans <| (j_aload_n q_105_113 rfl).trans <| (j_get (ji := 3) (v := (2, 8 + b)) q_105_114 (js_Fo qy_105 qf_10_25) (js_o22b hb) rfl rfl rfl rfl).trans <| (j_get (ji := 6) (v := (0, σ (8 + b) 6)) q_105_117 (js_Fo qy_105 qf_10_251) (js_o8b hb) rfl rfl rfl rfl).trans <| (j_istore (l2 := [(2, 22 + b), (2, x1), (0, x2), (0, x3), (0, σ (8 + b) 7), (0, σ (8 + b) 6), (9, 0), (9, 0), (9, 0), (9, 0)]) q_105_120 rfl (Nat.le_of_ble_eq_true rfl)).trans <| (j_aload_n q_105_122 rfl).trans <| (j_get (ji := 3) (v := (2, 8 + b)) q_105_123 (js_Fo qy_105 qf_10_25) (js_o22b hb) rfl rfl rfl rfl).trans <| (j_iconst q_105_126).trans <| (j_iload_n q_105_127 rfl).trans <| (j_iload_n q_105_128 rfl).trans <| (j_iload_n q_105_129 rfl).trans <| rfl
theorem k_105_130 {E : js_E} {d : Nat} {σ σ2 : js_S} {x1 x2 x3 x4 x5 z1 z2 z3 z4 b : Int} (hb : b = 0 ∨ b = 25) (hd : 1 ≤ d) (hz : js_J E (d - 1) 59 0 [(2, 8 + b), (0, z1), (0, z2), (0, z3), (0, z4)] [] σ = js_r0 E σ2) : js_J E d 105 130 [(2, 22 + b), (2, x1), (0, x2), (0, x3), (0, x4), (0, x5), (9, 0), (9, 0), (9, 0), (9, 0)] [(0, z4), (0, z3), (0, z2), (0, z1), (2, 8 + b)] σ = js_J E d 105 133 [(2, 22 + b), (2, x1), (0, x2), (0, x3), (0, x4), (0, x5), (9, 0), (9, 0), (9, 0), (9, 0)] [] σ2 :=
  j_call0 (m := 0) (js_caV q_105_130 (js_Mo qy_105 qm_10_171)) (js_agV (av := [(0, z1), (0, z2), (0, z3), (0, z4)]) (st := []) rfl rfl (js_o8b hb) rfl) rfl rfl (by rw [ql_59]; exact Nat.le_of_ble_eq_true rfl) (Nat.le_of_ble_eq_true rfl) hd hz
theorem kt_105_130 {E : js_E} {d : Nat} {σ σ2 : js_S} {x1 x2 x3 x4 x5 z1 z2 z3 z4 b : Int} (hb : b = 0 ∨ b = 25) {w : Int} (hd : 1 ≤ d) (hz : js_J E (d - 1) 59 0 [(2, 8 + b), (0, z1), (0, z2), (0, z3), (0, z4)] [] σ = js_t E w σ2) : js_J E d 105 130 [(2, 22 + b), (2, x1), (0, x2), (0, x3), (0, x4), (0, x5), (9, 0), (9, 0), (9, 0), (9, 0)] [(0, z4), (0, z3), (0, z2), (0, z1), (2, 8 + b)] σ = js_t E w σ2 :=
  j_callT (m := 0) (js_caV q_105_130 (js_Mo qy_105 qm_10_171)) (js_agV (av := [(0, z1), (0, z2), (0, z3), (0, z4)]) (st := []) rfl rfl (js_o8b hb) rfl) rfl rfl (by rw [ql_59]; exact Nat.le_of_ble_eq_true rfl) (Nat.le_of_ble_eq_true rfl) hd rfl hz
theorem b_105_133 {E : js_E} {d : Nat} {σ : js_S} {x1 x2 x3 x4 x5 b : Int} (hb : b = 0 ∨ b = 25) : js_J E d 105 133 [(2, 22 + b), (2, x1), (0, x2), (0, x3), (0, x4), (0, x5), (9, 0), (9, 0), (9, 0), (9, 0)] [] σ = js_J E d 105 139 [(2, 22 + b), (2, x1), (0, x2), (0, x3), (0, x4), (0, x5), (9, 0), (9, 0), (9, 0), (9, 0)] [(0, 0), (0, 3), (2, 8 + b)] σ :=
  (j_aload_n q_105_133 rfl).trans <| (j_get (ji := 3) (v := (2, 8 + b)) q_105_134 (js_Fo qy_105 qf_10_25) (js_o22b hb) rfl rfl rfl rfl).trans <| (j_iconst q_105_137).trans <| (j_iconst q_105_138).trans <| rfl
theorem k_105_139 {E : js_E} {d : Nat} {σ σ2 : js_S} {x1 x2 x3 x4 x5 z1 z2 b : Int} (hb : b = 0 ∨ b = 25) {v : Int} (hd : 1 ≤ d) (hz : js_J E (d - 1) 95 0 [(2, 8 + b), (0, z1), (0, z2)] [] σ = js_r E (0, v) σ2) : js_J E d 105 139 [(2, 22 + b), (2, x1), (0, x2), (0, x3), (0, x4), (0, x5), (9, 0), (9, 0), (9, 0), (9, 0)] [(0, z2), (0, z1), (2, 8 + b)] σ = js_J E d 105 142 [(2, 22 + b), (2, x1), (0, x2), (0, x3), (0, x4), (0, x5), (9, 0), (9, 0), (9, 0), (9, 0)] [(0, v)] σ2 :=
  j_call (m := 0) (js_caV q_105_139 (js_Mo qy_105 qm_10_95)) (js_agV (av := [(0, z1), (0, z2)]) (st := []) rfl rfl (js_o8b hb) rfl) rfl rfl (by rw [ql_95]; exact Nat.le_of_ble_eq_true rfl) (Nat.le_of_ble_eq_true rfl) hd hz
theorem kt_105_139 {E : js_E} {d : Nat} {σ σ2 : js_S} {x1 x2 x3 x4 x5 z1 z2 b : Int} (hb : b = 0 ∨ b = 25) {w : Int} (hd : 1 ≤ d) (hz : js_J E (d - 1) 95 0 [(2, 8 + b), (0, z1), (0, z2)] [] σ = js_t E w σ2) : js_J E d 105 139 [(2, 22 + b), (2, x1), (0, x2), (0, x3), (0, x4), (0, x5), (9, 0), (9, 0), (9, 0), (9, 0)] [(0, z2), (0, z1), (2, 8 + b)] σ = js_t E w σ2 :=
  j_callT (m := 0) (js_caV q_105_139 (js_Mo qy_105 qm_10_95)) (js_agV (av := [(0, z1), (0, z2)]) (st := []) rfl rfl (js_o8b hb) rfl) rfl rfl (by rw [ql_95]; exact Nat.le_of_ble_eq_true rfl) (Nat.le_of_ble_eq_true rfl) hd rfl hz
theorem b_105_142 {E : js_E} {d : Nat} {σ : js_S} {x1 x2 x3 x4 x5 z0 b : Int} (hb : b = 0 ∨ b = 25) : js_J E d 105 142 [(2, 22 + b), (2, x1), (0, x2), (0, x3), (0, x4), (0, x5), (9, 0), (9, 0), (9, 0), (9, 0)] [(0, z0)] σ = js_J E d 105 152 [(2, 22 + b), (2, x1), (0, x2), (0, x3), (0, x4), (0, x5), (9, 0), (9, 0), (9, 0), (9, 0)] [(0, x3 + 1), (0, x2), (2, x1), (2, 8 + b)] σ :=
  (j_pop0 q_105_142).trans <| (j_aload_n q_105_143 rfl).trans <| (j_get (ji := 3) (v := (2, 8 + b)) q_105_144 (js_Fo qy_105 qf_10_25) (js_o22b hb) rfl rfl rfl rfl).trans <| (j_aload_n q_105_147 rfl).trans <| (j_iload_n q_105_148 rfl).trans <| (j_iload_n q_105_149 rfl).trans <| (j_iconst q_105_150).trans <| (j_iadd q_105_151).trans <| rfl
theorem k_105_152 {E : js_E} {d : Nat} {σ σ2 : js_S} {x1 x2 x3 x4 x5 z1 z2 z3 b : Int} (hb : b = 0 ∨ b = 25) (hd : 1 ≤ d) (hz : js_J E (d - 1) 78 0 [(2, 8 + b), (2, z1), (0, z2), (0, z3)] [] σ = js_r0 E σ2) : js_J E d 105 152 [(2, 22 + b), (2, x1), (0, x2), (0, x3), (0, x4), (0, x5), (9, 0), (9, 0), (9, 0), (9, 0)] [(0, z3), (0, z2), (2, z1), (2, 8 + b)] σ = js_J E d 105 155 [(2, 22 + b), (2, x1), (0, x2), (0, x3), (0, x4), (0, x5), (9, 0), (9, 0), (9, 0), (9, 0)] [] σ2 :=
  j_call0 (m := 0) (js_caV q_105_152 (js_Mo qy_105 qm_10_254)) (js_agV (av := [(2, z1), (0, z2), (0, z3)]) (st := []) rfl rfl (js_o8b hb) rfl) rfl rfl (by rw [ql_78]; exact Nat.le_of_ble_eq_true rfl) (Nat.le_of_ble_eq_true rfl) hd hz
theorem kt_105_152 {E : js_E} {d : Nat} {σ σ2 : js_S} {x1 x2 x3 x4 x5 z1 z2 z3 b : Int} (hb : b = 0 ∨ b = 25) {w : Int} (hd : 1 ≤ d) (hz : js_J E (d - 1) 78 0 [(2, 8 + b), (2, z1), (0, z2), (0, z3)] [] σ = js_t E w σ2) : js_J E d 105 152 [(2, 22 + b), (2, x1), (0, x2), (0, x3), (0, x4), (0, x5), (9, 0), (9, 0), (9, 0), (9, 0)] [(0, z3), (0, z2), (2, z1), (2, 8 + b)] σ = js_t E w σ2 :=
  j_callT (m := 0) (js_caV q_105_152 (js_Mo qy_105 qm_10_254)) (js_agV (av := [(2, z1), (0, z2), (0, z3)]) (st := []) rfl rfl (js_o8b hb) rfl) rfl rfl (by rw [ql_78]; exact Nat.le_of_ble_eq_true rfl) (Nat.le_of_ble_eq_true rfl) hd rfl hz
theorem b_105_155 {E : js_E} {d : Nat} {σ : js_S} {x1 x2 x3 x4 x5 b : Int} (hb : b = 0 ∨ b = 25) : js_J E d 105 155 [(2, 22 + b), (2, x1), (0, x2), (0, x3), (0, x4), (0, x5), (9, 0), (9, 0), (9, 0), (9, 0)] [] σ = js_J E d 105 164 [(2, 22 + b), (2, x1), (0, x2), (0, x3), (0, x4), (0, x5), (9, 0), (9, 0), (9, 0), (9, 0)] [(0, 1), (0, 0), (0, 0), (0, 14), (2, 8 + b)] σ :=
  (j_aload_n q_105_155 rfl).trans <| (j_get (ji := 3) (v := (2, 8 + b)) q_105_156 (js_Fo qy_105 qf_10_25) (js_o22b hb) rfl rfl rfl rfl).trans <| (j_bi q_105_159 rfl).trans <| (j_iconst q_105_161).trans <| (j_iconst q_105_162).trans <| (j_iconst q_105_163).trans <| rfl
theorem k_105_164 {E : js_E} {d : Nat} {σ σ2 : js_S} {x1 x2 x3 x4 x5 z1 z2 z3 z4 b : Int} (hb : b = 0 ∨ b = 25) (hd : 1 ≤ d) (hz : js_J E (d - 1) 59 0 [(2, 8 + b), (0, z1), (0, z2), (0, z3), (0, z4)] [] σ = js_r0 E σ2) : js_J E d 105 164 [(2, 22 + b), (2, x1), (0, x2), (0, x3), (0, x4), (0, x5), (9, 0), (9, 0), (9, 0), (9, 0)] [(0, z4), (0, z3), (0, z2), (0, z1), (2, 8 + b)] σ = js_J E d 105 167 [(2, 22 + b), (2, x1), (0, x2), (0, x3), (0, x4), (0, x5), (9, 0), (9, 0), (9, 0), (9, 0)] [] σ2 :=
  j_call0 (m := 0) (js_caV q_105_164 (js_Mo qy_105 qm_10_171)) (js_agV (av := [(0, z1), (0, z2), (0, z3), (0, z4)]) (st := []) rfl rfl (js_o8b hb) rfl) rfl rfl (by rw [ql_59]; exact Nat.le_of_ble_eq_true rfl) (Nat.le_of_ble_eq_true rfl) hd hz
theorem kt_105_164 {E : js_E} {d : Nat} {σ σ2 : js_S} {x1 x2 x3 x4 x5 z1 z2 z3 z4 b : Int} (hb : b = 0 ∨ b = 25) {w : Int} (hd : 1 ≤ d) (hz : js_J E (d - 1) 59 0 [(2, 8 + b), (0, z1), (0, z2), (0, z3), (0, z4)] [] σ = js_t E w σ2) : js_J E d 105 164 [(2, 22 + b), (2, x1), (0, x2), (0, x3), (0, x4), (0, x5), (9, 0), (9, 0), (9, 0), (9, 0)] [(0, z4), (0, z3), (0, z2), (0, z1), (2, 8 + b)] σ = js_t E w σ2 :=
  j_callT (m := 0) (js_caV q_105_164 (js_Mo qy_105 qm_10_171)) (js_agV (av := [(0, z1), (0, z2), (0, z3), (0, z4)]) (st := []) rfl rfl (js_o8b hb) rfl) rfl rfl (by rw [ql_59]; exact Nat.le_of_ble_eq_true rfl) (Nat.le_of_ble_eq_true rfl) hd rfl hz
theorem b_105_167 {E : js_E} {d : Nat} {σ : js_S} {x1 x2 x3 x4 x5 b : Int} (hb : b = 0 ∨ b = 25) : js_J E d 105 167 [(2, 22 + b), (2, x1), (0, x2), (0, x3), (0, x4), (0, x5), (9, 0), (9, 0), (9, 0), (9, 0)] [] σ = js_J E d 105 174 [(2, 22 + b), (2, x1), (0, x2), (0, x3), (0, x4), (0, x5), (9, 0), (9, 0), (9, 0), (9, 0)] [(0, 0), (0, 25), (2, 8 + b)] σ :=
  (j_aload_n q_105_167 rfl).trans <| (j_get (ji := 3) (v := (2, 8 + b)) q_105_168 (js_Fo qy_105 qf_10_25) (js_o22b hb) rfl rfl rfl rfl).trans <| (j_bi q_105_171 rfl).trans <| (j_iconst q_105_173).trans <| rfl
theorem k_105_174 {E : js_E} {d : Nat} {σ σ2 : js_S} {x1 x2 x3 x4 x5 z1 z2 b : Int} (hb : b = 0 ∨ b = 25) {v : Int} (hd : 1 ≤ d) (hz : js_J E (d - 1) 95 0 [(2, 8 + b), (0, z1), (0, z2)] [] σ = js_r E (0, v) σ2) : js_J E d 105 174 [(2, 22 + b), (2, x1), (0, x2), (0, x3), (0, x4), (0, x5), (9, 0), (9, 0), (9, 0), (9, 0)] [(0, z2), (0, z1), (2, 8 + b)] σ = js_J E d 105 177 [(2, 22 + b), (2, x1), (0, x2), (0, x3), (0, x4), (0, x5), (9, 0), (9, 0), (9, 0), (9, 0)] [(0, v)] σ2 :=
  j_call (m := 0) (js_caV q_105_174 (js_Mo qy_105 qm_10_95)) (js_agV (av := [(0, z1), (0, z2)]) (st := []) rfl rfl (js_o8b hb) rfl) rfl rfl (by rw [ql_95]; exact Nat.le_of_ble_eq_true rfl) (Nat.le_of_ble_eq_true rfl) hd hz
theorem kt_105_174 {E : js_E} {d : Nat} {σ σ2 : js_S} {x1 x2 x3 x4 x5 z1 z2 b : Int} (hb : b = 0 ∨ b = 25) {w : Int} (hd : 1 ≤ d) (hz : js_J E (d - 1) 95 0 [(2, 8 + b), (0, z1), (0, z2)] [] σ = js_t E w σ2) : js_J E d 105 174 [(2, 22 + b), (2, x1), (0, x2), (0, x3), (0, x4), (0, x5), (9, 0), (9, 0), (9, 0), (9, 0)] [(0, z2), (0, z1), (2, 8 + b)] σ = js_t E w σ2 :=
  j_callT (m := 0) (js_caV q_105_174 (js_Mo qy_105 qm_10_95)) (js_agV (av := [(0, z1), (0, z2)]) (st := []) rfl rfl (js_o8b hb) rfl) rfl rfl (by rw [ql_95]; exact Nat.le_of_ble_eq_true rfl) (Nat.le_of_ble_eq_true rfl) hd rfl hz
theorem b_105_177 {E : js_E} {d : Nat} {σ : js_S} {x1 x2 x3 x4 x5 z0 b : Int} (hb : b = 0 ∨ b = 25) (hs_x1 : js_desc E.1 σ x1 = some (0, 11, js_sym)) : js_J E d 105 177 [(2, 22 + b), (2, x1), (0, x2), (0, x3), (0, x4), (0, x5), (9, 0), (9, 0), (9, 0), (9, 0)] [(0, z0)] σ = js_J E d 105 197 [(2, 22 + b), (2, x1), (0, x2), (0, x3), (0, x4), (0, x5), (0, z0), (0, (σ (8 + b) 7) - x4), (9, 0), (9, 0)] [(2, (-1)), (0, σ x1 0), (2, 22 + b)] σ :=
  (j_istore (l2 := [(2, 22 + b), (2, x1), (0, x2), (0, x3), (0, x4), (0, x5), (0, z0), (9, 0), (9, 0), (9, 0)]) q_105_177 rfl (Nat.le_of_ble_eq_true rfl)).trans <| (j_aload_n q_105_179 rfl).trans <| (j_get (ji := 3) (v := (2, 8 + b)) q_105_180 (js_Fo qy_105 qf_10_25) (js_o22b hb) rfl rfl rfl rfl).trans <| (j_get (ji := 7) (v := (0, σ (8 + b) 7)) q_105_183 (js_Fo qy_105 qf_10_209) (js_o8b hb) rfl rfl rfl rfl).trans <| (j_iload q_105_186 rfl).trans <| (j_isub q_105_188).trans <| (j_istore (l2 := [(2, 22 + b), (2, x1), (0, x2), (0, x3), (0, x4), (0, x5), (0, z0), (0, (σ (8 + b) 7) - x4), (9, 0), (9, 0)]) q_105_189 rfl (Nat.le_of_ble_eq_true rfl)).trans <| (j_aload_n q_105_191 rfl).trans <| (j_aload_n q_105_192 rfl).trans <| (j_get (ji := 0) (v := (0, σ x1 0)) q_105_193 (js_Fo qy_105 qf_10_258) hs_x1 rfl rfl rfl rfl).trans <| (j_null q_105_196).trans <| rfl
theorem k_105_197 {E : js_E} {d : Nat} {σ σ2 : js_S} {x1 x2 x3 x4 x5 x6 x7 z1 z2 b : Int} (hb : b = 0 ∨ b = 25) (hd : 1 ≤ d) (hz : js_J E (d - 1) 55 0 [(2, 22 + b), (0, z1), (2, z2), (9, 0)] [] σ = js_r0 E σ2) : js_J E d 105 197 [(2, 22 + b), (2, x1), (0, x2), (0, x3), (0, x4), (0, x5), (0, x6), (0, x7), (9, 0), (9, 0)] [(2, z2), (0, z1), (2, 22 + b)] σ = js_J E d 105 200 [(2, 22 + b), (2, x1), (0, x2), (0, x3), (0, x4), (0, x5), (0, x6), (0, x7), (9, 0), (9, 0)] [] σ2 :=
  j_call0 (m := 1) (js_caV q_105_197 (js_Mo qy_105 qm_10_215)) (js_agV (av := [(0, z1), (2, z2)]) (st := []) rfl rfl (js_o22b hb) rfl) rfl rfl (by rw [ql_55]; exact Nat.le_of_ble_eq_true rfl) (Nat.le_of_ble_eq_true rfl) hd hz
theorem kt_105_197 {E : js_E} {d : Nat} {σ σ2 : js_S} {x1 x2 x3 x4 x5 x6 x7 z1 z2 b : Int} (hb : b = 0 ∨ b = 25) {w : Int} (hd : 1 ≤ d) (hz : js_J E (d - 1) 55 0 [(2, 22 + b), (0, z1), (2, z2), (9, 0)] [] σ = js_t E w σ2) : js_J E d 105 197 [(2, 22 + b), (2, x1), (0, x2), (0, x3), (0, x4), (0, x5), (0, x6), (0, x7), (9, 0), (9, 0)] [(2, z2), (0, z1), (2, 22 + b)] σ = js_t E w σ2 :=
  j_callT (m := 1) (js_caV q_105_197 (js_Mo qy_105 qm_10_215)) (js_agV (av := [(0, z1), (2, z2)]) (st := []) rfl rfl (js_o22b hb) rfl) rfl rfl (by rw [ql_55]; exact Nat.le_of_ble_eq_true rfl) (Nat.le_of_ble_eq_true rfl) hd rfl hz
theorem b_105_200 {E : js_E} {d : Nat} {σ : js_S} {x1 x2 x3 x4 x5 x6 x7 b : Int} (hb : b = 0 ∨ b = 25) : js_J E d 105 200 [(2, 22 + b), (2, x1), (0, x2), (0, x3), (0, x4), (0, x5), (0, x6), (0, x7), (9, 0), (9, 0)] [] σ = js_J E d 105 208 [(2, 22 + b), (2, x1), (0, x2), (0, x3), (0, x4), (0, x5), (0, x6), (0, x7), (9, 0), (9, 0)] [(0, 1), (0, 1), (0, 1), (0, 0), (2, 8 + b)] σ :=
  (j_aload_n q_105_200 rfl).trans <| (j_get (ji := 3) (v := (2, 8 + b)) q_105_201 (js_Fo qy_105 qf_10_25) (js_o22b hb) rfl rfl rfl rfl).trans <| (j_iconst q_105_204).trans <| (j_iconst q_105_205).trans <| (j_iconst q_105_206).trans <| (j_iconst q_105_207).trans <| rfl
theorem k_105_208 {E : js_E} {d : Nat} {σ σ2 : js_S} {x1 x2 x3 x4 x5 x6 x7 z1 z2 z3 z4 b : Int} (hb : b = 0 ∨ b = 25) (hd : 1 ≤ d) (hz : js_J E (d - 1) 59 0 [(2, 8 + b), (0, z1), (0, z2), (0, z3), (0, z4)] [] σ = js_r0 E σ2) : js_J E d 105 208 [(2, 22 + b), (2, x1), (0, x2), (0, x3), (0, x4), (0, x5), (0, x6), (0, x7), (9, 0), (9, 0)] [(0, z4), (0, z3), (0, z2), (0, z1), (2, 8 + b)] σ = js_J E d 105 211 [(2, 22 + b), (2, x1), (0, x2), (0, x3), (0, x4), (0, x5), (0, x6), (0, x7), (9, 0), (9, 0)] [] σ2 :=
  j_call0 (m := 0) (js_caV q_105_208 (js_Mo qy_105 qm_10_171)) (js_agV (av := [(0, z1), (0, z2), (0, z3), (0, z4)]) (st := []) rfl rfl (js_o8b hb) rfl) rfl rfl (by rw [ql_59]; exact Nat.le_of_ble_eq_true rfl) (Nat.le_of_ble_eq_true rfl) hd hz
theorem kt_105_208 {E : js_E} {d : Nat} {σ σ2 : js_S} {x1 x2 x3 x4 x5 x6 x7 z1 z2 z3 z4 b : Int} (hb : b = 0 ∨ b = 25) {w : Int} (hd : 1 ≤ d) (hz : js_J E (d - 1) 59 0 [(2, 8 + b), (0, z1), (0, z2), (0, z3), (0, z4)] [] σ = js_t E w σ2) : js_J E d 105 208 [(2, 22 + b), (2, x1), (0, x2), (0, x3), (0, x4), (0, x5), (0, x6), (0, x7), (9, 0), (9, 0)] [(0, z4), (0, z3), (0, z2), (0, z1), (2, 8 + b)] σ = js_t E w σ2 :=
  j_callT (m := 0) (js_caV q_105_208 (js_Mo qy_105 qm_10_171)) (js_agV (av := [(0, z1), (0, z2), (0, z3), (0, z4)]) (st := []) rfl rfl (js_o8b hb) rfl) rfl rfl (by rw [ql_59]; exact Nat.le_of_ble_eq_true rfl) (Nat.le_of_ble_eq_true rfl) hd rfl hz
theorem b_105_211 {E : js_E} {d : Nat} {σ : js_S} {x1 x2 x3 x4 x5 x6 x7 b : Int} (hb : b = 0 ∨ b = 25) : js_J E d 105 211 [(2, 22 + b), (2, x1), (0, x2), (0, x3), (0, x4), (0, x5), (0, x6), (0, x7), (9, 0), (9, 0)] [] σ = js_J E d 105 217 [(2, 22 + b), (2, x1), (0, x2), (0, x3), (0, x4), (0, x5), (0, x6), (0, x7), (9, 0), (9, 0)] [(0, 0), (0, 3), (2, 8 + b)] σ :=
  (j_aload_n q_105_211 rfl).trans <| (j_get (ji := 3) (v := (2, 8 + b)) q_105_212 (js_Fo qy_105 qf_10_25) (js_o22b hb) rfl rfl rfl rfl).trans <| (j_iconst q_105_215).trans <| (j_iconst q_105_216).trans <| rfl
theorem k_105_217 {E : js_E} {d : Nat} {σ σ2 : js_S} {x1 x2 x3 x4 x5 x6 x7 z1 z2 b : Int} (hb : b = 0 ∨ b = 25) {v : Int} (hd : 1 ≤ d) (hz : js_J E (d - 1) 95 0 [(2, 8 + b), (0, z1), (0, z2)] [] σ = js_r E (0, v) σ2) : js_J E d 105 217 [(2, 22 + b), (2, x1), (0, x2), (0, x3), (0, x4), (0, x5), (0, x6), (0, x7), (9, 0), (9, 0)] [(0, z2), (0, z1), (2, 8 + b)] σ = js_J E d 105 220 [(2, 22 + b), (2, x1), (0, x2), (0, x3), (0, x4), (0, x5), (0, x6), (0, x7), (9, 0), (9, 0)] [(0, v)] σ2 :=
  j_call (m := 0) (js_caV q_105_217 (js_Mo qy_105 qm_10_95)) (js_agV (av := [(0, z1), (0, z2)]) (st := []) rfl rfl (js_o8b hb) rfl) rfl rfl (by rw [ql_95]; exact Nat.le_of_ble_eq_true rfl) (Nat.le_of_ble_eq_true rfl) hd hz
theorem kt_105_217 {E : js_E} {d : Nat} {σ σ2 : js_S} {x1 x2 x3 x4 x5 x6 x7 z1 z2 b : Int} (hb : b = 0 ∨ b = 25) {w : Int} (hd : 1 ≤ d) (hz : js_J E (d - 1) 95 0 [(2, 8 + b), (0, z1), (0, z2)] [] σ = js_t E w σ2) : js_J E d 105 217 [(2, 22 + b), (2, x1), (0, x2), (0, x3), (0, x4), (0, x5), (0, x6), (0, x7), (9, 0), (9, 0)] [(0, z2), (0, z1), (2, 8 + b)] σ = js_t E w σ2 :=
  j_callT (m := 0) (js_caV q_105_217 (js_Mo qy_105 qm_10_95)) (js_agV (av := [(0, z1), (0, z2)]) (st := []) rfl rfl (js_o8b hb) rfl) rfl rfl (by rw [ql_95]; exact Nat.le_of_ble_eq_true rfl) (Nat.le_of_ble_eq_true rfl) hd rfl hz
theorem b_105_220 {E : js_E} {d : Nat} {σ : js_S} {x1 x2 x3 x4 x5 x6 x7 z0 b : Int} (hb : b = 0 ∨ b = 25) : js_J E d 105 220 [(2, 22 + b), (2, x1), (0, x2), (0, x3), (0, x4), (0, x5), (0, x6), (0, x7), (9, 0), (9, 0)] [(0, z0)] σ = js_J E d 105 228 [(2, 22 + b), (2, x1), (0, x2), (0, x3), (0, x4), (0, x5), (0, x6), (0, x7), (9, 0), (9, 0)] [(0, x3), (0, x2), (2, x1), (2, 8 + b)] σ :=
  (j_pop0 q_105_220).trans <| (j_aload_n q_105_221 rfl).trans <| (j_get (ji := 3) (v := (2, 8 + b)) q_105_222 (js_Fo qy_105 qf_10_25) (js_o22b hb) rfl rfl rfl rfl).trans <| (j_aload_n q_105_225 rfl).trans <| (j_iload_n q_105_226 rfl).trans <| (j_iload_n q_105_227 rfl).trans <| rfl
theorem k_105_228 {E : js_E} {d : Nat} {σ σ2 : js_S} {x1 x2 x3 x4 x5 x6 x7 z1 z2 z3 b : Int} (hb : b = 0 ∨ b = 25) (hd : 1 ≤ d) (hz : js_J E (d - 1) 78 0 [(2, 8 + b), (2, z1), (0, z2), (0, z3)] [] σ = js_r0 E σ2) : js_J E d 105 228 [(2, 22 + b), (2, x1), (0, x2), (0, x3), (0, x4), (0, x5), (0, x6), (0, x7), (9, 0), (9, 0)] [(0, z3), (0, z2), (2, z1), (2, 8 + b)] σ = js_J E d 105 231 [(2, 22 + b), (2, x1), (0, x2), (0, x3), (0, x4), (0, x5), (0, x6), (0, x7), (9, 0), (9, 0)] [] σ2 :=
  j_call0 (m := 0) (js_caV q_105_228 (js_Mo qy_105 qm_10_254)) (js_agV (av := [(2, z1), (0, z2), (0, z3)]) (st := []) rfl rfl (js_o8b hb) rfl) rfl rfl (by rw [ql_78]; exact Nat.le_of_ble_eq_true rfl) (Nat.le_of_ble_eq_true rfl) hd hz
theorem kt_105_228 {E : js_E} {d : Nat} {σ σ2 : js_S} {x1 x2 x3 x4 x5 x6 x7 z1 z2 z3 b : Int} (hb : b = 0 ∨ b = 25) {w : Int} (hd : 1 ≤ d) (hz : js_J E (d - 1) 78 0 [(2, 8 + b), (2, z1), (0, z2), (0, z3)] [] σ = js_t E w σ2) : js_J E d 105 228 [(2, 22 + b), (2, x1), (0, x2), (0, x3), (0, x4), (0, x5), (0, x6), (0, x7), (9, 0), (9, 0)] [(0, z3), (0, z2), (2, z1), (2, 8 + b)] σ = js_t E w σ2 :=
  j_callT (m := 0) (js_caV q_105_228 (js_Mo qy_105 qm_10_254)) (js_agV (av := [(2, z1), (0, z2), (0, z3)]) (st := []) rfl rfl (js_o8b hb) rfl) rfl rfl (by rw [ql_78]; exact Nat.le_of_ble_eq_true rfl) (Nat.le_of_ble_eq_true rfl) hd rfl hz
theorem b_105_231 {E : js_E} {d : Nat} {σ : js_S} {x1 x2 x3 x4 x5 x6 x7 b : Int} (hb : b = 0 ∨ b = 25) : js_J E d 105 231 [(2, 22 + b), (2, x1), (0, x2), (0, x3), (0, x4), (0, x5), (0, x6), (0, x7), (9, 0), (9, 0)] [] σ = js_J E d 105 244 [(2, 22 + b), (2, x1), (0, x2), (0, x3), (0, x4), (0, x5), (0, x6), (0, x7), (9, 0), (9, 0)] [(0, x3 + 1), (0, x2 + 1), (0, 0), (0, 6), (2, 8 + b)] σ :=
  (j_aload_n q_105_231 rfl).trans <| (j_get (ji := 3) (v := (2, 8 + b)) q_105_232 (js_Fo qy_105 qf_10_25) (js_o22b hb) rfl rfl rfl rfl).trans <| (j_bi q_105_235 rfl).trans <| (j_iconst q_105_237).trans <| (j_iload_n q_105_238 rfl).trans <| (j_iconst q_105_239).trans <| (j_iadd q_105_240).trans <| (j_iload_n q_105_241 rfl).trans <| (j_iconst q_105_242).trans <| (j_iadd q_105_243).trans <| rfl
theorem k_105_244 {E : js_E} {d : Nat} {σ σ2 : js_S} {x1 x2 x3 x4 x5 x6 x7 z1 z2 z3 z4 b : Int} (hb : b = 0 ∨ b = 25) (hd : 1 ≤ d) (hz : js_J E (d - 1) 59 0 [(2, 8 + b), (0, z1), (0, z2), (0, z3), (0, z4)] [] σ = js_r0 E σ2) : js_J E d 105 244 [(2, 22 + b), (2, x1), (0, x2), (0, x3), (0, x4), (0, x5), (0, x6), (0, x7), (9, 0), (9, 0)] [(0, z4), (0, z3), (0, z2), (0, z1), (2, 8 + b)] σ = js_J E d 105 247 [(2, 22 + b), (2, x1), (0, x2), (0, x3), (0, x4), (0, x5), (0, x6), (0, x7), (9, 0), (9, 0)] [] σ2 :=
  j_call0 (m := 0) (js_caV q_105_244 (js_Mo qy_105 qm_10_171)) (js_agV (av := [(0, z1), (0, z2), (0, z3), (0, z4)]) (st := []) rfl rfl (js_o8b hb) rfl) rfl rfl (by rw [ql_59]; exact Nat.le_of_ble_eq_true rfl) (Nat.le_of_ble_eq_true rfl) hd hz
theorem kt_105_244 {E : js_E} {d : Nat} {σ σ2 : js_S} {x1 x2 x3 x4 x5 x6 x7 z1 z2 z3 z4 b : Int} (hb : b = 0 ∨ b = 25) {w : Int} (hd : 1 ≤ d) (hz : js_J E (d - 1) 59 0 [(2, 8 + b), (0, z1), (0, z2), (0, z3), (0, z4)] [] σ = js_t E w σ2) : js_J E d 105 244 [(2, 22 + b), (2, x1), (0, x2), (0, x3), (0, x4), (0, x5), (0, x6), (0, x7), (9, 0), (9, 0)] [(0, z4), (0, z3), (0, z2), (0, z1), (2, 8 + b)] σ = js_t E w σ2 :=
  j_callT (m := 0) (js_caV q_105_244 (js_Mo qy_105 qm_10_171)) (js_agV (av := [(0, z1), (0, z2), (0, z3), (0, z4)]) (st := []) rfl rfl (js_o8b hb) rfl) rfl rfl (by rw [ql_59]; exact Nat.le_of_ble_eq_true rfl) (Nat.le_of_ble_eq_true rfl) hd rfl hz
theorem b_105_247 {E : js_E} {d : Nat} {σ : js_S} {x1 x2 x3 x4 x5 x6 x7 b : Int} (hb : b = 0 ∨ b = 25) : js_J E d 105 247 [(2, 22 + b), (2, x1), (0, x2), (0, x3), (0, x4), (0, x5), (0, x6), (0, x7), (9, 0), (9, 0)] [] σ = js_J E d 105 253 [(2, 22 + b), (2, x1), (0, x2), (0, x3), (0, x4), (0, x5), (0, x6), (0, x7), (9, 0), (9, 0)] [(0, 0), (2, x1), (2, 8 + b)] σ :=
  (j_aload_n q_105_247 rfl).trans <| (j_get (ji := 3) (v := (2, 8 + b)) q_105_248 (js_Fo qy_105 qf_10_25) (js_o22b hb) rfl rfl rfl rfl).trans <| (j_aload_n q_105_251 rfl).trans <| (j_iconst q_105_252).trans <| rfl
theorem k_105_253 {E : js_E} {d : Nat} {σ σ2 : js_S} {x1 x2 x3 x4 x5 x6 x7 z1 z2 b : Int} (hb : b = 0 ∨ b = 25) (hd : 1 ≤ d) (hz : js_J E (d - 1) 97 0 [(2, 8 + b), (2, z1), (0, z2)] [] σ = js_r0 E σ2) : js_J E d 105 253 [(2, 22 + b), (2, x1), (0, x2), (0, x3), (0, x4), (0, x5), (0, x6), (0, x7), (9, 0), (9, 0)] [(0, z2), (2, z1), (2, 8 + b)] σ = js_J E d 105 256 [(2, 22 + b), (2, x1), (0, x2), (0, x3), (0, x4), (0, x5), (0, x6), (0, x7), (9, 0), (9, 0)] [] σ2 :=
  j_call0 (m := 0) (js_caV q_105_253 (js_Mo qy_105 qm_10_175)) (js_agV (av := [(2, z1), (0, z2)]) (st := []) rfl rfl (js_o8b hb) rfl) rfl rfl (by rw [ql_97]; exact Nat.le_of_ble_eq_true rfl) (Nat.le_of_ble_eq_true rfl) hd hz
theorem kt_105_253 {E : js_E} {d : Nat} {σ σ2 : js_S} {x1 x2 x3 x4 x5 x6 x7 z1 z2 b : Int} (hb : b = 0 ∨ b = 25) {w : Int} (hd : 1 ≤ d) (hz : js_J E (d - 1) 97 0 [(2, 8 + b), (2, z1), (0, z2)] [] σ = js_t E w σ2) : js_J E d 105 253 [(2, 22 + b), (2, x1), (0, x2), (0, x3), (0, x4), (0, x5), (0, x6), (0, x7), (9, 0), (9, 0)] [(0, z2), (2, z1), (2, 8 + b)] σ = js_t E w σ2 :=
  j_callT (m := 0) (js_caV q_105_253 (js_Mo qy_105 qm_10_175)) (js_agV (av := [(2, z1), (0, z2)]) (st := []) rfl rfl (js_o8b hb) rfl) rfl rfl (by rw [ql_97]; exact Nat.le_of_ble_eq_true rfl) (Nat.le_of_ble_eq_true rfl) hd rfl hz
theorem b_105_256 {E : js_E} {d : Nat} {σ : js_S} {x1 x2 x3 x4 x5 x6 x7 b : Int} (hb : b = 0 ∨ b = 25) : js_J E d 105 256 [(2, 22 + b), (2, x1), (0, x2), (0, x3), (0, x4), (0, x5), (0, x6), (0, x7), (9, 0), (9, 0)] [] σ = js_J E d 105 264 [(2, 22 + b), (2, x1), (0, x2), (0, x3), (0, x4), (0, x5), (0, x6), (0, x7), (9, 0), (9, 0)] [(0, x5), (0, 24), (2, 8 + b)] σ :=
  (j_aload_n q_105_256 rfl).trans <| (j_get (ji := 3) (v := (2, 8 + b)) q_105_257 (js_Fo qy_105 qf_10_25) (js_o22b hb) rfl rfl rfl rfl).trans <| (j_bi q_105_260 rfl).trans <| (j_iload q_105_262 rfl).trans <| rfl
theorem k_105_264 {E : js_E} {d : Nat} {σ σ2 : js_S} {x1 x2 x3 x4 x5 x6 x7 z1 z2 b : Int} (hb : b = 0 ∨ b = 25) {v : Int} (hd : 1 ≤ d) (hz : js_J E (d - 1) 95 0 [(2, 8 + b), (0, z1), (0, z2)] [] σ = js_r E (0, v) σ2) : js_J E d 105 264 [(2, 22 + b), (2, x1), (0, x2), (0, x3), (0, x4), (0, x5), (0, x6), (0, x7), (9, 0), (9, 0)] [(0, z2), (0, z1), (2, 8 + b)] σ = js_J E d 105 267 [(2, 22 + b), (2, x1), (0, x2), (0, x3), (0, x4), (0, x5), (0, x6), (0, x7), (9, 0), (9, 0)] [(0, v)] σ2 :=
  j_call (m := 0) (js_caV q_105_264 (js_Mo qy_105 qm_10_95)) (js_agV (av := [(0, z1), (0, z2)]) (st := []) rfl rfl (js_o8b hb) rfl) rfl rfl (by rw [ql_95]; exact Nat.le_of_ble_eq_true rfl) (Nat.le_of_ble_eq_true rfl) hd hz
theorem kt_105_264 {E : js_E} {d : Nat} {σ σ2 : js_S} {x1 x2 x3 x4 x5 x6 x7 z1 z2 b : Int} (hb : b = 0 ∨ b = 25) {w : Int} (hd : 1 ≤ d) (hz : js_J E (d - 1) 95 0 [(2, 8 + b), (0, z1), (0, z2)] [] σ = js_t E w σ2) : js_J E d 105 264 [(2, 22 + b), (2, x1), (0, x2), (0, x3), (0, x4), (0, x5), (0, x6), (0, x7), (9, 0), (9, 0)] [(0, z2), (0, z1), (2, 8 + b)] σ = js_t E w σ2 :=
  j_callT (m := 0) (js_caV q_105_264 (js_Mo qy_105 qm_10_95)) (js_agV (av := [(0, z1), (0, z2)]) (st := []) rfl rfl (js_o8b hb) rfl) rfl rfl (by rw [ql_95]; exact Nat.le_of_ble_eq_true rfl) (Nat.le_of_ble_eq_true rfl) hd rfl hz
theorem b_105_267 {E : js_E} {d : Nat} {σ : js_S} {x1 x2 x3 x4 x5 x6 x7 z0 b : Int} (hb : b = 0 ∨ b = 25) : js_J E d 105 267 [(2, 22 + b), (2, x1), (0, x2), (0, x3), (0, x4), (0, x5), (0, x6), (0, x7), (9, 0), (9, 0)] [(0, z0)] σ = js_J E d 105 274 [(2, 22 + b), (2, x1), (0, x2), (0, x3), (0, x4), (0, x5), (0, x6), (0, x7), (9, 0), (9, 0)] [(0, x6), (2, 8 + b)] σ :=
  (j_pop0 q_105_267).trans <| (j_aload_n q_105_268 rfl).trans <| (j_get (ji := 3) (v := (2, 8 + b)) q_105_269 (js_Fo qy_105 qf_10_25) (js_o22b hb) rfl rfl rfl rfl).trans <| (j_iload q_105_272 rfl).trans <| rfl
theorem k_105_274 {E : js_E} {d : Nat} {σ σ2 : js_S} {x1 x2 x3 x4 x5 x6 x7 z1 b : Int} (hb : b = 0 ∨ b = 25) (hd : 1 ≤ d) (hz : js_J E (d - 1) 91 0 [(2, 8 + b), (0, z1)] [] σ = js_r0 E σ2) : js_J E d 105 274 [(2, 22 + b), (2, x1), (0, x2), (0, x3), (0, x4), (0, x5), (0, x6), (0, x7), (9, 0), (9, 0)] [(0, z1), (2, 8 + b)] σ = js_J E d 105 277 [(2, 22 + b), (2, x1), (0, x2), (0, x3), (0, x4), (0, x5), (0, x6), (0, x7), (9, 0), (9, 0)] [] σ2 :=
  j_call0 (m := 0) (js_caV q_105_274 (js_Mo qy_105 qm_10_224)) (js_agV (av := [(0, z1)]) (st := []) rfl rfl (js_o8b hb) rfl) rfl rfl (by rw [ql_91]; exact Nat.le_of_ble_eq_true rfl) (Nat.le_of_ble_eq_true rfl) hd hz
theorem kt_105_274 {E : js_E} {d : Nat} {σ σ2 : js_S} {x1 x2 x3 x4 x5 x6 x7 z1 b : Int} (hb : b = 0 ∨ b = 25) {w : Int} (hd : 1 ≤ d) (hz : js_J E (d - 1) 91 0 [(2, 8 + b), (0, z1)] [] σ = js_t E w σ2) : js_J E d 105 274 [(2, 22 + b), (2, x1), (0, x2), (0, x3), (0, x4), (0, x5), (0, x6), (0, x7), (9, 0), (9, 0)] [(0, z1), (2, 8 + b)] σ = js_t E w σ2 :=
  j_callT (m := 0) (js_caV q_105_274 (js_Mo qy_105 qm_10_224)) (js_agV (av := [(0, z1)]) (st := []) rfl rfl (js_o8b hb) rfl) rfl rfl (by rw [ql_91]; exact Nat.le_of_ble_eq_true rfl) (Nat.le_of_ble_eq_true rfl) hd rfl hz
theorem b_105_277 {E : js_E} {d : Nat} {σ : js_S} {x1 x2 x3 x4 x5 x6 x7 b : Int} (hb : b = 0 ∨ b = 25) : js_J E d 105 277 [(2, 22 + b), (2, x1), (0, x2), (0, x3), (0, x4), (0, x5), (0, x6), (0, x7), (9, 0), (9, 0)] [] σ = js_J E d 105 306 [(2, 22 + b), (2, x1), (0, x2), (0, x3), (0, x4), (0, x5), (0, x6), (0, x7), (1, (js_w x3) - (js_w x2)), (9, 0)] [(1, (((js_w x3) - (js_w x2)) * (js_w ((σ (8 + b) 7) - x4))) + (js_w x7)), (2, 8 + b)] σ :=
  (j_iload_n q_105_277 rfl).trans <| (j_i2l q_105_278).trans <| (j_iload_n q_105_279 rfl).trans <| (j_i2l q_105_280).trans <| (j_lsub q_105_281).trans <| (j_lstore (l2 := [(2, 22 + b), (2, x1), (0, x2), (0, x3), (0, x4), (0, x5), (0, x6), (0, x7), (1, (js_w x3) - (js_w x2)), (9, 0)]) q_105_282 rfl (Nat.le_of_ble_eq_true rfl)).trans <| (j_aload_n q_105_284 rfl).trans <| (j_get (ji := 3) (v := (2, 8 + b)) q_105_285 (js_Fo qy_105 qf_10_25) (js_o22b hb) rfl rfl rfl rfl).trans <| (j_lload q_105_288 rfl).trans <| (j_aload_n q_105_290 rfl).trans <| (j_get (ji := 3) (v := (2, 8 + b)) q_105_291 (js_Fo qy_105 qf_10_25) (js_o22b hb) rfl rfl rfl rfl).trans <| (j_get (ji := 7) (v := (0, σ (8 + b) 7)) q_105_294 (js_Fo qy_105 qf_10_209) (js_o8b hb) rfl rfl rfl rfl).trans <| (j_iload q_105_297 rfl).trans <| (j_isub q_105_299).trans <| (j_i2l q_105_300).trans <| (j_lmul q_105_301).trans <| (j_iload q_105_302 rfl).trans <| (j_i2l q_105_304).trans <| (j_ladd q_105_305).trans <| rfl
theorem k_105_306 {E : js_E} {d : Nat} {σ σ2 : js_S} {x1 x2 x3 x4 x5 x6 x7 x8 z1 b : Int} (hb : b = 0 ∨ b = 25) (hd : 1 ≤ d) (hz : js_J E (d - 1) 74 0 [(2, 8 + b), (1, z1), (9, 0)] [] σ = js_r0 E σ2) : js_J E d 105 306 [(2, 22 + b), (2, x1), (0, x2), (0, x3), (0, x4), (0, x5), (0, x6), (0, x7), (1, x8), (9, 0)] [(1, z1), (2, 8 + b)] σ = js_J E d 105 309 [(2, 22 + b), (2, x1), (0, x2), (0, x3), (0, x4), (0, x5), (0, x6), (0, x7), (1, x8), (9, 0)] [] σ2 :=
  j_call0 (m := 0) (js_caV q_105_306 (js_Mo qy_105 qm_10_261)) (js_agV (av := [(1, z1)]) (st := []) rfl rfl (js_o8b hb) rfl) rfl rfl (by rw [ql_74]; exact Nat.le_of_ble_eq_true rfl) (Nat.le_of_ble_eq_true rfl) hd hz
theorem kt_105_306 {E : js_E} {d : Nat} {σ σ2 : js_S} {x1 x2 x3 x4 x5 x6 x7 x8 z1 b : Int} (hb : b = 0 ∨ b = 25) {w : Int} (hd : 1 ≤ d) (hz : js_J E (d - 1) 74 0 [(2, 8 + b), (1, z1), (9, 0)] [] σ = js_t E w σ2) : js_J E d 105 306 [(2, 22 + b), (2, x1), (0, x2), (0, x3), (0, x4), (0, x5), (0, x6), (0, x7), (1, x8), (9, 0)] [(1, z1), (2, 8 + b)] σ = js_t E w σ2 :=
  j_callT (m := 0) (js_caV q_105_306 (js_Mo qy_105 qm_10_261)) (js_agV (av := [(1, z1)]) (st := []) rfl rfl (js_o8b hb) rfl) rfl rfl (by rw [ql_74]; exact Nat.le_of_ble_eq_true rfl) (Nat.le_of_ble_eq_true rfl) hd rfl hz
theorem b_105_309 {E : js_E} {d : Nat} {σ : js_S} {x1 x2 x3 x4 x5 x6 x7 x8 b : Int} : js_J E d 105 309 [(2, 22 + b), (2, x1), (0, x2), (0, x3), (0, x4), (0, x5), (0, x6), (0, x7), (1, x8), (9, 0)] [] σ = js_r0 E σ :=
  j_return q_105_309 qr_105
-- 106: VitalTwin$Statements.beginning ()LVitalTwin$Symbol;
theorem b_106_0 {E : js_E} {d : Nat} {σ : js_S} {b : Int} (hb : b = 0 ∨ b = 25) : js_J E d 106 0 [(2, 22 + b), (9, 0), (9, 0)] [] σ = js_J E d 106 16 [(2, 22 + b), (0, σ 1 2), (9, 0)] [(2, 1), (2, 7 + b)] σ :=
  (j_aload_n q_106_0 rfl).trans <| (j_get (ji := 1) (v := (2, 1)) q_106_1 (js_Fo qy_106 qf_10_9) (js_o22b hb) rfl rfl rfl rfl).trans <| (j_get (ji := 2) (v := (0, σ 1 2)) q_106_4 (js_Fo qy_106 qf_10_110) js_o1 rfl rfl rfl rfl).trans <| (j_istore_n (l2 := [(2, 22 + b), (0, σ 1 2), (9, 0)]) q_106_7 rfl (Nat.le_of_ble_eq_true rfl)).trans <| (j_aload_n q_106_8 rfl).trans <| (j_get (ji := 2) (v := (2, 7 + b)) q_106_9 (js_Fo qy_106 qf_10_15) (js_o22b hb) rfl rfl rfl rfl).trans <| (j_aload_n q_106_12 rfl).trans <| (j_get (ji := 1) (v := (2, 1)) q_106_13 (js_Fo qy_106 qf_10_9) (js_o22b hb) rfl rfl rfl rfl).trans <| rfl
theorem k_106_16 {E : js_E} {d : Nat} {σ σ2 : js_S} {x1 b : Int} (hb : b = 0 ∨ b = 25) {v : Int} (hd : 1 ≤ d) (hz : js_J E (d - 1) 37 0 [(2, 7 + b), (2, 1), (9, 0), (9, 0), (9, 0)] [] σ = js_r E (2, v) σ2) : js_J E d 106 16 [(2, 22 + b), (0, x1), (9, 0)] [(2, 1), (2, 7 + b)] σ = js_J E d 106 19 [(2, 22 + b), (0, x1), (9, 0)] [(2, v)] σ2 :=
  j_call (m := 3) (js_caV q_106_16 (js_Mo qy_106 qm_10_181)) (js_agV (av := [(2, 1)]) (st := []) rfl rfl (js_o7b hb) rfl) rfl rfl (by rw [ql_37]; exact Nat.le_of_ble_eq_true rfl) (Nat.le_of_ble_eq_true rfl) hd hz
theorem kt_106_16 {E : js_E} {d : Nat} {σ σ2 : js_S} {x1 b : Int} (hb : b = 0 ∨ b = 25) {w : Int} (hd : 1 ≤ d) (hz : js_J E (d - 1) 37 0 [(2, 7 + b), (2, 1), (9, 0), (9, 0), (9, 0)] [] σ = js_t E w σ2) : js_J E d 106 16 [(2, 22 + b), (0, x1), (9, 0)] [(2, 1), (2, 7 + b)] σ = js_t E w σ2 :=
  j_callT (m := 3) (js_caV q_106_16 (js_Mo qy_106 qm_10_181)) (js_agV (av := [(2, 1)]) (st := []) rfl rfl (js_o7b hb) rfl) rfl rfl (by rw [ql_37]; exact Nat.le_of_ble_eq_true rfl) (Nat.le_of_ble_eq_true rfl) hd rfl hz
theorem b_106_19 {E : js_E} {d : Nat} {σ : js_S} {x1 z0 b : Int} : js_J E d 106 19 [(2, 22 + b), (0, x1), (9, 0)] [(2, z0)] σ = (if z0 < 0 then js_J E d 106 34 [(2, 22 + b), (0, x1), (2, z0)] [] σ else js_J E d 106 24 [(2, 22 + b), (0, x1), (2, z0)] [] σ) :=
  (j_astore_n (l2 := [(2, 22 + b), (0, x1), (2, z0)]) q_106_19 rfl (Nat.le_of_ble_eq_true rfl)).trans <| (j_aload_n q_106_20 rfl).trans <| (j_ifnull (t := 34) q_106_21 rfl).trans (js_ite (rfl) (rfl))
theorem b_106_24 {E : js_E} {d : Nat} {σ : js_S} {x1 x2 b : Int} (hs_x2 : js_desc E.1 σ x2 = some (0, 11, js_sym)) : js_J E d 106 24 [(2, 22 + b), (0, x1), (2, x2)] [] σ = js_J E d 106 28 [(2, 22 + b), (0, x1), (2, x2)] [(0, σ x2 1)] σ :=
  (j_aload_n q_106_24 rfl).trans <| (j_get (ji := 1) (v := (0, σ x2 1)) q_106_25 (js_Fo qy_106 qf_10_117) hs_x2 rfl rfl rfl rfl).trans <| rfl
theorem k_106_28 {E : js_E} {d : Nat} {σ σ2 : js_S} {x1 x2 z0 b : Int} {v : Int} (hd : 1 ≤ d) (hz : js_J E (d - 1) 107 0 [(0, z0)] [] σ = js_r E (0, v) σ2) : js_J E d 106 28 [(2, 22 + b), (0, x1), (2, x2)] [(0, z0)] σ = js_J E d 106 31 [(2, 22 + b), (0, x1), (2, x2)] [(0, v)] σ2 :=
  j_call (m := 0) (js_caS q_106_28 (js_Mo qy_106 qm_10_185)) (js_agS (av := [(0, z0)]) (st := []) rfl rfl) rfl rfl (by rw [ql_107]; exact Nat.le_of_ble_eq_true rfl) (Nat.le_of_ble_eq_true rfl) hd hz
theorem kt_106_28 {E : js_E} {d : Nat} {σ σ2 : js_S} {x1 x2 z0 b : Int} {w : Int} (hd : 1 ≤ d) (hz : js_J E (d - 1) 107 0 [(0, z0)] [] σ = js_t E w σ2) : js_J E d 106 28 [(2, 22 + b), (0, x1), (2, x2)] [(0, z0)] σ = js_t E w σ2 :=
  j_callT (m := 0) (js_caS q_106_28 (js_Mo qy_106 qm_10_185)) (js_agS (av := [(0, z0)]) (st := []) rfl rfl) rfl rfl (by rw [ql_107]; exact Nat.le_of_ble_eq_true rfl) (Nat.le_of_ble_eq_true rfl) hd rfl hz
theorem b_106_31 {E : js_E} {d : Nat} {σ : js_S} {x1 x2 z0 b : Int} (hb : b = 0 ∨ b = 25) : js_J E d 106 31 [(2, 22 + b), (0, x1), (2, x2)] [(0, z0)] σ = (if js_w z0 = 0 then js_J E d 106 34 [(2, 22 + b), (0, x1), (2, x2)] [] σ else js_J E d 106 49 [(2, 22 + b), (0, x1), (2, x2)] [(2, 1)] σ) :=
  (j_ifne (t := 45) q_106_31 rfl).trans (js_ite (rfl) ((j_aload_n q_106_45 rfl).trans <| (j_get (ji := 1) (v := (2, 1)) q_106_46 (js_Fo qy_106 qf_10_9) (js_o22b hb) rfl rfl rfl rfl).trans <| rfl))
theorem b_106_34 {E : js_E} {d : Nat} {σ : js_S} {x1 x2 b : Int} (hb : b = 0 ∨ b = 25) : js_J E d 106 34 [(2, 22 + b), (0, x1), (2, x2)] [] σ = js_J E d 106 40 [(2, 22 + b), (0, x1), (2, x2)] [(0, x1), (0, 3), (2, 1)] σ :=
  (j_aload_n q_106_34 rfl).trans <| (j_get (ji := 1) (v := (2, 1)) q_106_35 (js_Fo qy_106 qf_10_9) (js_o22b hb) rfl rfl rfl rfl).trans <| (j_iconst q_106_38).trans <| (j_iload_n q_106_39 rfl).trans <| rfl
theorem k_106_40 {E : js_E} {d : Nat} {σ σ2 : js_S} {x1 x2 z1 z2 b : Int} (hd : 1 ≤ d) (hz : js_J E (d - 1) 36 0 [(2, 1), (0, z1), (0, z2)] [] σ = js_r0 E σ2) : js_J E d 106 40 [(2, 22 + b), (0, x1), (2, x2)] [(0, z2), (0, z1), (2, 1)] σ = js_J E d 106 43 [(2, 22 + b), (0, x1), (2, x2)] [] σ2 :=
  j_call0 (m := 0) (js_caV q_106_40 (js_Mo qy_106 qm_10_128)) (js_agV (av := [(0, z1), (0, z2)]) (st := []) rfl rfl js_o1 rfl) rfl rfl (by rw [ql_36]; exact Nat.le_of_ble_eq_true rfl) (Nat.le_of_ble_eq_true rfl) hd hz
theorem kt_106_40 {E : js_E} {d : Nat} {σ σ2 : js_S} {x1 x2 z1 z2 b : Int} {w : Int} (hd : 1 ≤ d) (hz : js_J E (d - 1) 36 0 [(2, 1), (0, z1), (0, z2)] [] σ = js_t E w σ2) : js_J E d 106 40 [(2, 22 + b), (0, x1), (2, x2)] [(0, z2), (0, z1), (2, 1)] σ = js_t E w σ2 :=
  j_callT (m := 0) (js_caV q_106_40 (js_Mo qy_106 qm_10_128)) (js_agV (av := [(0, z1), (0, z2)]) (st := []) rfl rfl js_o1 rfl) rfl rfl (by rw [ql_36]; exact Nat.le_of_ble_eq_true rfl) (Nat.le_of_ble_eq_true rfl) hd rfl hz
theorem b_106_43 {E : js_E} {d : Nat} {σ : js_S} {x1 x2 b : Int} : js_J E d 106 43 [(2, 22 + b), (0, x1), (2, x2)] [] σ = js_r E (2, (-1)) σ :=
  (j_null q_106_43).trans <| j_areturn q_106_44 qr_106
theorem k_106_49 {E : js_E} {d : Nat} {σ σ2 : js_S} {x1 x2 b : Int} (hd : 1 ≤ d) (hz : js_J E (d - 1) 33 0 [(2, 1), (9, 0)] [] σ = js_r0 E σ2) : js_J E d 106 49 [(2, 22 + b), (0, x1), (2, x2)] [(2, 1)] σ = js_J E d 106 52 [(2, 22 + b), (0, x1), (2, x2)] [] σ2 :=
  j_call0 (m := 1) (js_caV q_106_49 (js_Mo qy_106 qm_10_89)) (js_agV (av := []) (st := []) rfl rfl js_o1 rfl) rfl rfl (by rw [ql_33]; exact Nat.le_of_ble_eq_true rfl) (Nat.le_of_ble_eq_true rfl) hd hz
theorem kt_106_49 {E : js_E} {d : Nat} {σ σ2 : js_S} {x1 x2 b : Int} {w : Int} (hd : 1 ≤ d) (hz : js_J E (d - 1) 33 0 [(2, 1), (9, 0)] [] σ = js_t E w σ2) : js_J E d 106 49 [(2, 22 + b), (0, x1), (2, x2)] [(2, 1)] σ = js_t E w σ2 :=
  j_callT (m := 1) (js_caV q_106_49 (js_Mo qy_106 qm_10_89)) (js_agV (av := []) (st := []) rfl rfl js_o1 rfl) rfl rfl (by rw [ql_33]; exact Nat.le_of_ble_eq_true rfl) (Nat.le_of_ble_eq_true rfl) hd rfl hz
theorem b_106_52 {E : js_E} {d : Nat} {σ : js_S} {x1 x2 b : Int} (hb : b = 0 ∨ b = 25) : js_J E d 106 52 [(2, 22 + b), (0, x1), (2, x2)] [] σ = js_J E d 106 58 [(2, 22 + b), (0, x1), (2, x2)] [(0, x1), (2, x2), (2, 23 + b)] σ :=
  (j_aload_n q_106_52 rfl).trans <| (j_get (ji := 5) (v := (2, 23 + b)) q_106_53 (js_Fo qy_106 qf_10_35) (js_o22b hb) rfl rfl rfl rfl).trans <| (j_aload_n q_106_56 rfl).trans <| (j_iload_n q_106_57 rfl).trans <| rfl
theorem k_106_58 {E : js_E} {d : Nat} {σ σ2 : js_S} {x1 x2 z1 z2 b : Int} (hb : b = 0 ∨ b = 25) (hd : 1 ≤ d) (hz : js_J E (d - 1) 65 0 [(2, 23 + b), (2, z1), (0, z2), (9, 0), (9, 0)] [] σ = js_r0 E σ2) : js_J E d 106 58 [(2, 22 + b), (0, x1), (2, x2)] [(0, z2), (2, z1), (2, 23 + b)] σ = js_J E d 106 61 [(2, 22 + b), (0, x1), (2, x2)] [] σ2 :=
  j_call0 (m := 2) (js_caV q_106_58 (js_Mo qy_106 qm_10_189)) (js_agV (av := [(2, z1), (0, z2)]) (st := []) rfl rfl (js_o23b hb) rfl) rfl rfl (by rw [ql_65]; exact Nat.le_of_ble_eq_true rfl) (Nat.le_of_ble_eq_true rfl) hd hz
theorem kt_106_58 {E : js_E} {d : Nat} {σ σ2 : js_S} {x1 x2 z1 z2 b : Int} (hb : b = 0 ∨ b = 25) {w : Int} (hd : 1 ≤ d) (hz : js_J E (d - 1) 65 0 [(2, 23 + b), (2, z1), (0, z2), (9, 0), (9, 0)] [] σ = js_t E w σ2) : js_J E d 106 58 [(2, 22 + b), (0, x1), (2, x2)] [(0, z2), (2, z1), (2, 23 + b)] σ = js_t E w σ2 :=
  j_callT (m := 2) (js_caV q_106_58 (js_Mo qy_106 qm_10_189)) (js_agV (av := [(2, z1), (0, z2)]) (st := []) rfl rfl (js_o23b hb) rfl) rfl rfl (by rw [ql_65]; exact Nat.le_of_ble_eq_true rfl) (Nat.le_of_ble_eq_true rfl) hd rfl hz
theorem b_106_61 {E : js_E} {d : Nat} {σ : js_S} {x1 x2 b : Int} : js_J E d 106 61 [(2, 22 + b), (0, x1), (2, x2)] [] σ = js_r E (2, x2) σ :=
  (j_aload_n q_106_61 rfl).trans <| j_areturn q_106_62 qr_106
-- 107: VitalTwin$Statements.canBegin (I)Z
theorem b_107_0 {E : js_E} {d : Nat} {σ : js_S} {x0 : Int} : js_J E d 107 0 [(0, x0)] [] σ = (if js_w x0 = 2 then js_r E (0, 1) σ else (if js_w x0 = 3 then js_r E (0, 1) σ else (if js_w x0 = 4 then js_r E (0, 1) σ else (if js_w x0 = 5 then js_r E (0, 1) σ else (if js_w x0 = 6 then js_r E (0, 1) σ else js_r E (0, 0) σ))))) :=
  (j_iload_n q_107_0 rfl).trans <| (j_iconst q_107_1).trans <| (j_cmpeqB (t := 26) q_107_2 rfl ww_2).trans (js_ite ((j_iconst q_107_26).trans <| (j_goto (t := 31) q_107_27 rfl).trans <| j_breturn1 q_107_31 qr_107) ((j_iload_n q_107_5 rfl).trans <| (j_iconst q_107_6).trans <| (j_cmpeqB (t := 26) q_107_7 rfl ww_3).trans (js_ite ((j_iconst q_107_26).trans <| (j_goto (t := 31) q_107_27 rfl).trans <| j_breturn1 q_107_31 qr_107) ((j_iload_n q_107_10 rfl).trans <| (j_iconst q_107_11).trans <| (j_cmpeqB (t := 26) q_107_12 rfl ww_4).trans (js_ite ((j_iconst q_107_26).trans <| (j_goto (t := 31) q_107_27 rfl).trans <| j_breturn1 q_107_31 qr_107) ((j_iload_n q_107_15 rfl).trans <| (j_iconst q_107_16).trans <| (j_cmpeqB (t := 26) q_107_17 rfl ww_5).trans (js_ite ((j_iconst q_107_26).trans <| (j_goto (t := 31) q_107_27 rfl).trans <| j_breturn1 q_107_31 qr_107) ((j_iload_n q_107_20 rfl).trans <| (j_bi q_107_21 rfl).trans <| (j_cmpneB (t := 30) q_107_23 rfl ww_6).trans (js_ite ((j_iconst q_107_26).trans <| (j_goto (t := 31) q_107_27 rfl).trans <| j_breturn1 q_107_31 qr_107) ((j_iconst q_107_30).trans <| j_breturn0 q_107_31 qr_107))))))))))
-- 108: VitalTwin$Statements.assign (LVitalTwin$Symbol;)V
theorem b_108_0 {E : js_E} {d : Nat} {σ : js_S} {x1 b : Int} (hb : b = 0 ∨ b = 25) (hs_x1 : js_desc E.1 σ x1 = some (0, 11, js_sym)) : js_J E d 108 0 [(2, 22 + b), (2, x1), (9, 0)] [] σ = (if js_w (σ x1 12) = 0 then js_J E d 108 45 [(2, 22 + b), (2, x1), (0, σ (8 + b) 10)] [] σ else js_J E d 108 20 [(2, 22 + b), (2, x1), (0, σ (8 + b) 10)] [(2, x1), (2, 23 + b)] σ) :=
  (j_aload_n q_108_0 rfl).trans <| (j_get (ji := 3) (v := (2, 8 + b)) q_108_1 (js_Fo qy_108 qf_10_25) (js_o22b hb) rfl rfl rfl rfl).trans <| (j_get (ji := 10) (v := (0, σ (8 + b) 10)) q_108_4 (js_Fo qy_108 qf_10_192) (js_o8b hb) rfl rfl rfl rfl).trans <| (j_istore_n (l2 := [(2, 22 + b), (2, x1), (0, σ (8 + b) 10)]) q_108_7 rfl (Nat.le_of_ble_eq_true rfl)).trans <| (j_aload_n q_108_8 rfl).trans <| (j_get (ji := 12) (v := (0, σ x1 12)) q_108_9 (js_Fo qy_108 qf_10_160) hs_x1 rfl rfl rfl rfl).trans <| (j_ifeq (t := 45) q_108_12 rfl).trans (js_ite (rfl) ((j_aload_n q_108_15 rfl).trans <| (j_get (ji := 5) (v := (2, 23 + b)) q_108_16 (js_Fo qy_108 qf_10_35) (js_o22b hb) rfl rfl rfl rfl).trans <| (j_aload_n q_108_19 rfl).trans <| rfl))
theorem k_108_20 {E : js_E} {d : Nat} {σ σ2 : js_S} {x1 x2 z1 b : Int} (hb : b = 0 ∨ b = 25) (hd : 1 ≤ d) (hz : js_J E (d - 1) 76 0 [(2, 23 + b), (2, z1)] [] σ = js_r0 E σ2) : js_J E d 108 20 [(2, 22 + b), (2, x1), (0, x2)] [(2, z1), (2, 23 + b)] σ = js_J E d 108 23 [(2, 22 + b), (2, x1), (0, x2)] [] σ2 :=
  j_call0 (m := 0) (js_caV q_108_20 (js_Mo qy_108 qm_10_195)) (js_agV (av := [(2, z1)]) (st := []) rfl rfl (js_o23b hb) rfl) rfl rfl (by rw [ql_76]; exact Nat.le_of_ble_eq_true rfl) (Nat.le_of_ble_eq_true rfl) hd hz
theorem kt_108_20 {E : js_E} {d : Nat} {σ σ2 : js_S} {x1 x2 z1 b : Int} (hb : b = 0 ∨ b = 25) {w : Int} (hd : 1 ≤ d) (hz : js_J E (d - 1) 76 0 [(2, 23 + b), (2, z1)] [] σ = js_t E w σ2) : js_J E d 108 20 [(2, 22 + b), (2, x1), (0, x2)] [(2, z1), (2, 23 + b)] σ = js_t E w σ2 :=
  j_callT (m := 0) (js_caV q_108_20 (js_Mo qy_108 qm_10_195)) (js_agV (av := [(2, z1)]) (st := []) rfl rfl (js_o23b hb) rfl) rfl rfl (by rw [ql_76]; exact Nat.le_of_ble_eq_true rfl) (Nat.le_of_ble_eq_true rfl) hd rfl hz
theorem b_108_23 {E : js_E} {d : Nat} {σ : js_S} {x1 x2 b : Int} (hb : b = 0 ∨ b = 25) : js_J E d 108 23 [(2, 22 + b), (2, x1), (0, x2)] [] σ = js_J E d 108 41 [(2, 22 + b), (2, x1), (0, x2)] [(0, σ (23 + b) 2), (0, σ (23 + b) 1), (2, 8 + b)] σ :=
  (j_aload_n q_108_23 rfl).trans <| (j_get (ji := 3) (v := (2, 8 + b)) q_108_24 (js_Fo qy_108 qf_10_25) (js_o22b hb) rfl rfl rfl rfl).trans <| (j_aload_n q_108_27 rfl).trans <| (j_get (ji := 5) (v := (2, 23 + b)) q_108_28 (js_Fo qy_108 qf_10_35) (js_o22b hb) rfl rfl rfl rfl).trans <| (j_get (ji := 1) (v := (0, σ (23 + b) 1)) q_108_31 (js_Fo qy_108 qf_10_198) (js_o23b hb) rfl rfl rfl rfl).trans <| (j_aload_n q_108_34 rfl).trans <| (j_get (ji := 5) (v := (2, 23 + b)) q_108_35 (js_Fo qy_108 qf_10_35) (js_o22b hb) rfl rfl rfl rfl).trans <| (j_get (ji := 2) (v := (0, σ (23 + b) 2)) q_108_38 (js_Fo qy_108 qf_10_199) (js_o23b hb) rfl rfl rfl rfl).trans <| rfl
theorem k_108_41 {E : js_E} {d : Nat} {σ σ2 : js_S} {x1 x2 z1 z2 b : Int} (hb : b = 0 ∨ b = 25) {v : Int} (hd : 1 ≤ d) (hz : js_J E (d - 1) 69 0 [(2, 8 + b), (0, z1), (0, z2), (9, 0)] [] σ = js_r E (0, v) σ2) : js_J E d 108 41 [(2, 22 + b), (2, x1), (0, x2)] [(0, z2), (0, z1), (2, 8 + b)] σ = js_J E d 108 44 [(2, 22 + b), (2, x1), (0, x2)] [(0, v)] σ2 :=
  j_call (m := 1) (js_caV q_108_41 (js_Mo qy_108 qm_10_200)) (js_agV (av := [(0, z1), (0, z2)]) (st := []) rfl rfl (js_o8b hb) rfl) rfl rfl (by rw [ql_69]; exact Nat.le_of_ble_eq_true rfl) (Nat.le_of_ble_eq_true rfl) hd hz
theorem kt_108_41 {E : js_E} {d : Nat} {σ σ2 : js_S} {x1 x2 z1 z2 b : Int} (hb : b = 0 ∨ b = 25) {w : Int} (hd : 1 ≤ d) (hz : js_J E (d - 1) 69 0 [(2, 8 + b), (0, z1), (0, z2), (9, 0)] [] σ = js_t E w σ2) : js_J E d 108 41 [(2, 22 + b), (2, x1), (0, x2)] [(0, z2), (0, z1), (2, 8 + b)] σ = js_t E w σ2 :=
  j_callT (m := 1) (js_caV q_108_41 (js_Mo qy_108 qm_10_200)) (js_agV (av := [(0, z1), (0, z2)]) (st := []) rfl rfl (js_o8b hb) rfl) rfl rfl (by rw [ql_69]; exact Nat.le_of_ble_eq_true rfl) (Nat.le_of_ble_eq_true rfl) hd rfl hz
theorem b_108_44 {E : js_E} {d : Nat} {σ : js_S} {x1 x2 z0 b : Int} : js_J E d 108 44 [(2, 22 + b), (2, x1), (0, x2)] [(0, z0)] σ = js_J E d 108 45 [(2, 22 + b), (2, x1), (0, x2)] [] σ :=
  (j_pop0 q_108_44).trans <| rfl
theorem b_108_45 {E : js_E} {d : Nat} {σ : js_S} {x1 x2 b : Int} (hb : b = 0 ∨ b = 25) : js_J E d 108 45 [(2, 22 + b), (2, x1), (0, x2)] [] σ = js_J E d 108 51 [(2, 22 + b), (2, x1), (0, x2)] [(0, 61), (2, 1)] σ :=
  (j_aload_n q_108_45 rfl).trans <| (j_get (ji := 1) (v := (2, 1)) q_108_46 (js_Fo qy_108 qf_10_9) (js_o22b hb) rfl rfl rfl rfl).trans <| (j_bi q_108_49 rfl).trans <| rfl
theorem k_108_51 {E : js_E} {d : Nat} {σ σ2 : js_S} {x1 x2 z1 b : Int} (hd : 1 ≤ d) (hz : js_J E (d - 1) 40 0 [(2, 1), (0, z1)] [] σ = js_r0 E σ2) : js_J E d 108 51 [(2, 22 + b), (2, x1), (0, x2)] [(0, z1), (2, 1)] σ = js_J E d 108 54 [(2, 22 + b), (2, x1), (0, x2)] [] σ2 :=
  j_call0 (m := 0) (js_caV q_108_51 (js_Mo qy_108 qm_10_59)) (js_agV (av := [(0, z1)]) (st := []) rfl rfl js_o1 rfl) rfl rfl (by rw [ql_40]; exact Nat.le_of_ble_eq_true rfl) (Nat.le_of_ble_eq_true rfl) hd hz
theorem kt_108_51 {E : js_E} {d : Nat} {σ σ2 : js_S} {x1 x2 z1 b : Int} {w : Int} (hd : 1 ≤ d) (hz : js_J E (d - 1) 40 0 [(2, 1), (0, z1)] [] σ = js_t E w σ2) : js_J E d 108 51 [(2, 22 + b), (2, x1), (0, x2)] [(0, z1), (2, 1)] σ = js_t E w σ2 :=
  j_callT (m := 0) (js_caV q_108_51 (js_Mo qy_108 qm_10_59)) (js_agV (av := [(0, z1)]) (st := []) rfl rfl js_o1 rfl) rfl rfl (by rw [ql_40]; exact Nat.le_of_ble_eq_true rfl) (Nat.le_of_ble_eq_true rfl) hd rfl hz
theorem b_108_54 {E : js_E} {d : Nat} {σ : js_S} {x1 x2 b : Int} (hb : b = 0 ∨ b = 25) : js_J E d 108 54 [(2, 22 + b), (2, x1), (0, x2)] [] σ = js_J E d 108 58 [(2, 22 + b), (2, x1), (0, x2)] [(2, 23 + b)] σ :=
  (j_aload_n q_108_54 rfl).trans <| (j_get (ji := 5) (v := (2, 23 + b)) q_108_55 (js_Fo qy_108 qf_10_35) (js_o22b hb) rfl rfl rfl rfl).trans <| rfl
theorem k_108_58 {E : js_E} {d : Nat} {σ σ2 : js_S} {x1 x2 b : Int} (hb : b = 0 ∨ b = 25) (hd : 1 ≤ d) (hz : js_J E (d - 1) 61 0 [(2, 23 + b), (9, 0), (9, 0), (9, 0), (9, 0), (9, 0), (9, 0)] [] σ = js_r0 E σ2) : js_J E d 108 58 [(2, 22 + b), (2, x1), (0, x2)] [(2, 23 + b)] σ = js_J E d 108 61 [(2, 22 + b), (2, x1), (0, x2)] [] σ2 :=
  j_call0 (m := 6) (js_caV q_108_58 (js_Mo qy_108 qm_10_62)) (js_agV (av := []) (st := []) rfl rfl (js_o23b hb) rfl) rfl rfl (by rw [ql_61]; exact Nat.le_of_ble_eq_true rfl) (Nat.le_of_ble_eq_true rfl) hd hz
theorem kt_108_58 {E : js_E} {d : Nat} {σ σ2 : js_S} {x1 x2 b : Int} (hb : b = 0 ∨ b = 25) {w : Int} (hd : 1 ≤ d) (hz : js_J E (d - 1) 61 0 [(2, 23 + b), (9, 0), (9, 0), (9, 0), (9, 0), (9, 0), (9, 0)] [] σ = js_t E w σ2) : js_J E d 108 58 [(2, 22 + b), (2, x1), (0, x2)] [(2, 23 + b)] σ = js_t E w σ2 :=
  j_callT (m := 6) (js_caV q_108_58 (js_Mo qy_108 qm_10_62)) (js_agV (av := []) (st := []) rfl rfl (js_o23b hb) rfl) rfl rfl (by rw [ql_61]; exact Nat.le_of_ble_eq_true rfl) (Nat.le_of_ble_eq_true rfl) hd rfl hz
theorem b_108_61 {E : js_E} {d : Nat} {σ : js_S} {x1 x2 b : Int} (hb : b = 0 ∨ b = 25) (hs_x1 : js_desc E.1 σ x1 = some (0, 11, js_sym)) : js_J E d 108 61 [(2, 22 + b), (2, x1), (0, x2)] [] σ = js_J E d 108 77 [(2, 22 + b), (2, x1), (0, x2)] [(0, σ x1 4), (0, σ x1 3), (0, σ x1 2), (2, 23 + b)] σ :=
  (j_aload_n q_108_61 rfl).trans <| (j_get (ji := 5) (v := (2, 23 + b)) q_108_62 (js_Fo qy_108 qf_10_35) (js_o22b hb) rfl rfl rfl rfl).trans <| (j_aload_n q_108_65 rfl).trans <| (j_get (ji := 2) (v := (0, σ x1 2)) q_108_66 (js_Fo qy_108 qf_10_65) hs_x1 rfl rfl rfl rfl).trans <| (j_aload_n q_108_69 rfl).trans <| (j_get (ji := 3) (v := (0, σ x1 3)) q_108_70 (js_Fo qy_108 qf_10_70) hs_x1 rfl rfl rfl rfl).trans <| (j_aload_n q_108_73 rfl).trans <| (j_get (ji := 4) (v := (0, σ x1 4)) q_108_74 (js_Fo qy_108 qf_10_73) hs_x1 rfl rfl rfl rfl).trans <| rfl
theorem k_108_77 {E : js_E} {d : Nat} {σ σ2 : js_S} {x1 x2 z1 z2 z3 b : Int} (hb : b = 0 ∨ b = 25) (hd : 1 ≤ d) (hz : js_J E (d - 1) 68 0 [(2, 23 + b), (0, z1), (0, z2), (0, z3)] [] σ = js_r0 E σ2) : js_J E d 108 77 [(2, 22 + b), (2, x1), (0, x2)] [(0, z3), (0, z2), (0, z1), (2, 23 + b)] σ = js_J E d 108 80 [(2, 22 + b), (2, x1), (0, x2)] [] σ2 :=
  j_call0 (m := 0) (js_caV q_108_77 (js_Mo qy_108 qm_10_76)) (js_agV (av := [(0, z1), (0, z2), (0, z3)]) (st := []) rfl rfl (js_o23b hb) rfl) rfl rfl (by rw [ql_68]; exact Nat.le_of_ble_eq_true rfl) (Nat.le_of_ble_eq_true rfl) hd hz
theorem kt_108_77 {E : js_E} {d : Nat} {σ σ2 : js_S} {x1 x2 z1 z2 z3 b : Int} (hb : b = 0 ∨ b = 25) {w : Int} (hd : 1 ≤ d) (hz : js_J E (d - 1) 68 0 [(2, 23 + b), (0, z1), (0, z2), (0, z3)] [] σ = js_t E w σ2) : js_J E d 108 77 [(2, 22 + b), (2, x1), (0, x2)] [(0, z3), (0, z2), (0, z1), (2, 23 + b)] σ = js_t E w σ2 :=
  j_callT (m := 0) (js_caV q_108_77 (js_Mo qy_108 qm_10_76)) (js_agV (av := [(0, z1), (0, z2), (0, z3)]) (st := []) rfl rfl (js_o23b hb) rfl) rfl rfl (by rw [ql_68]; exact Nat.le_of_ble_eq_true rfl) (Nat.le_of_ble_eq_true rfl) hd rfl hz
theorem b_108_80 {E : js_E} {d : Nat} {σ : js_S} {x1 x2 b : Int} (hs_x1 : js_desc E.1 σ x1 = some (0, 11, js_sym)) (hb : b = 0 ∨ b = 25) : js_J E d 108 80 [(2, 22 + b), (2, x1), (0, x2)] [] σ = (if js_w (σ x1 12) = 0 then js_J E d 108 162 [(2, 22 + b), (2, x1), (0, x2)] [(0, 0), (2, x1), (2, 8 + b)] σ else js_J E d 108 105 [(2, 22 + b), (2, x1), (0, x2)] [(0, σ (23 + b) 2), (0, σ (23 + b) 1), (2, 8 + b)] σ) :=
  (j_aload_n q_108_80 rfl).trans <| (j_get (ji := 12) (v := (0, σ x1 12)) q_108_81 (js_Fo qy_108 qf_10_160) hs_x1 rfl rfl rfl rfl).trans <| (j_ifeq (t := 156) q_108_84 rfl).trans (js_ite ((j_aload_n q_108_156 rfl).trans <| (j_get (ji := 3) (v := (2, 8 + b)) q_108_157 (js_Fo qy_108 qf_10_25) (js_o22b hb) rfl rfl rfl rfl).trans <| (j_aload_n q_108_160 rfl).trans <| (j_iconst q_108_161).trans <| rfl) ((j_aload_n q_108_87 rfl).trans <| (j_get (ji := 3) (v := (2, 8 + b)) q_108_88 (js_Fo qy_108 qf_10_25) (js_o22b hb) rfl rfl rfl rfl).trans <| (j_aload_n q_108_91 rfl).trans <| (j_get (ji := 5) (v := (2, 23 + b)) q_108_92 (js_Fo qy_108 qf_10_35) (js_o22b hb) rfl rfl rfl rfl).trans <| (j_get (ji := 1) (v := (0, σ (23 + b) 1)) q_108_95 (js_Fo qy_108 qf_10_198) (js_o23b hb) rfl rfl rfl rfl).trans <| (j_aload_n q_108_98 rfl).trans <| (j_get (ji := 5) (v := (2, 23 + b)) q_108_99 (js_Fo qy_108 qf_10_35) (js_o22b hb) rfl rfl rfl rfl).trans <| (j_get (ji := 2) (v := (0, σ (23 + b) 2)) q_108_102 (js_Fo qy_108 qf_10_199) (js_o23b hb) rfl rfl rfl rfl).trans <| rfl))
theorem k_108_105 {E : js_E} {d : Nat} {σ σ2 : js_S} {x1 x2 z1 z2 b : Int} (hb : b = 0 ∨ b = 25) {v : Int} (hd : 1 ≤ d) (hz : js_J E (d - 1) 69 0 [(2, 8 + b), (0, z1), (0, z2), (9, 0)] [] σ = js_r E (0, v) σ2) : js_J E d 108 105 [(2, 22 + b), (2, x1), (0, x2)] [(0, z2), (0, z1), (2, 8 + b)] σ = js_J E d 108 108 [(2, 22 + b), (2, x1), (0, x2)] [(0, v)] σ2 :=
  j_call (m := 1) (js_caV q_108_105 (js_Mo qy_108 qm_10_200)) (js_agV (av := [(0, z1), (0, z2)]) (st := []) rfl rfl (js_o8b hb) rfl) rfl rfl (by rw [ql_69]; exact Nat.le_of_ble_eq_true rfl) (Nat.le_of_ble_eq_true rfl) hd hz
theorem kt_108_105 {E : js_E} {d : Nat} {σ σ2 : js_S} {x1 x2 z1 z2 b : Int} (hb : b = 0 ∨ b = 25) {w : Int} (hd : 1 ≤ d) (hz : js_J E (d - 1) 69 0 [(2, 8 + b), (0, z1), (0, z2), (9, 0)] [] σ = js_t E w σ2) : js_J E d 108 105 [(2, 22 + b), (2, x1), (0, x2)] [(0, z2), (0, z1), (2, 8 + b)] σ = js_t E w σ2 :=
  j_callT (m := 1) (js_caV q_108_105 (js_Mo qy_108 qm_10_200)) (js_agV (av := [(0, z1), (0, z2)]) (st := []) rfl rfl (js_o8b hb) rfl) rfl rfl (by rw [ql_69]; exact Nat.le_of_ble_eq_true rfl) (Nat.le_of_ble_eq_true rfl) hd rfl hz
theorem b_108_108 {E : js_E} {d : Nat} {σ : js_S} {x1 x2 z0 b : Int} (hb : b = 0 ∨ b = 25) : js_J E d 108 108 [(2, 22 + b), (2, x1), (0, x2)] [(0, z0)] σ = js_J E d 108 114 [(2, 22 + b), (2, x1), (0, x2)] [(0, x2), (2, 8 + b)] σ :=
  (j_pop0 q_108_108).trans <| (j_aload_n q_108_109 rfl).trans <| (j_get (ji := 3) (v := (2, 8 + b)) q_108_110 (js_Fo qy_108 qf_10_25) (js_o22b hb) rfl rfl rfl rfl).trans <| (j_iload_n q_108_113 rfl).trans <| rfl
theorem k_108_114 {E : js_E} {d : Nat} {σ σ2 : js_S} {x1 x2 z1 b : Int} (hb : b = 0 ∨ b = 25) (hd : 1 ≤ d) (hz : js_J E (d - 1) 102 0 [(2, 8 + b), (0, z1), (9, 0)] [] σ = js_r0 E σ2) : js_J E d 108 114 [(2, 22 + b), (2, x1), (0, x2)] [(0, z1), (2, 8 + b)] σ = js_J E d 108 117 [(2, 22 + b), (2, x1), (0, x2)] [] σ2 :=
  j_call0 (m := 1) (js_caV q_108_114 (js_Mo qy_108 qm_10_203)) (js_agV (av := [(0, z1)]) (st := []) rfl rfl (js_o8b hb) rfl) rfl rfl (by rw [ql_102]; exact Nat.le_of_ble_eq_true rfl) (Nat.le_of_ble_eq_true rfl) hd hz
theorem kt_108_114 {E : js_E} {d : Nat} {σ σ2 : js_S} {x1 x2 z1 b : Int} (hb : b = 0 ∨ b = 25) {w : Int} (hd : 1 ≤ d) (hz : js_J E (d - 1) 102 0 [(2, 8 + b), (0, z1), (9, 0)] [] σ = js_t E w σ2) : js_J E d 108 114 [(2, 22 + b), (2, x1), (0, x2)] [(0, z1), (2, 8 + b)] σ = js_t E w σ2 :=
  j_callT (m := 1) (js_caV q_108_114 (js_Mo qy_108 qm_10_203)) (js_agV (av := [(0, z1)]) (st := []) rfl rfl (js_o8b hb) rfl) rfl rfl (by rw [ql_102]; exact Nat.le_of_ble_eq_true rfl) (Nat.le_of_ble_eq_true rfl) hd rfl hz
theorem b_108_117 {E : js_E} {d : Nat} {σ : js_S} {x1 x2 b : Int} (hb : b = 0 ∨ b = 25) : js_J E d 108 117 [(2, 22 + b), (2, x1), (0, x2)] [] σ = js_J E d 108 123 [(2, 22 + b), (2, x1), (0, x2)] [(0, 0), (0, 3), (2, 8 + b)] σ :=
  (j_aload_n q_108_117 rfl).trans <| (j_get (ji := 3) (v := (2, 8 + b)) q_108_118 (js_Fo qy_108 qf_10_25) (js_o22b hb) rfl rfl rfl rfl).trans <| (j_iconst q_108_121).trans <| (j_iconst q_108_122).trans <| rfl
theorem k_108_123 {E : js_E} {d : Nat} {σ σ2 : js_S} {x1 x2 z1 z2 b : Int} (hb : b = 0 ∨ b = 25) {v : Int} (hd : 1 ≤ d) (hz : js_J E (d - 1) 95 0 [(2, 8 + b), (0, z1), (0, z2)] [] σ = js_r E (0, v) σ2) : js_J E d 108 123 [(2, 22 + b), (2, x1), (0, x2)] [(0, z2), (0, z1), (2, 8 + b)] σ = js_J E d 108 126 [(2, 22 + b), (2, x1), (0, x2)] [(0, v)] σ2 :=
  j_call (m := 0) (js_caV q_108_123 (js_Mo qy_108 qm_10_95)) (js_agV (av := [(0, z1), (0, z2)]) (st := []) rfl rfl (js_o8b hb) rfl) rfl rfl (by rw [ql_95]; exact Nat.le_of_ble_eq_true rfl) (Nat.le_of_ble_eq_true rfl) hd hz
theorem kt_108_123 {E : js_E} {d : Nat} {σ σ2 : js_S} {x1 x2 z1 z2 b : Int} (hb : b = 0 ∨ b = 25) {w : Int} (hd : 1 ≤ d) (hz : js_J E (d - 1) 95 0 [(2, 8 + b), (0, z1), (0, z2)] [] σ = js_t E w σ2) : js_J E d 108 123 [(2, 22 + b), (2, x1), (0, x2)] [(0, z2), (0, z1), (2, 8 + b)] σ = js_t E w σ2 :=
  j_callT (m := 0) (js_caV q_108_123 (js_Mo qy_108 qm_10_95)) (js_agV (av := [(0, z1), (0, z2)]) (st := []) rfl rfl (js_o8b hb) rfl) rfl rfl (by rw [ql_95]; exact Nat.le_of_ble_eq_true rfl) (Nat.le_of_ble_eq_true rfl) hd rfl hz
theorem b_108_126 {E : js_E} {d : Nat} {σ : js_S} {x1 x2 z0 b : Int} (hb : b = 0 ∨ b = 25) : js_J E d 108 126 [(2, 22 + b), (2, x1), (0, x2)] [(0, z0)] σ = js_J E d 108 134 [(2, 22 + b), (2, x1), (0, x2)] [(0, x2 + 1), (2, 8 + b)] σ :=
  (j_pop0 q_108_126).trans <| (j_aload_n q_108_127 rfl).trans <| (j_get (ji := 3) (v := (2, 8 + b)) q_108_128 (js_Fo qy_108 qf_10_25) (js_o22b hb) rfl rfl rfl rfl).trans <| (j_iload_n q_108_131 rfl).trans <| (j_iconst q_108_132).trans <| (j_iadd q_108_133).trans <| rfl
theorem k_108_134 {E : js_E} {d : Nat} {σ σ2 : js_S} {x1 x2 z1 b : Int} (hb : b = 0 ∨ b = 25) (hd : 1 ≤ d) (hz : js_J E (d - 1) 102 0 [(2, 8 + b), (0, z1), (9, 0)] [] σ = js_r0 E σ2) : js_J E d 108 134 [(2, 22 + b), (2, x1), (0, x2)] [(0, z1), (2, 8 + b)] σ = js_J E d 108 137 [(2, 22 + b), (2, x1), (0, x2)] [] σ2 :=
  j_call0 (m := 1) (js_caV q_108_134 (js_Mo qy_108 qm_10_203)) (js_agV (av := [(0, z1)]) (st := []) rfl rfl (js_o8b hb) rfl) rfl rfl (by rw [ql_102]; exact Nat.le_of_ble_eq_true rfl) (Nat.le_of_ble_eq_true rfl) hd hz
theorem kt_108_134 {E : js_E} {d : Nat} {σ σ2 : js_S} {x1 x2 z1 b : Int} (hb : b = 0 ∨ b = 25) {w : Int} (hd : 1 ≤ d) (hz : js_J E (d - 1) 102 0 [(2, 8 + b), (0, z1), (9, 0)] [] σ = js_t E w σ2) : js_J E d 108 134 [(2, 22 + b), (2, x1), (0, x2)] [(0, z1), (2, 8 + b)] σ = js_t E w σ2 :=
  j_callT (m := 1) (js_caV q_108_134 (js_Mo qy_108 qm_10_203)) (js_agV (av := [(0, z1)]) (st := []) rfl rfl (js_o8b hb) rfl) rfl rfl (by rw [ql_102]; exact Nat.le_of_ble_eq_true rfl) (Nat.le_of_ble_eq_true rfl) hd rfl hz
theorem b_108_137 {E : js_E} {d : Nat} {σ : js_S} {x1 x2 b : Int} (hb : b = 0 ∨ b = 25) : js_J E d 108 137 [(2, 22 + b), (2, x1), (0, x2)] [] σ = js_J E d 108 142 [(2, 22 + b), (2, x1), (0, x2)] [(2, x1), (2, 8 + b)] σ :=
  (j_aload_n q_108_137 rfl).trans <| (j_get (ji := 3) (v := (2, 8 + b)) q_108_138 (js_Fo qy_108 qf_10_25) (js_o22b hb) rfl rfl rfl rfl).trans <| (j_aload_n q_108_141 rfl).trans <| rfl
theorem k_108_142 {E : js_E} {d : Nat} {σ σ2 : js_S} {x1 x2 z1 b : Int} (hb : b = 0 ∨ b = 25) (hd : 1 ≤ d) (hz : js_J E (d - 1) 109 0 [(2, 8 + b), (2, z1)] [] σ = js_r0 E σ2) : js_J E d 108 142 [(2, 22 + b), (2, x1), (0, x2)] [(2, z1), (2, 8 + b)] σ = js_J E d 108 145 [(2, 22 + b), (2, x1), (0, x2)] [] σ2 :=
  j_call0 (m := 0) (js_caV q_108_142 (js_Mo qy_108 qm_10_206)) (js_agV (av := [(2, z1)]) (st := []) rfl rfl (js_o8b hb) rfl) rfl rfl (by rw [ql_109]; exact Nat.le_of_ble_eq_true rfl) (Nat.le_of_ble_eq_true rfl) hd hz
theorem kt_108_142 {E : js_E} {d : Nat} {σ σ2 : js_S} {x1 x2 z1 b : Int} (hb : b = 0 ∨ b = 25) {w : Int} (hd : 1 ≤ d) (hz : js_J E (d - 1) 109 0 [(2, 8 + b), (2, z1)] [] σ = js_t E w σ2) : js_J E d 108 142 [(2, 22 + b), (2, x1), (0, x2)] [(2, z1), (2, 8 + b)] σ = js_t E w σ2 :=
  j_callT (m := 0) (js_caV q_108_142 (js_Mo qy_108 qm_10_206)) (js_agV (av := [(2, z1)]) (st := []) rfl rfl (js_o8b hb) rfl) rfl rfl (by rw [ql_109]; exact Nat.le_of_ble_eq_true rfl) (Nat.le_of_ble_eq_true rfl) hd rfl hz
theorem b_108_145 {E : js_E} {d : Nat} {σ : js_S} {x1 x2 b : Int} (hb : b = 0 ∨ b = 25) : js_J E d 108 145 [(2, 22 + b), (2, x1), (0, x2)] [] σ = js_J E d 108 165 [(2, 22 + b), (2, x1), (0, x2)] [] (js_up σ (8 + b) 10 x2) :=
  (j_aload_n q_108_145 rfl).trans <| (j_get (ji := 3) (v := (2, 8 + b)) q_108_146 (js_Fo qy_108 qf_10_25) (js_o22b hb) rfl rfl rfl rfl).trans <| (j_iload_n q_108_149 rfl).trans <| (j_putI (ji := 10) q_108_150 (js_Fo qy_108 qf_10_192) rfl (js_o8b hb) rfl rfl rfl).trans <| (j_goto (t := 165) q_108_153 rfl).trans <| rfl
theorem k_108_162 {E : js_E} {d : Nat} {σ σ2 : js_S} {x1 x2 z1 z2 b : Int} (hb : b = 0 ∨ b = 25) (hd : 1 ≤ d) (hz : js_J E (d - 1) 97 0 [(2, 8 + b), (2, z1), (0, z2)] [] σ = js_r0 E σ2) : js_J E d 108 162 [(2, 22 + b), (2, x1), (0, x2)] [(0, z2), (2, z1), (2, 8 + b)] σ = js_J E d 108 165 [(2, 22 + b), (2, x1), (0, x2)] [] σ2 :=
  j_call0 (m := 0) (js_caV q_108_162 (js_Mo qy_108 qm_10_175)) (js_agV (av := [(2, z1), (0, z2)]) (st := []) rfl rfl (js_o8b hb) rfl) rfl rfl (by rw [ql_97]; exact Nat.le_of_ble_eq_true rfl) (Nat.le_of_ble_eq_true rfl) hd hz
theorem kt_108_162 {E : js_E} {d : Nat} {σ σ2 : js_S} {x1 x2 z1 z2 b : Int} (hb : b = 0 ∨ b = 25) {w : Int} (hd : 1 ≤ d) (hz : js_J E (d - 1) 97 0 [(2, 8 + b), (2, z1), (0, z2)] [] σ = js_t E w σ2) : js_J E d 108 162 [(2, 22 + b), (2, x1), (0, x2)] [(0, z2), (2, z1), (2, 8 + b)] σ = js_t E w σ2 :=
  j_callT (m := 0) (js_caV q_108_162 (js_Mo qy_108 qm_10_175)) (js_agV (av := [(2, z1), (0, z2)]) (st := []) rfl rfl (js_o8b hb) rfl) rfl rfl (by rw [ql_97]; exact Nat.le_of_ble_eq_true rfl) (Nat.le_of_ble_eq_true rfl) hd rfl hz
theorem b_108_165 {E : js_E} {d : Nat} {σ : js_S} {x1 x2 b : Int} : js_J E d 108 165 [(2, 22 + b), (2, x1), (0, x2)] [] σ = js_r0 E σ :=
  j_return q_108_165 qr_108
-- 109: VitalTwin$Code.storeElement (LVitalTwin$Symbol;)V
theorem b_109_0 {E : js_E} {d : Nat} {σ : js_S} {x1 b : Int} (hs_x1 : js_desc E.1 σ x1 = some (0, 11, js_sym)) : js_J E d 109 0 [(2, 8 + b), (2, x1)] [] σ = js_J E d 109 13 [(2, 8 + b), (2, x1)] [(2, x1), (0, 0), (0, 1), (0, σ x1 6), (0, σ x1 5), (0, 5), (2, 8 + b)] σ :=
  (j_aload_n q_109_0 rfl).trans <| (j_iconst q_109_1).trans <| (j_aload_n q_109_2 rfl).trans <| (j_get (ji := 5) (v := (0, σ x1 5)) q_109_3 (js_Fo qy_109 qf_1_81) hs_x1 rfl rfl rfl rfl).trans <| (j_aload_n q_109_6 rfl).trans <| (j_get (ji := 6) (v := (0, σ x1 6)) q_109_7 (js_Fo qy_109 qf_1_88) hs_x1 rfl rfl rfl rfl).trans <| (j_iconst q_109_10).trans <| (j_iconst q_109_11).trans <| (j_aload_n q_109_12 rfl).trans <| rfl
theorem k_109_13 {E : js_E} {d : Nat} {σ σ2 : js_S} {x1 z1 z2 z3 z4 z5 z6 b : Int} {v : Int} (hd : 1 ≤ d) (hz : js_J E (d - 1) 72 0 [(2, z6)] [] σ = js_r E (0, v) σ2) : js_J E d 109 13 [(2, 8 + b), (2, x1)] [(2, z6), (0, z5), (0, z4), (0, z3), (0, z2), (0, z1), (2, 8 + b)] σ = js_J E d 109 16 [(2, 8 + b), (2, x1)] [(0, v), (0, z5), (0, z4), (0, z3), (0, z2), (0, z1), (2, 8 + b)] σ2 :=
  j_call (m := 0) (js_caS q_109_13 (js_Mo qy_109 qm_1_84)) (js_agS (av := [(2, z6)]) (st := [(0, z5), (0, z4), (0, z3), (0, z2), (0, z1), (2, 8 + b)]) rfl rfl) rfl rfl (by rw [ql_72]; exact Nat.le_of_ble_eq_true rfl) (Nat.le_of_ble_eq_true rfl) hd hz
theorem kt_109_13 {E : js_E} {d : Nat} {σ σ2 : js_S} {x1 z1 z2 z3 z4 z5 z6 b : Int} {w : Int} (hd : 1 ≤ d) (hz : js_J E (d - 1) 72 0 [(2, z6)] [] σ = js_t E w σ2) : js_J E d 109 13 [(2, 8 + b), (2, x1)] [(2, z6), (0, z5), (0, z4), (0, z3), (0, z2), (0, z1), (2, 8 + b)] σ = js_t E w σ2 :=
  j_callT (m := 0) (js_caS q_109_13 (js_Mo qy_109 qm_1_84)) (js_agS (av := [(2, z6)]) (st := [(0, z5), (0, z4), (0, z3), (0, z2), (0, z1), (2, 8 + b)]) rfl rfl) rfl rfl (by rw [ql_72]; exact Nat.le_of_ble_eq_true rfl) (Nat.le_of_ble_eq_true rfl) hd rfl hz
theorem k_109_16 {E : js_E} {d : Nat} {σ σ2 : js_S} {x1 z1 z2 z3 z4 z5 z6 b : Int} (hb : b = 0 ∨ b = 25) (hd : 1 ≤ d) (hz : js_J E (d - 1) 60 0 [(2, 8 + b), (0, z1), (0, z2), (0, z3), (0, z4), (0, z5), (0, z6), (9, 0)] [] σ = js_r0 E σ2) : js_J E d 109 16 [(2, 8 + b), (2, x1)] [(0, z6), (0, z5), (0, z4), (0, z3), (0, z2), (0, z1), (2, 8 + b)] σ = js_J E d 109 19 [(2, 8 + b), (2, x1)] [] σ2 :=
  j_call0 (m := 1) (js_caV q_109_16 (js_Mo qy_109 qm_1_74)) (js_agV (av := [(0, z1), (0, z2), (0, z3), (0, z4), (0, z5), (0, z6)]) (st := []) rfl rfl (js_o8b hb) rfl) rfl rfl (by rw [ql_60]; exact Nat.le_of_ble_eq_true rfl) (Nat.le_of_ble_eq_true rfl) hd hz
theorem kt_109_16 {E : js_E} {d : Nat} {σ σ2 : js_S} {x1 z1 z2 z3 z4 z5 z6 b : Int} (hb : b = 0 ∨ b = 25) {w : Int} (hd : 1 ≤ d) (hz : js_J E (d - 1) 60 0 [(2, 8 + b), (0, z1), (0, z2), (0, z3), (0, z4), (0, z5), (0, z6), (9, 0)] [] σ = js_t E w σ2) : js_J E d 109 16 [(2, 8 + b), (2, x1)] [(0, z6), (0, z5), (0, z4), (0, z3), (0, z2), (0, z1), (2, 8 + b)] σ = js_t E w σ2 :=
  j_callT (m := 1) (js_caV q_109_16 (js_Mo qy_109 qm_1_74)) (js_agV (av := [(0, z1), (0, z2), (0, z3), (0, z4), (0, z5), (0, z6)]) (st := []) rfl rfl (js_o8b hb) rfl) rfl rfl (by rw [ql_60]; exact Nat.le_of_ble_eq_true rfl) (Nat.le_of_ble_eq_true rfl) hd rfl hz
theorem b_109_19 {E : js_E} {d : Nat} {σ : js_S} {x1 b : Int} : js_J E d 109 19 [(2, 8 + b), (2, x1)] [] σ = js_r0 E σ :=
  j_return q_109_19 qr_109
-- 110: VitalTwin$Program.hideFrom (I)V
theorem b_110_0 {E : js_E} {d : Nat} {σ : js_S} {x1 b : Int} (hd : 4 ≤ d) : js_J E d 110 0 [(2, 7 + b), (0, x1), (9, 0), (9, 0)] [] σ = js_J E d 110 6 [(2, 7 + b), (0, x1), (0, if js_w 0 < js_w x1 then x1 else 0), (9, 0)] [] σ :=
  (j_iconst q_110_0).trans <| (j_iload_n q_110_1 rfl).trans <| (j_max (js_clS q_110_2 (js_Mo qy_110 qm_7_104)) (Nat.le_of_ble_eq_true rfl) hd).trans <| (j_istore_n (l2 := [(2, 7 + b), (0, x1), (0, if js_w 0 < js_w x1 then x1 else 0), (9, 0)]) q_110_5 rfl (Nat.le_of_ble_eq_true rfl)).trans <| rfl
theorem b_110_6 {E : js_E} {d : Nat} {σ : js_S} {x1 x2 b : Int} {ux3 : js_v} (hb : b = 0 ∨ b = 25) : js_J E d 110 6 [(2, 7 + b), (0, x1), (0, x2), ux3] [] σ = (if js_w x2 < js_w (σ (7 + b) 1) then js_J E d 110 16 [(2, 7 + b), (0, x1), (0, x2), ux3] [(0, x2), (2, 7 + b)] σ else js_r0 E σ) :=
  (j_iload_n q_110_6 rfl).trans <| (j_aload_n q_110_7 rfl).trans <| (j_get (ji := 1) (v := (0, σ (7 + b) 1)) q_110_8 (js_Fo qy_110 qf_7_31) (js_o7b hb) rfl rfl rfl rfl).trans <| (j_cmpge (t := 35) q_110_11 rfl).trans (js_ite ((j_aload_n q_110_14 rfl).trans <| (j_iload_n q_110_15 rfl).trans <| rfl) (j_return q_110_35 qr_110))
theorem k_110_16 {E : js_E} {d : Nat} {σ σ2 : js_S} {x1 x2 z1 b : Int} {ux3 : js_v} (hb : b = 0 ∨ b = 25) {v : Int} (hd : 1 ≤ d) (hz : js_J E (d - 1) 67 0 [(2, 7 + b), (0, z1)] [] σ = js_r E (2, v) σ2) : js_J E d 110 16 [(2, 7 + b), (0, x1), (0, x2), ux3] [(0, z1), (2, 7 + b)] σ = js_J E d 110 19 [(2, 7 + b), (0, x1), (0, x2), ux3] [(2, v)] σ2 :=
  j_call (m := 0) (js_caV q_110_16 (js_Mo qy_110 qm_7_50)) (js_agV (av := [(0, z1)]) (st := []) rfl rfl (js_o7b hb) rfl) rfl rfl (by rw [ql_67]; exact Nat.le_of_ble_eq_true rfl) (Nat.le_of_ble_eq_true rfl) hd hz
theorem kt_110_16 {E : js_E} {d : Nat} {σ σ2 : js_S} {x1 x2 z1 b : Int} {ux3 : js_v} (hb : b = 0 ∨ b = 25) {w : Int} (hd : 1 ≤ d) (hz : js_J E (d - 1) 67 0 [(2, 7 + b), (0, z1)] [] σ = js_t E w σ2) : js_J E d 110 16 [(2, 7 + b), (0, x1), (0, x2), ux3] [(0, z1), (2, 7 + b)] σ = js_t E w σ2 :=
  j_callT (m := 0) (js_caV q_110_16 (js_Mo qy_110 qm_7_50)) (js_agV (av := [(0, z1)]) (st := []) rfl rfl (js_o7b hb) rfl) rfl rfl (by rw [ql_67]; exact Nat.le_of_ble_eq_true rfl) (Nat.le_of_ble_eq_true rfl) hd rfl hz
theorem b_110_19 {E : js_E} {d : Nat} {σ : js_S} {x1 x2 z0 b : Int} {ux3 : js_v} : js_J E d 110 19 [(2, 7 + b), (0, x1), (0, x2), ux3] [(2, z0)] σ = (if z0 < 0 then js_J E d 110 29 [(2, 7 + b), (0, x1), (0, x2), (2, z0)] [] σ else js_J E d 110 24 [(2, 7 + b), (0, x1), (0, x2), (2, z0)] [] σ) :=
  (j_astore_n (l2 := [(2, 7 + b), (0, x1), (0, x2), (2, z0)]) q_110_19 rfl (Nat.le_of_ble_eq_true rfl)).trans <| (j_aload_n q_110_20 rfl).trans <| (j_ifnull (t := 29) q_110_21 rfl).trans (js_ite (rfl) (rfl))
theorem b_110_24 {E : js_E} {d : Nat} {σ : js_S} {x1 x2 x3 b : Int} (hs_x3 : js_desc E.1 σ x3 = some (0, 11, js_sym)) : js_J E d 110 24 [(2, 7 + b), (0, x1), (0, x2), (2, x3)] [] σ = js_J E d 110 29 [(2, 7 + b), (0, x1), (0, x2), (2, x3)] [] (js_up σ x3 13 0) :=
  (j_aload_n q_110_24 rfl).trans <| (j_iconst q_110_25).trans <| (j_putB0 (ji := 13) q_110_26 (js_Fo qy_110 qf_7_60) rfl hs_x3 rfl rfl rfl).trans <| rfl
theorem b_110_29 {E : js_E} {d : Nat} {σ : js_S} {x1 x2 x3 b : Int} : js_J E d 110 29 [(2, 7 + b), (0, x1), (0, x2), (2, x3)] [] σ = js_J E d 110 6 [(2, 7 + b), (0, x1), (0, x2 + 1), (2, x3)] [] σ :=
  (j_iinc (l2 := [(2, 7 + b), (0, x1), (0, x2 + 1), (2, x3)]) q_110_29 rfl rfl).trans <| (j_goto (t := 6) q_110_32 rfl).trans <| rfl
-- 111: VitalTwin$Code.endUnit ()V
theorem b_111_0 {E : js_E} {d : Nat} {σ : js_S} {b : Int} (hb : b = 0 ∨ b = 25) : js_J E d 111 0 [(2, 8 + b)] [] σ = (if js_w (σ (8 + b) 8) < 401 then (if 0 ≤ js_w (σ (8 + b) 8) ∧ js_w (σ (8 + b) 8) < 401 then js_J E d 111 36 [(2, 8 + b)] [] (js_up (js_up σ (15 + b) (js_w (σ (8 + b) 8)) (σ (8 + b) 9)) (16 + b) (js_w (σ (8 + b) 8)) (σ (8 + b) 11)) else none) else js_J E d 111 36 [(2, 8 + b)] [] σ) :=
  (j_aload_n q_111_0 rfl).trans <| (j_get (ji := 8) (v := (0, σ (8 + b) 8)) q_111_1 (js_Fo qy_111 qf_1_46) (js_o8b hb) rfl rfl rfl rfl).trans <| (j_si q_111_4 rfl).trans <| (j_cmpgeB (t := 36) q_111_7 rfl ww_401).trans (js_ite ((j_aload_n q_111_10 rfl).trans <| (j_get (ji := 13) (v := (2, 15 + b)) q_111_11 (js_Fo qy_111 qf_1_30) (js_o8b hb) rfl rfl rfl rfl).trans <| (j_aload_n q_111_14 rfl).trans <| (j_get (ji := 8) (v := (0, σ (8 + b) 8)) q_111_15 (js_Fo qy_111 qf_1_46) (js_o8b hb) rfl rfl rfl rfl).trans <| (j_aload_n q_111_18 rfl).trans <| (j_get (ji := 9) (v := (0, σ (8 + b) 9)) q_111_19 (js_Fo qy_111 qf_1_55) (js_o8b hb) rfl rfl rfl rfl).trans <| (j_iastore q_111_22 (js_o15b hb)).trans <| js_itp fun g0 => (j_aload_n q_111_23 rfl).trans <| (j_get (ji := 14) (v := (2, 16 + b)) q_111_24 (js_Fo qy_111 qf_1_33) (js_o8b hb) rfl rfl rfl rfl).trans <| (j_aload_n q_111_27 rfl).trans <| (j_get (ji := 8) (v := (0, σ (8 + b) 8)) q_111_28 (js_Fo qy_111 qf_1_46) (js_o8b hb) rfl rfl rfl (congrArg (Prod.mk 0) ((js_up_ne _ (by omega))))).trans <| (j_aload_n q_111_31 rfl).trans <| (j_get (ji := 11) (v := (0, σ (8 + b) 11)) q_111_32 (js_Fo qy_111 qf_1_61) (js_o8b hb) rfl rfl rfl (congrArg (Prod.mk 0) ((js_up_ne _ (by omega))))).trans <| (j_iastore q_111_35 (js_o16b hb)).trans <| (if_pos g0).trans <| rfl) (rfl))
theorem b_111_36 {E : js_E} {d : Nat} {σ : js_S} {b : Int} (hb : b = 0 ∨ b = 25) : js_J E d 111 36 [(2, 8 + b)] [] σ = js_J E d 111 47 [(2, 8 + b)] [(2, 8 + b)] (js_up σ (8 + b) 8 ((σ (8 + b) 8) + 1)) :=
  (j_aload_n q_111_36 rfl).trans <| (j_dupr q_111_37).trans <| (j_get (ji := 8) (v := (0, σ (8 + b) 8)) q_111_38 (js_Fo qy_111 qf_1_46) (js_o8b hb) rfl rfl rfl rfl).trans <| (j_iconst q_111_41).trans <| (j_iadd q_111_42).trans <| (j_putI (ji := 8) q_111_43 (js_Fo qy_111 qf_1_46) rfl (js_o8b hb) rfl rfl rfl).trans <| (j_aload_n q_111_46 rfl).trans <| rfl
theorem k_111_47 {E : js_E} {d : Nat} {σ σ2 : js_S} {b : Int} (hb : b = 0 ∨ b = 25) (hd : 1 ≤ d) (hz : js_J E (d - 1) 19 0 [(2, 8 + b)] [] σ = js_r0 E σ2) : js_J E d 111 47 [(2, 8 + b)] [(2, 8 + b)] σ = js_J E d 111 50 [(2, 8 + b)] [] σ2 :=
  j_call0 (m := 0) (js_caV q_111_47 (js_Mo qy_111 qm_1_49)) (js_agV (av := []) (st := []) rfl rfl (js_o8b hb) rfl) rfl rfl (by rw [ql_19]; exact Nat.le_of_ble_eq_true rfl) (Nat.le_of_ble_eq_true rfl) hd hz
theorem kt_111_47 {E : js_E} {d : Nat} {σ σ2 : js_S} {b : Int} (hb : b = 0 ∨ b = 25) {w : Int} (hd : 1 ≤ d) (hz : js_J E (d - 1) 19 0 [(2, 8 + b)] [] σ = js_t E w σ2) : js_J E d 111 47 [(2, 8 + b)] [(2, 8 + b)] σ = js_t E w σ2 :=
  j_callT (m := 0) (js_caV q_111_47 (js_Mo qy_111 qm_1_49)) (js_agV (av := []) (st := []) rfl rfl (js_o8b hb) rfl) rfl rfl (by rw [ql_19]; exact Nat.le_of_ble_eq_true rfl) (Nat.le_of_ble_eq_true rfl) hd rfl hz
theorem b_111_50 {E : js_E} {d : Nat} {σ : js_S} {b : Int} : js_J E d 111 50 [(2, 8 + b)] [] σ = js_r0 E σ :=
  j_return q_111_50 qr_111
-- 112: VitalTwin$Declarations.readCycle ()V
theorem b_112_0 {E : js_E} {d : Nat} {σ : js_S} {b : Int} (hb : b = 0 ∨ b = 25) : js_J E d 112 0 [(2, 6 + b)] [] σ = js_J E d 112 7 [(2, 6 + b)] [(0, 214), (2, 1)] σ :=
  (j_aload_n q_112_0 rfl).trans <| (j_get (ji := 1) (v := (2, 1)) q_112_1 (js_Fo qy_112 qf_4_17) (js_o6b hb) rfl rfl rfl rfl).trans <| (j_si q_112_4 rfl).trans <| rfl
theorem k_112_7 {E : js_E} {d : Nat} {σ σ2 : js_S} {z1 b : Int} (hd : 1 ≤ d) (hz : js_J E (d - 1) 40 0 [(2, 1), (0, z1)] [] σ = js_r0 E σ2) : js_J E d 112 7 [(2, 6 + b)] [(0, z1), (2, 1)] σ = js_J E d 112 10 [(2, 6 + b)] [] σ2 :=
  j_call0 (m := 0) (js_caV q_112_7 (js_Mo qy_112 qm_4_80)) (js_agV (av := [(0, z1)]) (st := []) rfl rfl js_o1 rfl) rfl rfl (by rw [ql_40]; exact Nat.le_of_ble_eq_true rfl) (Nat.le_of_ble_eq_true rfl) hd hz
theorem kt_112_7 {E : js_E} {d : Nat} {σ σ2 : js_S} {z1 b : Int} {w : Int} (hd : 1 ≤ d) (hz : js_J E (d - 1) 40 0 [(2, 1), (0, z1)] [] σ = js_t E w σ2) : js_J E d 112 7 [(2, 6 + b)] [(0, z1), (2, 1)] σ = js_t E w σ2 :=
  j_callT (m := 0) (js_caV q_112_7 (js_Mo qy_112 qm_4_80)) (js_agV (av := [(0, z1)]) (st := []) rfl rfl js_o1 rfl) rfl rfl (by rw [ql_40]; exact Nat.le_of_ble_eq_true rfl) (Nat.le_of_ble_eq_true rfl) hd rfl hz
theorem b_112_10 {E : js_E} {d : Nat} {σ : js_S} {b : Int} (hb : b = 0 ∨ b = 25) : js_J E d 112 10 [(2, 6 + b)] [] σ = js_J E d 112 39 [(2, 6 + b)] [(2, (-1)), (0, σ (7 + b) 1), (2, 22 + b)] (js_up σ (7 + b) 3 (σ (8 + b) 6)) :=
  (j_aload_n q_112_10 rfl).trans <| (j_get (ji := 0) (v := (2, 7 + b)) q_112_11 (js_Fo qy_112 qf_4_27) (js_o6b hb) rfl rfl rfl rfl).trans <| (j_aload_n q_112_14 rfl).trans <| (j_get (ji := 0) (v := (2, 7 + b)) q_112_15 (js_Fo qy_112 qf_4_27) (js_o6b hb) rfl rfl rfl rfl).trans <| (j_get (ji := 0) (v := (2, 8 + b)) q_112_18 (js_Fo qy_112 qf_4_83) (js_o7b hb) rfl rfl rfl rfl).trans <| (j_get (ji := 6) (v := (0, σ (8 + b) 6)) q_112_21 (js_Fo qy_112 qf_4_87) (js_o8b hb) rfl rfl rfl rfl).trans <| (j_putI (ji := 3) q_112_24 (js_Fo qy_112 qf_4_92) rfl (js_o7b hb) rfl rfl rfl).trans <| (j_aload_n q_112_27 rfl).trans <| (j_get (ji := 4) (v := (2, 22 + b)) q_112_28 (js_Fo qy_112 qf_4_40) (js_o6b hb) rfl rfl rfl rfl).trans <| (j_aload_n q_112_31 rfl).trans <| (j_get (ji := 0) (v := (2, 7 + b)) q_112_32 (js_Fo qy_112 qf_4_27) (js_o6b hb) rfl rfl rfl rfl).trans <| (j_get (ji := 1) (v := (0, σ (7 + b) 1)) q_112_35 (js_Fo qy_112 qf_4_95) (js_o7b hb) rfl rfl rfl (congrArg (Prod.mk 0) ((js_up_ne _ (by omega))))).trans <| (j_null q_112_38).trans <| rfl
theorem k_112_39 {E : js_E} {d : Nat} {σ σ2 : js_S} {z1 z2 b : Int} (hb : b = 0 ∨ b = 25) (hd : 1 ≤ d) (hz : js_J E (d - 1) 55 0 [(2, 22 + b), (0, z1), (2, z2), (9, 0)] [] σ = js_r0 E σ2) : js_J E d 112 39 [(2, 6 + b)] [(2, z2), (0, z1), (2, 22 + b)] σ = js_J E d 112 42 [(2, 6 + b)] [] σ2 :=
  j_call0 (m := 1) (js_caV q_112_39 (js_Mo qy_112 qm_4_98)) (js_agV (av := [(0, z1), (2, z2)]) (st := []) rfl rfl (js_o22b hb) rfl) rfl rfl (by rw [ql_55]; exact Nat.le_of_ble_eq_true rfl) (Nat.le_of_ble_eq_true rfl) hd hz
theorem kt_112_39 {E : js_E} {d : Nat} {σ σ2 : js_S} {z1 z2 b : Int} (hb : b = 0 ∨ b = 25) {w : Int} (hd : 1 ≤ d) (hz : js_J E (d - 1) 55 0 [(2, 22 + b), (0, z1), (2, z2), (9, 0)] [] σ = js_t E w σ2) : js_J E d 112 39 [(2, 6 + b)] [(2, z2), (0, z1), (2, 22 + b)] σ = js_t E w σ2 :=
  j_callT (m := 1) (js_caV q_112_39 (js_Mo qy_112 qm_4_98)) (js_agV (av := [(0, z1), (2, z2)]) (st := []) rfl rfl (js_o22b hb) rfl) rfl rfl (by rw [ql_55]; exact Nat.le_of_ble_eq_true rfl) (Nat.le_of_ble_eq_true rfl) hd rfl hz
theorem b_112_42 {E : js_E} {d : Nat} {σ : js_S} {b : Int} (hb : b = 0 ∨ b = 25) : js_J E d 112 42 [(2, 6 + b)] [] σ = js_J E d 112 52 [(2, 6 + b)] [(0, 0), (0, 29), (2, 8 + b)] σ :=
  (j_aload_n q_112_42 rfl).trans <| (j_get (ji := 0) (v := (2, 7 + b)) q_112_43 (js_Fo qy_112 qf_4_27) (js_o6b hb) rfl rfl rfl rfl).trans <| (j_get (ji := 0) (v := (2, 8 + b)) q_112_46 (js_Fo qy_112 qf_4_83) (js_o7b hb) rfl rfl rfl rfl).trans <| (j_bi q_112_49 rfl).trans <| (j_iconst q_112_51).trans <| rfl
theorem k_112_52 {E : js_E} {d : Nat} {σ σ2 : js_S} {z1 z2 b : Int} (hb : b = 0 ∨ b = 25) {v : Int} (hd : 1 ≤ d) (hz : js_J E (d - 1) 95 0 [(2, 8 + b), (0, z1), (0, z2)] [] σ = js_r E (0, v) σ2) : js_J E d 112 52 [(2, 6 + b)] [(0, z2), (0, z1), (2, 8 + b)] σ = js_J E d 112 55 [(2, 6 + b)] [(0, v)] σ2 :=
  j_call (m := 0) (js_caV q_112_52 (js_Mo qy_112 qm_4_102)) (js_agV (av := [(0, z1), (0, z2)]) (st := []) rfl rfl (js_o8b hb) rfl) rfl rfl (by rw [ql_95]; exact Nat.le_of_ble_eq_true rfl) (Nat.le_of_ble_eq_true rfl) hd hz
theorem kt_112_52 {E : js_E} {d : Nat} {σ σ2 : js_S} {z1 z2 b : Int} (hb : b = 0 ∨ b = 25) {w : Int} (hd : 1 ≤ d) (hz : js_J E (d - 1) 95 0 [(2, 8 + b), (0, z1), (0, z2)] [] σ = js_t E w σ2) : js_J E d 112 52 [(2, 6 + b)] [(0, z2), (0, z1), (2, 8 + b)] σ = js_t E w σ2 :=
  j_callT (m := 0) (js_caV q_112_52 (js_Mo qy_112 qm_4_102)) (js_agV (av := [(0, z1), (0, z2)]) (st := []) rfl rfl (js_o8b hb) rfl) rfl rfl (by rw [ql_95]; exact Nat.le_of_ble_eq_true rfl) (Nat.le_of_ble_eq_true rfl) hd rfl hz
theorem b_112_55 {E : js_E} {d : Nat} {σ : js_S} {z0 b : Int} (hb : b = 0 ∨ b = 25) : js_J E d 112 55 [(2, 6 + b)] [(0, z0)] σ = js_J E d 112 80 [(2, 6 + b)] [(2, 8 + b)] (js_up σ (7 + b) 4 (σ (8 + b) 7)) :=
  (j_pop0 q_112_55).trans <| (j_aload_n q_112_56 rfl).trans <| (j_get (ji := 0) (v := (2, 7 + b)) q_112_57 (js_Fo qy_112 qf_4_27) (js_o6b hb) rfl rfl rfl rfl).trans <| (j_aload_n q_112_60 rfl).trans <| (j_get (ji := 0) (v := (2, 7 + b)) q_112_61 (js_Fo qy_112 qf_4_27) (js_o6b hb) rfl rfl rfl rfl).trans <| (j_get (ji := 0) (v := (2, 8 + b)) q_112_64 (js_Fo qy_112 qf_4_83) (js_o7b hb) rfl rfl rfl rfl).trans <| (j_get (ji := 7) (v := (0, σ (8 + b) 7)) q_112_67 (js_Fo qy_112 qf_4_106) (js_o8b hb) rfl rfl rfl rfl).trans <| (j_putI (ji := 4) q_112_70 (js_Fo qy_112 qf_4_109) rfl (js_o7b hb) rfl rfl rfl).trans <| (j_aload_n q_112_73 rfl).trans <| (j_get (ji := 0) (v := (2, 7 + b)) q_112_74 (js_Fo qy_112 qf_4_27) (js_o6b hb) rfl rfl rfl rfl).trans <| (j_get (ji := 0) (v := (2, 8 + b)) q_112_77 (js_Fo qy_112 qf_4_83) (js_o7b hb) rfl rfl rfl rfl).trans <| rfl
theorem k_112_80 {E : js_E} {d : Nat} {σ σ2 : js_S} {b : Int} (hb : b = 0 ∨ b = 25) (hd : 1 ≤ d) (hz : js_J E (d - 1) 111 0 [(2, 8 + b)] [] σ = js_r0 E σ2) : js_J E d 112 80 [(2, 6 + b)] [(2, 8 + b)] σ = js_J E d 112 83 [(2, 6 + b)] [] σ2 :=
  j_call0 (m := 0) (js_caV q_112_80 (js_Mo qy_112 qm_4_110)) (js_agV (av := []) (st := []) rfl rfl (js_o8b hb) rfl) rfl rfl (by rw [ql_111]; exact Nat.le_of_ble_eq_true rfl) (Nat.le_of_ble_eq_true rfl) hd hz
theorem kt_112_80 {E : js_E} {d : Nat} {σ σ2 : js_S} {b : Int} (hb : b = 0 ∨ b = 25) {w : Int} (hd : 1 ≤ d) (hz : js_J E (d - 1) 111 0 [(2, 8 + b)] [] σ = js_t E w σ2) : js_J E d 112 80 [(2, 6 + b)] [(2, 8 + b)] σ = js_t E w σ2 :=
  j_callT (m := 0) (js_caV q_112_80 (js_Mo qy_112 qm_4_110)) (js_agV (av := []) (st := []) rfl rfl (js_o8b hb) rfl) rfl rfl (by rw [ql_111]; exact Nat.le_of_ble_eq_true rfl) (Nat.le_of_ble_eq_true rfl) hd rfl hz
theorem b_112_83 {E : js_E} {d : Nat} {σ : js_S} {b : Int} (hb : b = 0 ∨ b = 25) : js_J E d 112 83 [(2, 6 + b)] [] σ = (if js_w (σ 1 1) = 0 then js_J E d 112 108 [(2, 6 + b)] [] σ else js_J E d 112 105 [(2, 6 + b)] [(0, σ 1 2), (0, 1), (2, 1)] σ) :=
  (j_aload_n q_112_83 rfl).trans <| (j_get (ji := 1) (v := (2, 1)) q_112_84 (js_Fo qy_112 qf_4_17) (js_o6b hb) rfl rfl rfl rfl).trans <| (j_get (ji := 1) (v := (0, σ 1 1)) q_112_87 (js_Fo qy_112 qf_4_54) js_o1 rfl rfl rfl rfl).trans <| (j_ifeq (t := 108) q_112_90 rfl).trans (js_ite (rfl) ((j_aload_n q_112_93 rfl).trans <| (j_get (ji := 1) (v := (2, 1)) q_112_94 (js_Fo qy_112 qf_4_17) (js_o6b hb) rfl rfl rfl rfl).trans <| (j_iconst q_112_97).trans <| (j_aload_n q_112_98 rfl).trans <| (j_get (ji := 1) (v := (2, 1)) q_112_99 (js_Fo qy_112 qf_4_17) (js_o6b hb) rfl rfl rfl rfl).trans <| (j_get (ji := 2) (v := (0, σ 1 2)) q_112_102 (js_Fo qy_112 qf_4_70) js_o1 rfl rfl rfl rfl).trans <| rfl))
theorem k_112_105 {E : js_E} {d : Nat} {σ σ2 : js_S} {z1 z2 b : Int} (hd : 1 ≤ d) (hz : js_J E (d - 1) 36 0 [(2, 1), (0, z1), (0, z2)] [] σ = js_r0 E σ2) : js_J E d 112 105 [(2, 6 + b)] [(0, z2), (0, z1), (2, 1)] σ = js_J E d 112 108 [(2, 6 + b)] [] σ2 :=
  j_call0 (m := 0) (js_caV q_112_105 (js_Mo qy_112 qm_4_73)) (js_agV (av := [(0, z1), (0, z2)]) (st := []) rfl rfl js_o1 rfl) rfl rfl (by rw [ql_36]; exact Nat.le_of_ble_eq_true rfl) (Nat.le_of_ble_eq_true rfl) hd hz
theorem kt_112_105 {E : js_E} {d : Nat} {σ σ2 : js_S} {z1 z2 b : Int} {w : Int} (hd : 1 ≤ d) (hz : js_J E (d - 1) 36 0 [(2, 1), (0, z1), (0, z2)] [] σ = js_t E w σ2) : js_J E d 112 105 [(2, 6 + b)] [(0, z2), (0, z1), (2, 1)] σ = js_t E w σ2 :=
  j_callT (m := 0) (js_caV q_112_105 (js_Mo qy_112 qm_4_73)) (js_agV (av := [(0, z1), (0, z2)]) (st := []) rfl rfl js_o1 rfl) rfl rfl (by rw [ql_36]; exact Nat.le_of_ble_eq_true rfl) (Nat.le_of_ble_eq_true rfl) hd rfl hz
theorem b_112_108 {E : js_E} {d : Nat} {σ : js_S} {b : Int} (hb : b = 0 ∨ b = 25) : js_J E d 112 108 [(2, 6 + b)] [] σ = js_J E d 112 112 [(2, 6 + b)] [(2, 7 + b)] σ :=
  (j_aload_n q_112_108 rfl).trans <| (j_get (ji := 0) (v := (2, 7 + b)) q_112_109 (js_Fo qy_112 qf_4_27) (js_o6b hb) rfl rfl rfl rfl).trans <| rfl
theorem k_112_112 {E : js_E} {d : Nat} {σ σ2 : js_S} {b : Int} (hb : b = 0 ∨ b = 25) (hd : 1 ≤ d) (hz : js_J E (d - 1) 113 0 [(2, 7 + b), (9, 0), (9, 0)] [] σ = js_r0 E σ2) : js_J E d 112 112 [(2, 6 + b)] [(2, 7 + b)] σ = js_J E d 112 115 [(2, 6 + b)] [] σ2 :=
  j_call0 (m := 2) (js_caV q_112_112 (js_Mo qy_112 qm_4_113)) (js_agV (av := []) (st := []) rfl rfl (js_o7b hb) rfl) rfl rfl (by rw [ql_113]; exact Nat.le_of_ble_eq_true rfl) (Nat.le_of_ble_eq_true rfl) hd hz
theorem kt_112_112 {E : js_E} {d : Nat} {σ σ2 : js_S} {b : Int} (hb : b = 0 ∨ b = 25) {w : Int} (hd : 1 ≤ d) (hz : js_J E (d - 1) 113 0 [(2, 7 + b), (9, 0), (9, 0)] [] σ = js_t E w σ2) : js_J E d 112 112 [(2, 6 + b)] [(2, 7 + b)] σ = js_t E w σ2 :=
  j_callT (m := 2) (js_caV q_112_112 (js_Mo qy_112 qm_4_113)) (js_agV (av := []) (st := []) rfl rfl (js_o7b hb) rfl) rfl rfl (by rw [ql_113]; exact Nat.le_of_ble_eq_true rfl) (Nat.le_of_ble_eq_true rfl) hd rfl hz
theorem b_112_115 {E : js_E} {d : Nat} {σ : js_S} {b : Int} (hb : b = 0 ∨ b = 25) : js_J E d 112 115 [(2, 6 + b)] [] σ = (if 8192 < js_w (σ (8 + b) 6) then js_J E d 112 157 [(2, 6 + b)] [] σ else (if js_w E.1 < js_w (σ (7 + b) 2) then js_J E d 112 157 [(2, 6 + b)] [] σ else (if 100000 < js_w (σ (7 + b) 4) then js_J E d 112 157 [(2, 6 + b)] [] σ else js_J E d 112 173 [(2, 6 + b)] [] σ))) :=
  (j_aload_n q_112_115 rfl).trans <| (j_get (ji := 0) (v := (2, 7 + b)) q_112_116 (js_Fo qy_112 qf_4_27) (js_o6b hb) rfl rfl rfl rfl).trans <| (j_get (ji := 0) (v := (2, 8 + b)) q_112_119 (js_Fo qy_112 qf_4_83) (js_o7b hb) rfl rfl rfl rfl).trans <| (j_get (ji := 6) (v := (0, σ (8 + b) 6)) q_112_122 (js_Fo qy_112 qf_4_87) (js_o8b hb) rfl rfl rfl rfl).trans <| (j_si q_112_125 rfl).trans <| (j_cmpgtB (t := 157) q_112_128 rfl ww_8192).trans (js_ite (rfl) ((j_aload_n q_112_131 rfl).trans <| (j_get (ji := 0) (v := (2, 7 + b)) q_112_132 (js_Fo qy_112 qf_4_27) (js_o6b hb) rfl rfl rfl rfl).trans <| (j_get (ji := 2) (v := (0, σ (7 + b) 2)) q_112_135 (js_Fo qy_112 qf_4_116) (js_o7b hb) rfl rfl rfl rfl).trans <| (j_aload_n q_112_138 rfl).trans <| (j_get (ji := 2) (v := (0, E.1)) q_112_139 (js_Fo qy_112 qf_4_23) (js_o6b hb) rfl rfl rfl rfl).trans <| (j_cmpgt (t := 157) q_112_142 rfl).trans (js_ite (rfl) ((j_aload_n q_112_145 rfl).trans <| (j_get (ji := 0) (v := (2, 7 + b)) q_112_146 (js_Fo qy_112 qf_4_27) (js_o6b hb) rfl rfl rfl rfl).trans <| (j_get (ji := 4) (v := (0, σ (7 + b) 4)) q_112_149 (js_Fo qy_112 qf_4_109) (js_o7b hb) rfl rfl rfl rfl).trans <| (j_ldc (v := (0, 100000)) q_112_152 (js_Co qy_112 qc_4_119)).trans <| (j_cmpleB (t := 173) q_112_154 rfl ww_100000).trans (js_ite (rfl) (rfl))))))
theorem b_112_157 {E : js_E} {d : Nat} {σ : js_S} {b : Int} (hb : b = 0 ∨ b = 25) : js_J E d 112 157 [(2, 6 + b)] [] σ = js_J E d 112 170 [(2, 6 + b)] [(0, σ 1 2), (0, 11), (2, 1)] σ :=
  (j_aload_n q_112_157 rfl).trans <| (j_get (ji := 1) (v := (2, 1)) q_112_158 (js_Fo qy_112 qf_4_17) (js_o6b hb) rfl rfl rfl rfl).trans <| (j_bi q_112_161 rfl).trans <| (j_aload_n q_112_163 rfl).trans <| (j_get (ji := 1) (v := (2, 1)) q_112_164 (js_Fo qy_112 qf_4_17) (js_o6b hb) rfl rfl rfl rfl).trans <| (j_get (ji := 2) (v := (0, σ 1 2)) q_112_167 (js_Fo qy_112 qf_4_70) js_o1 rfl rfl rfl rfl).trans <| rfl
theorem k_112_170 {E : js_E} {d : Nat} {σ σ2 : js_S} {z1 z2 b : Int} (hd : 1 ≤ d) (hz : js_J E (d - 1) 36 0 [(2, 1), (0, z1), (0, z2)] [] σ = js_r0 E σ2) : js_J E d 112 170 [(2, 6 + b)] [(0, z2), (0, z1), (2, 1)] σ = js_J E d 112 173 [(2, 6 + b)] [] σ2 :=
  j_call0 (m := 0) (js_caV q_112_170 (js_Mo qy_112 qm_4_73)) (js_agV (av := [(0, z1), (0, z2)]) (st := []) rfl rfl js_o1 rfl) rfl rfl (by rw [ql_36]; exact Nat.le_of_ble_eq_true rfl) (Nat.le_of_ble_eq_true rfl) hd hz
theorem kt_112_170 {E : js_E} {d : Nat} {σ σ2 : js_S} {z1 z2 b : Int} {w : Int} (hd : 1 ≤ d) (hz : js_J E (d - 1) 36 0 [(2, 1), (0, z1), (0, z2)] [] σ = js_t E w σ2) : js_J E d 112 170 [(2, 6 + b)] [(0, z2), (0, z1), (2, 1)] σ = js_t E w σ2 :=
  j_callT (m := 0) (js_caV q_112_170 (js_Mo qy_112 qm_4_73)) (js_agV (av := [(0, z1), (0, z2)]) (st := []) rfl rfl js_o1 rfl) rfl rfl (by rw [ql_36]; exact Nat.le_of_ble_eq_true rfl) (Nat.le_of_ble_eq_true rfl) hd rfl hz
theorem b_112_173 {E : js_E} {d : Nat} {σ : js_S} {b : Int} : js_J E d 112 173 [(2, 6 + b)] [] σ = js_r0 E σ :=
  j_return q_112_173 qr_112
-- 113: VitalTwin$Program.placeLocals ()V
theorem b_113_0 {E : js_E} {d : Nat} {σ : js_S} {b : Int} (hb : b = 0 ∨ b = 25) : js_J E d 113 0 [(2, 7 + b), (9, 0), (9, 0)] [] σ = js_J E d 113 9 [(2, 7 + b), (9, 0), (9, 0)] [(0, σ (7 + b) 2), (2, 8 + b), (2, 7 + b)] σ :=
  (j_aload_n q_113_0 rfl).trans <| (j_aload_n q_113_1 rfl).trans <| (j_get (ji := 0) (v := (2, 8 + b)) q_113_2 (js_Fo qy_113 qf_7_12) (js_o7b hb) rfl rfl rfl rfl).trans <| (j_aload_n q_113_5 rfl).trans <| (j_get (ji := 2) (v := (0, σ (7 + b) 2)) q_113_6 (js_Fo qy_113 qf_7_35) (js_o7b hb) rfl rfl rfl rfl).trans <| rfl
theorem k_113_9 {E : js_E} {d : Nat} {σ σ2 : js_S} {z2 b : Int} (hb : b = 0 ∨ b = 25) {v : Int} (hd : 1 ≤ d) (hz : js_J E (d - 1) 114 0 [(2, 8 + b), (0, z2), (9, 0), (9, 0), (9, 0), (9, 0)] [] σ = js_r E (0, v) σ2) : js_J E d 113 9 [(2, 7 + b), (9, 0), (9, 0)] [(0, z2), (2, 8 + b), (2, 7 + b)] σ = js_J E d 113 12 [(2, 7 + b), (9, 0), (9, 0)] [(0, v), (2, 7 + b)] σ2 :=
  j_call (m := 4) (js_caV q_113_9 (js_Mo qy_113 qm_7_107)) (js_agV (av := [(0, z2)]) (st := [(2, 7 + b)]) rfl rfl (js_o8b hb) rfl) rfl rfl (by rw [ql_114]; exact Nat.le_of_ble_eq_true rfl) (Nat.le_of_ble_eq_true rfl) hd hz
theorem kt_113_9 {E : js_E} {d : Nat} {σ σ2 : js_S} {z2 b : Int} (hb : b = 0 ∨ b = 25) {w : Int} (hd : 1 ≤ d) (hz : js_J E (d - 1) 114 0 [(2, 8 + b), (0, z2), (9, 0), (9, 0), (9, 0), (9, 0)] [] σ = js_t E w σ2) : js_J E d 113 9 [(2, 7 + b), (9, 0), (9, 0)] [(0, z2), (2, 8 + b), (2, 7 + b)] σ = js_t E w σ2 :=
  j_callT (m := 4) (js_caV q_113_9 (js_Mo qy_113 qm_7_107)) (js_agV (av := [(0, z2)]) (st := [(2, 7 + b)]) rfl rfl (js_o8b hb) rfl) rfl rfl (by rw [ql_114]; exact Nat.le_of_ble_eq_true rfl) (Nat.le_of_ble_eq_true rfl) hd rfl hz
theorem b_113_12 {E : js_E} {d : Nat} {σ : js_S} {z1 b : Int} (hb : b = 0 ∨ b = 25) : js_J E d 113 12 [(2, 7 + b), (9, 0), (9, 0)] [(0, z1), (2, 7 + b)] σ = js_J E d 113 17 [(2, 7 + b), (0, 0), (9, 0)] [] (js_up σ (7 + b) 2 z1) :=
  (j_putI (ji := 2) q_113_12 (js_Fo qy_113 qf_7_35) rfl (js_o7b hb) rfl rfl rfl).trans <| (j_iconst q_113_15).trans <| (j_istore_n (l2 := [(2, 7 + b), (0, 0), (9, 0)]) q_113_16 rfl (Nat.le_of_ble_eq_true rfl)).trans <| rfl
theorem b_113_17 {E : js_E} {d : Nat} {σ : js_S} {x1 b : Int} {ux2 : js_v} (hb : b = 0 ∨ b = 25) : js_J E d 113 17 [(2, 7 + b), (0, x1), ux2] [] σ = (if js_w x1 < js_w (σ (7 + b) 1) then js_J E d 113 27 [(2, 7 + b), (0, x1), ux2] [(0, x1), (2, 7 + b)] σ else js_r0 E σ) :=
  (j_iload_n q_113_17 rfl).trans <| (j_aload_n q_113_18 rfl).trans <| (j_get (ji := 1) (v := (0, σ (7 + b) 1)) q_113_19 (js_Fo qy_113 qf_7_31) (js_o7b hb) rfl rfl rfl rfl).trans <| (j_cmpge (t := 79) q_113_22 rfl).trans (js_ite ((j_aload_n q_113_25 rfl).trans <| (j_iload_n q_113_26 rfl).trans <| rfl) (j_return q_113_79 qr_113))
theorem k_113_27 {E : js_E} {d : Nat} {σ σ2 : js_S} {x1 z1 b : Int} {ux2 : js_v} (hb : b = 0 ∨ b = 25) {v : Int} (hd : 1 ≤ d) (hz : js_J E (d - 1) 67 0 [(2, 7 + b), (0, z1)] [] σ = js_r E (2, v) σ2) : js_J E d 113 27 [(2, 7 + b), (0, x1), ux2] [(0, z1), (2, 7 + b)] σ = js_J E d 113 30 [(2, 7 + b), (0, x1), ux2] [(2, v)] σ2 :=
  j_call (m := 0) (js_caV q_113_27 (js_Mo qy_113 qm_7_50)) (js_agV (av := [(0, z1)]) (st := []) rfl rfl (js_o7b hb) rfl) rfl rfl (by rw [ql_67]; exact Nat.le_of_ble_eq_true rfl) (Nat.le_of_ble_eq_true rfl) hd hz
theorem kt_113_27 {E : js_E} {d : Nat} {σ σ2 : js_S} {x1 z1 b : Int} {ux2 : js_v} (hb : b = 0 ∨ b = 25) {w : Int} (hd : 1 ≤ d) (hz : js_J E (d - 1) 67 0 [(2, 7 + b), (0, z1)] [] σ = js_t E w σ2) : js_J E d 113 27 [(2, 7 + b), (0, x1), ux2] [(0, z1), (2, 7 + b)] σ = js_t E w σ2 :=
  j_callT (m := 0) (js_caV q_113_27 (js_Mo qy_113 qm_7_50)) (js_agV (av := [(0, z1)]) (st := []) rfl rfl (js_o7b hb) rfl) rfl rfl (by rw [ql_67]; exact Nat.le_of_ble_eq_true rfl) (Nat.le_of_ble_eq_true rfl) hd rfl hz
theorem b_113_30 {E : js_E} {d : Nat} {σ : js_S} {x1 z0 b : Int} {ux2 : js_v} : js_J E d 113 30 [(2, 7 + b), (0, x1), ux2] [(2, z0)] σ = (if z0 < 0 then js_J E d 113 73 [(2, 7 + b), (0, x1), (2, z0)] [] σ else js_J E d 113 35 [(2, 7 + b), (0, x1), (2, z0)] [] σ) :=
  (j_astore_n (l2 := [(2, 7 + b), (0, x1), (2, z0)]) q_113_30 rfl (Nat.le_of_ble_eq_true rfl)).trans <| (j_aload_n q_113_31 rfl).trans <| (j_ifnull (t := 73) q_113_32 rfl).trans (js_ite (rfl) (rfl))
theorem b_113_35 {E : js_E} {d : Nat} {σ : js_S} {x1 x2 b : Int} (hs_x2 : js_desc E.1 σ x2 = some (0, 11, js_sym)) (hb : b = 0 ∨ b = 25) : js_J E d 113 35 [(2, 7 + b), (0, x1), (2, x2)] [] σ = (if js_w (σ x2 11) < 0 then js_J E d 113 73 [(2, 7 + b), (0, x1), (2, x2)] [] σ else (if js_w (σ x2 11) < 401 then (if 0 ≤ js_w (σ x2 11) ∧ js_w (σ x2 11) < 401 then js_J E d 113 73 [(2, 7 + b), (0, x1), (2, x2)] [] (js_up σ x2 5 ((σ x2 5) + (σ (15 + b) (js_w (σ x2 11))))) else none) else js_J E d 113 73 [(2, 7 + b), (0, x1), (2, x2)] [] σ)) :=
  (j_aload_n q_113_35 rfl).trans <| (j_get (ji := 11) (v := (0, σ x2 11)) q_113_36 (js_Fo qy_113 qf_7_111) hs_x2 rfl rfl rfl rfl).trans <| (j_iflt (t := 73) q_113_39 rfl).trans (js_ite (rfl) ((j_aload_n q_113_42 rfl).trans <| (j_get (ji := 11) (v := (0, σ x2 11)) q_113_43 (js_Fo qy_113 qf_7_111) hs_x2 rfl rfl rfl rfl).trans <| (j_si q_113_46 rfl).trans <| (j_cmpgeB (t := 73) q_113_49 rfl ww_401).trans (js_ite ((j_aload_n q_113_52 rfl).trans <| (j_dupr q_113_53).trans <| (j_get (ji := 5) (v := (0, σ x2 5)) q_113_54 (js_Fo qy_113 qf_7_114) hs_x2 rfl rfl rfl rfl).trans <| (j_aload_n q_113_57 rfl).trans <| (j_get (ji := 0) (v := (2, 8 + b)) q_113_58 (js_Fo qy_113 qf_7_12) (js_o7b hb) rfl rfl rfl rfl).trans <| (j_get (ji := 13) (v := (2, 15 + b)) q_113_61 (js_Fo qy_113 qf_7_117) (js_o8b hb) rfl rfl rfl rfl).trans <| (j_aload_n q_113_64 rfl).trans <| (j_get (ji := 11) (v := (0, σ x2 11)) q_113_65 (js_Fo qy_113 qf_7_111) hs_x2 rfl rfl rfl rfl).trans <| (j_iaload q_113_68 (js_o15b hb)).trans <| js_itp fun g0 => (j_iadd q_113_69).trans <| (j_putI (ji := 5) q_113_70 (js_Fo qy_113 qf_7_114) rfl hs_x2 rfl rfl rfl).trans <| rfl) (rfl))))
theorem b_113_73 {E : js_E} {d : Nat} {σ : js_S} {x1 x2 b : Int} : js_J E d 113 73 [(2, 7 + b), (0, x1), (2, x2)] [] σ = js_J E d 113 17 [(2, 7 + b), (0, x1 + 1), (2, x2)] [] σ :=
  (j_iinc (l2 := [(2, 7 + b), (0, x1 + 1), (2, x2)]) q_113_73 rfl rfl).trans <| (j_goto (t := 17) q_113_76 rfl).trans <| rfl
-- 114: VitalTwin$Code.settle (I)I
theorem b_114_0 {E : js_E} {d : Nat} {σ : js_S} {x1 b : Int} : js_J E d 114 0 [(2, 8 + b), (0, x1), (9, 0), (9, 0), (9, 0), (9, 0)] [] σ = js_J E d 114 4 [(2, 8 + b), (0, x1), (0, x1), (0, 0), (9, 0), (9, 0)] [] σ :=
  (j_iload_n q_114_0 rfl).trans <| (j_istore_n (l2 := [(2, 8 + b), (0, x1), (0, x1), (9, 0), (9, 0), (9, 0)]) q_114_1 rfl (Nat.le_of_ble_eq_true rfl)).trans <| (j_iconst q_114_2).trans <| (j_istore_n (l2 := [(2, 8 + b), (0, x1), (0, x1), (0, 0), (9, 0), (9, 0)]) q_114_3 rfl (Nat.le_of_ble_eq_true rfl)).trans <| rfl
theorem b_114_4 {E : js_E} {d : Nat} {σ : js_S} {x1 x2 x3 b : Int} {ux4 ux5 : js_v} (hb : b = 0 ∨ b = 25) : js_J E d 114 4 [(2, 8 + b), (0, x1), (0, x2), (0, x3), ux4, ux5] [] σ = (if js_w x3 < js_w (σ (8 + b) 8) then (if js_w x3 < 401 then (if 0 ≤ js_w x3 ∧ js_w x3 < 401 then js_J E d 114 4 [(2, 8 + b), (0, x1), (0, (x2 + (σ (15 + b) (js_w x3))) + (σ (16 + b) (js_w x3))), (0, x3 + 1), (0, σ (15 + b) (js_w x3)), (0, σ (16 + b) (js_w x3))] [] (js_up (js_up σ (15 + b) (js_w x3) x2) (16 + b) (js_w x3) (x2 + (σ (15 + b) (js_w x3)))) else none) else js_J E d 114 65 [(2, 8 + b), (0, x1), (0, x2), (0, x3), ux4, ux5] [] σ) else js_J E d 114 65 [(2, 8 + b), (0, x1), (0, x2), (0, x3), ux4, ux5] [] σ) :=
  (j_iload_n q_114_4 rfl).trans <| (j_aload_n q_114_5 rfl).trans <| (j_get (ji := 8) (v := (0, σ (8 + b) 8)) q_114_6 (js_Fo qy_114 qf_1_46) (js_o8b hb) rfl rfl rfl rfl).trans <| (j_cmpge (t := 65) q_114_9 rfl).trans (js_ite ((j_iload_n q_114_12 rfl).trans <| (j_si q_114_13 rfl).trans <| (j_cmpgeB (t := 65) q_114_16 rfl ww_401).trans (js_ite ((j_aload_n q_114_19 rfl).trans <| (j_get (ji := 13) (v := (2, 15 + b)) q_114_20 (js_Fo qy_114 qf_1_30) (js_o8b hb) rfl rfl rfl rfl).trans <| (j_iload_n q_114_23 rfl).trans <| (j_iaload q_114_24 (js_o15b hb)).trans <| js_itp fun g0 => (j_istore (l2 := [(2, 8 + b), (0, x1), (0, x2), (0, x3), (0, σ (15 + b) (js_w x3)), ux5]) q_114_25 rfl (Nat.le_of_ble_eq_true rfl)).trans <| (j_aload_n q_114_27 rfl).trans <| (j_get (ji := 13) (v := (2, 15 + b)) q_114_28 (js_Fo qy_114 qf_1_30) (js_o8b hb) rfl rfl rfl rfl).trans <| (j_iload_n q_114_31 rfl).trans <| (j_iload_n q_114_32 rfl).trans <| (j_iastore q_114_33 (js_o15b hb)).trans <| (if_pos g0).trans <| (j_iload_n q_114_34 rfl).trans <| (j_iload q_114_35 rfl).trans <| (j_iadd q_114_37).trans <| (j_istore_n (l2 := [(2, 8 + b), (0, x1), (0, x2 + (σ (15 + b) (js_w x3))), (0, x3), (0, σ (15 + b) (js_w x3)), ux5]) q_114_38 rfl (Nat.le_of_ble_eq_true rfl)).trans <| (j_aload_n q_114_39 rfl).trans <| (j_get (ji := 14) (v := (2, 16 + b)) q_114_40 (js_Fo qy_114 qf_1_33) (js_o8b hb) rfl rfl rfl rfl).trans <| (j_iload_n q_114_43 rfl).trans <| (j_ialoadv q_114_44 (js_o16b hb) ((js_up_ne _ (by omega)))).trans <| (if_pos g0).trans <| (j_istore (l2 := [(2, 8 + b), (0, x1), (0, x2 + (σ (15 + b) (js_w x3))), (0, x3), (0, σ (15 + b) (js_w x3)), (0, σ (16 + b) (js_w x3))]) q_114_45 rfl (Nat.le_of_ble_eq_true rfl)).trans <| (j_aload_n q_114_47 rfl).trans <| (j_get (ji := 14) (v := (2, 16 + b)) q_114_48 (js_Fo qy_114 qf_1_33) (js_o8b hb) rfl rfl rfl rfl).trans <| (j_iload_n q_114_51 rfl).trans <| (j_iload_n q_114_52 rfl).trans <| (j_iastore q_114_53 (js_o16b hb)).trans <| (if_pos g0).trans <| (j_iload_n q_114_54 rfl).trans <| (j_iload q_114_55 rfl).trans <| (j_iadd q_114_57).trans <| (j_istore_n (l2 := [(2, 8 + b), (0, x1), (0, (x2 + (σ (15 + b) (js_w x3))) + (σ (16 + b) (js_w x3))), (0, x3), (0, σ (15 + b) (js_w x3)), (0, σ (16 + b) (js_w x3))]) q_114_58 rfl (Nat.le_of_ble_eq_true rfl)).trans <| (j_iinc (l2 := [(2, 8 + b), (0, x1), (0, (x2 + (σ (15 + b) (js_w x3))) + (σ (16 + b) (js_w x3))), (0, x3 + 1), (0, σ (15 + b) (js_w x3)), (0, σ (16 + b) (js_w x3))]) q_114_59 rfl rfl).trans <| (j_goto (t := 4) q_114_62 rfl).trans <| rfl) (rfl))) (rfl))
theorem b_114_65 {E : js_E} {d : Nat} {σ : js_S} {x1 x2 x3 b : Int} {ux4 ux5 : js_v} : js_J E d 114 65 [(2, 8 + b), (0, x1), (0, x2), (0, x3), ux4, ux5] [] σ = js_J E d 114 67 [(2, 8 + b), (0, x1), (0, x2), (0, 0), ux4, ux5] [] σ :=
  (j_iconst q_114_65).trans <| (j_istore_n (l2 := [(2, 8 + b), (0, x1), (0, x2), (0, 0), ux4, ux5]) q_114_66 rfl (Nat.le_of_ble_eq_true rfl)).trans <| rfl
theorem b_114_67 {E : js_E} {d : Nat} {σ : js_S} {x1 x2 x3 b : Int} {ux4 ux5 : js_v} (hb : b = 0 ∨ b = 25) : js_J E d 114 67 [(2, 8 + b), (0, x1), (0, x2), (0, x3), ux4, ux5] [] σ = (if js_w x3 < js_w (σ (8 + b) 6) then (if js_w x3 < 8192 then (if 0 ≤ js_w x3 ∧ js_w x3 < 8192 then (if 0 < js_w (σ (14 + b) (js_w x3)) then (if js_w ((js_w ((σ (14 + b) (js_w x3)) - 1)).tdiv 2) < 401 then (if js_w ((js_w (σ (14 + b) (js_w x3))).tmod 2) = 1 then (if 0 ≤ js_w ((js_w ((σ (14 + b) (js_w x3)) - 1)).tdiv 2) ∧ js_w ((js_w ((σ (14 + b) (js_w x3)) - 1)).tdiv 2) < 401 then js_J E d 114 149 [(2, 8 + b), (0, x1), (0, x2), (0, x3), (0, (js_w ((σ (14 + b) (js_w x3)) - 1)).tdiv 2), ux5] [(0, σ (15 + b) (js_w ((js_w ((σ (14 + b) (js_w x3)) - 1)).tdiv 2))), (0, σ (10 + b) (js_w x3)), (0, x3), (2, 10 + b)] σ else none) else (if 0 ≤ js_w ((js_w ((σ (14 + b) (js_w x3)) - 1)).tdiv 2) ∧ js_w ((js_w ((σ (14 + b) (js_w x3)) - 1)).tdiv 2) < 401 then js_J E d 114 149 [(2, 8 + b), (0, x1), (0, x2), (0, x3), (0, (js_w ((σ (14 + b) (js_w x3)) - 1)).tdiv 2), ux5] [(0, σ (16 + b) (js_w ((js_w ((σ (14 + b) (js_w x3)) - 1)).tdiv 2))), (0, σ (10 + b) (js_w x3)), (0, x3), (2, 10 + b)] σ else none)) else js_J E d 114 151 [(2, 8 + b), (0, x1), (0, x2), (0, x3), (0, (js_w ((σ (14 + b) (js_w x3)) - 1)).tdiv 2), ux5] [] σ) else js_J E d 114 151 [(2, 8 + b), (0, x1), (0, x2), (0, x3), (0, (js_w ((σ (14 + b) (js_w x3)) - 1)).tdiv 2), ux5] [] σ) else none) else js_r E (0, x2) σ) else js_r E (0, x2) σ) :=
  (j_iload_n q_114_67 rfl).trans <| (j_aload_n q_114_68 rfl).trans <| (j_get (ji := 6) (v := (0, σ (8 + b) 6)) q_114_69 (js_Fo qy_114 qf_1_42) (js_o8b hb) rfl rfl rfl rfl).trans <| (j_cmpge (t := 157) q_114_72 rfl).trans (js_ite ((j_iload_n q_114_75 rfl).trans <| (j_aload_n q_114_76 rfl).trans <| (j_get (ji := 0) (v := (2, 9 + b)) q_114_77 (js_Fo qy_114 qf_1_9) (js_o8b hb) rfl rfl rfl rfl).trans <| (j_alen q_114_80 (js_o9b hb) (by decide) (by decide)).trans <| (j_cmpgeB (t := 157) q_114_81 rfl ww_8192).trans (js_ite ((j_aload_n q_114_84 rfl).trans <| (j_get (ji := 5) (v := (2, 14 + b)) q_114_85 (js_Fo qy_114 qf_1_27) (js_o8b hb) rfl rfl rfl rfl).trans <| (j_iload_n q_114_88 rfl).trans <| (j_iaload q_114_89 (js_o14b hb)).trans <| js_itp fun g0 => (j_iconst q_114_90).trans <| (j_isub q_114_91).trans <| (j_iconst q_114_92).trans <| (j_idivk q_114_93 ww_2 (by decide)).trans <| (j_istore (l2 := [(2, 8 + b), (0, x1), (0, x2), (0, x3), (0, (js_w ((σ (14 + b) (js_w x3)) - 1)).tdiv 2), ux5]) q_114_94 rfl (Nat.le_of_ble_eq_true rfl)).trans <| (j_aload_n q_114_96 rfl).trans <| (j_get (ji := 5) (v := (2, 14 + b)) q_114_97 (js_Fo qy_114 qf_1_27) (js_o8b hb) rfl rfl rfl rfl).trans <| (j_iload_n q_114_100 rfl).trans <| (j_iaload q_114_101 (js_o14b hb)).trans <| (if_pos g0).trans <| (j_ifle (t := 151) q_114_102 rfl).trans (js_ite ((j_iload q_114_105 rfl).trans <| (j_si q_114_107 rfl).trans <| (j_cmpgeB (t := 151) q_114_110 rfl ww_401).trans (js_ite ((j_aload_n q_114_113 rfl).trans <| (j_get (ji := 1) (v := (2, 10 + b)) q_114_114 (js_Fo qy_114 qf_1_15) (js_o8b hb) rfl rfl rfl rfl).trans <| (j_iload_n q_114_117 rfl).trans <| (j_dup2 q_114_118).trans <| (j_iaload q_114_119 (js_o10b hb)).trans <| (if_pos g0).trans <| (j_aload_n q_114_120 rfl).trans <| (j_get (ji := 5) (v := (2, 14 + b)) q_114_121 (js_Fo qy_114 qf_1_27) (js_o8b hb) rfl rfl rfl rfl).trans <| (j_iload_n q_114_124 rfl).trans <| (j_iaload q_114_125 (js_o14b hb)).trans <| (if_pos g0).trans <| (j_iconst q_114_126).trans <| (j_iremk q_114_127 ww_2 (by decide)).trans <| (j_iconst q_114_128).trans <| (j_cmpneB (t := 142) q_114_129 rfl ww_1).trans (js_ite ((j_aload_n q_114_132 rfl).trans <| (j_get (ji := 13) (v := (2, 15 + b)) q_114_133 (js_Fo qy_114 qf_1_30) (js_o8b hb) rfl rfl rfl rfl).trans <| (j_iload q_114_136 rfl).trans <| (j_iaload q_114_138 (js_o15b hb)).trans <| js_itp fun g1 => (j_goto (t := 149) q_114_139 rfl).trans <| rfl) ((j_aload_n q_114_142 rfl).trans <| (j_get (ji := 14) (v := (2, 16 + b)) q_114_143 (js_Fo qy_114 qf_1_33) (js_o8b hb) rfl rfl rfl rfl).trans <| (j_iload q_114_146 rfl).trans <| (j_iaload q_114_148 (js_o16b hb)).trans <| js_itp fun g1 => rfl))) (rfl))) (rfl))) ((j_iload_n q_114_157 rfl).trans <| j_ireturn q_114_158 qr_114))) ((j_iload_n q_114_157 rfl).trans <| j_ireturn q_114_158 qr_114))
theorem b_114_149 {E : js_E} {d : Nat} {σ : js_S} {x1 x2 x3 x4 z1 z2 z3 b : Int} {ux5 : js_v} (hb : b = 0 ∨ b = 25) : js_J E d 114 149 [(2, 8 + b), (0, x1), (0, x2), (0, x3), (0, x4), ux5] [(0, z3), (0, z2), (0, z1), (2, 10 + b)] σ = (if 0 ≤ js_w z1 ∧ js_w z1 < 8192 then js_J E d 114 151 [(2, 8 + b), (0, x1), (0, x2), (0, x3), (0, x4), ux5] [] (js_up σ (10 + b) (js_w z1) (z2 + z3)) else none) :=
  (j_iadd q_114_149).trans <| (j_iastore q_114_150 (js_o10b hb)).trans <| js_itp fun g0 => rfl
theorem b_114_151 {E : js_E} {d : Nat} {σ : js_S} {x1 x2 x3 x4 b : Int} {ux5 : js_v} : js_J E d 114 151 [(2, 8 + b), (0, x1), (0, x2), (0, x3), (0, x4), ux5] [] σ = js_J E d 114 67 [(2, 8 + b), (0, x1), (0, x2), (0, x3 + 1), (0, x4), ux5] [] σ :=
  (j_iinc (l2 := [(2, 8 + b), (0, x1), (0, x2), (0, x3 + 1), (0, x4), ux5]) q_114_151 rfl rfl).trans <| (j_goto (t := 67) q_114_154 rfl).trans <| rfl
-- 115: VitalTwin$Reader.clear ()V
theorem b_115_0 {E : js_E} {d : Nat} {σ : js_S} : js_J E d 115 0 [(2, 1)] [] σ = js_r0 E (js_up σ 1 0 0) :=
  (j_aload_n q_115_0 rfl).trans <| (j_iconst q_115_1).trans <| (j_putI (ji := 0) q_115_2 (js_Fo qy_115 qf_8_29) rfl js_o1 rfl rfl rfl).trans <| j_return q_115_5 qr_115
