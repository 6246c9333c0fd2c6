/-! part 75.c09: block equations of the class's (and the law's helpers') methods 155 to 173 (printed by wip/whole/tools/gen71.py) -/
theorem qy_156 : vt_O 156 = 3 := by decide +kernel
theorem qr_156 : vt_rc.getD 156 0 = 1 := by decide +kernel
theorem ql_156 : vt_ml.getD 156 0 = 3 := by decide +kernel
theorem qy_157 : vt_O 157 = 3 := by decide +kernel
theorem qr_157 : vt_rc.getD 157 0 = 1 := by decide +kernel
theorem ql_157 : vt_ml.getD 157 0 = 2 := by decide +kernel
theorem qy_158 : vt_O 158 = 3 := by decide +kernel
theorem qr_158 : vt_rc.getD 158 0 = 2 := by decide +kernel
theorem ql_158 : vt_ml.getD 158 0 = 2 := by decide +kernel
theorem qy_161 : vt_O 161 = 9 := by decide +kernel
theorem qr_161 : vt_rc.getD 161 0 = 2 := by decide +kernel
theorem ql_161 : vt_ml.getD 161 0 = 5 := by decide +kernel
theorem qy_166 : vt_O 166 = 0 := by decide +kernel
theorem qr_166 : vt_rc.getD 166 0 = 2 := by decide +kernel
theorem ql_166 : vt_ml.getD 166 0 = 5 := by decide +kernel
theorem qy_167 : vt_O 167 = 6 := by decide +kernel
theorem qr_167 : vt_rc.getD 167 0 = 2 := by decide +kernel
theorem ql_167 : vt_ml.getD 167 0 = 5 := by decide +kernel
theorem qy_168 : vt_O 168 = 0 := by decide +kernel
theorem qr_168 : vt_rc.getD 168 0 = 2 := by decide +kernel
theorem ql_168 : vt_ml.getD 168 0 = 1 := by decide +kernel
theorem qy_169 : vt_O 169 = 0 := by decide +kernel
theorem qr_169 : vt_rc.getD 169 0 = 1 := by decide +kernel
theorem ql_169 : vt_ml.getD 169 0 = 2 := by decide +kernel
theorem qy_170 : vt_O 170 = 7 := by decide +kernel
theorem qr_170 : vt_rc.getD 170 0 = 1 := by decide +kernel
theorem ql_170 : vt_ml.getD 170 0 = 2 := by decide +kernel
theorem qy_171 : vt_O 171 = 6 := by decide +kernel
theorem qr_171 : vt_rc.getD 171 0 = 1 := by decide +kernel
theorem ql_171 : vt_ml.getD 171 0 = 2 := by decide +kernel
theorem qy_172 : vt_O 172 = 0 := by decide +kernel
theorem qr_172 : vt_rc.getD 172 0 = 3 := by decide +kernel
theorem ql_172 : vt_ml.getD 172 0 = 4 := by decide +kernel
theorem qy_173 : vt_O 173 = 0 := by decide +kernel
theorem qr_173 : vt_rc.getD 173 0 = 1 := by decide +kernel
theorem ql_173 : vt_ml.getD 173 0 = 2 := by decide +kernel
theorem qy_174 : vt_O 174 = 6 := by decide +kernel
theorem qr_174 : vt_rc.getD 174 0 = 1 := by decide +kernel
theorem ql_174 : vt_ml.getD 174 0 = 3 := by decide +kernel
theorem q_155_0 : js_I 155 0 = some (.iload_n 1, 1) := by decide +kernel
theorem q_155_1 : js_I 155 1 = some (.tableswitch 198 6 20 #[75, 90, 105, 110, 110, 126, 143, 198, 198, 198, 198, 198, 198, 160, 171], 75) := by decide +kernel
theorem q_155_76 : js_I 155 76 = some (.aload_n 0, 1) := by decide +kernel
theorem q_155_77 : js_I 155 77 = some (.aload_n 0, 1) := by decide +kernel
theorem q_155_78 : js_I 155 78 = some (.getfield 23, 3) := by decide +kernel
theorem q_155_81 : js_I 155 81 = some (.aload_n 0, 1) := by decide +kernel
theorem q_155_82 : js_I 155 82 = some (.getfield 26, 3) := by decide +kernel
theorem q_155_85 : js_I 155 85 = some (.ladd, 1) := by decide +kernel
theorem q_155_86 : js_I 155 86 = some (.putfield 23, 3) := by decide +kernel
theorem q_155_89 : js_I 155 89 = some (.iconst 0, 1) := by decide +kernel
theorem q_155_90 : js_I 155 90 = some (.ireturn, 1) := by decide +kernel
theorem q_155_91 : js_I 155 91 = some (.aload_n 0, 1) := by decide +kernel
theorem q_155_92 : js_I 155 92 = some (.aload_n 0, 1) := by decide +kernel
theorem q_155_93 : js_I 155 93 = some (.getfield 23, 3) := by decide +kernel
theorem q_155_96 : js_I 155 96 = some (.aload_n 0, 1) := by decide +kernel
theorem q_155_97 : js_I 155 97 = some (.getfield 26, 3) := by decide +kernel
theorem q_155_100 : js_I 155 100 = some (.lsub, 1) := by decide +kernel
theorem q_155_101 : js_I 155 101 = some (.putfield 23, 3) := by decide +kernel
theorem q_155_104 : js_I 155 104 = some (.iconst 0, 1) := by decide +kernel
theorem q_155_105 : js_I 155 105 = some (.ireturn, 1) := by decide +kernel
theorem q_155_106 : js_I 155 106 = some (.aload_n 0, 1) := by decide +kernel
theorem q_155_107 : js_I 155 107 = some (.invokevirtual 103, 3) := by decide +kernel
theorem q_155_110 : js_I 155 110 = some (.ireturn, 1) := by decide +kernel
theorem q_155_111 : js_I 155 111 = some (.aload_n 0, 1) := by decide +kernel
theorem q_155_112 : js_I 155 112 = some (.iload_n 1, 1) := by decide +kernel
theorem q_155_113 : js_I 155 113 = some (.bipush 9, 2) := by decide +kernel
theorem q_155_115 : js_I 155 115 = some (.if_icmp .ne 7, 3) := by decide +kernel
theorem q_155_118 : js_I 155 118 = some (.iconst 1, 1) := by decide +kernel
theorem q_155_119 : js_I 155 119 = some (.goto 4, 3) := by decide +kernel
theorem q_155_122 : js_I 155 122 = some (.iconst 0, 1) := by decide +kernel
theorem q_155_123 : js_I 155 123 = some (.invokevirtual 106, 3) := by decide +kernel
theorem q_155_126 : js_I 155 126 = some (.ireturn, 1) := by decide +kernel
theorem q_155_127 : js_I 155 127 = some (.aload_n 0, 1) := by decide +kernel
theorem q_155_128 : js_I 155 128 = some (.aload_n 0, 1) := by decide +kernel
theorem q_155_129 : js_I 155 129 = some (.getfield 23, 3) := by decide +kernel
theorem q_155_132 : js_I 155 132 = some (.aload_n 0, 1) := by decide +kernel
theorem q_155_133 : js_I 155 133 = some (.getfield 26, 3) := by decide +kernel
theorem q_155_136 : js_I 155 136 = some (.invokestatic 83, 3) := by decide +kernel
theorem q_155_139 : js_I 155 139 = some (.putfield 23, 3) := by decide +kernel
theorem q_155_142 : js_I 155 142 = some (.iconst 0, 1) := by decide +kernel
theorem q_155_143 : js_I 155 143 = some (.ireturn, 1) := by decide +kernel
theorem q_155_144 : js_I 155 144 = some (.aload_n 0, 1) := by decide +kernel
theorem q_155_145 : js_I 155 145 = some (.aload_n 0, 1) := by decide +kernel
theorem q_155_146 : js_I 155 146 = some (.getfield 23, 3) := by decide +kernel
theorem q_155_149 : js_I 155 149 = some (.aload_n 0, 1) := by decide +kernel
theorem q_155_150 : js_I 155 150 = some (.getfield 26, 3) := by decide +kernel
theorem q_155_153 : js_I 155 153 = some (.invokestatic 80, 3) := by decide +kernel
theorem q_155_156 : js_I 155 156 = some (.putfield 23, 3) := by decide +kernel
theorem q_155_159 : js_I 155 159 = some (.iconst 0, 1) := by decide +kernel
theorem q_155_160 : js_I 155 160 = some (.ireturn, 1) := by decide +kernel
theorem q_155_161 : js_I 155 161 = some (.aload_n 0, 1) := by decide +kernel
theorem q_155_162 : js_I 155 162 = some (.aload_n 0, 1) := by decide +kernel
theorem q_155_163 : js_I 155 163 = some (.getfield 23, 3) := by decide +kernel
theorem q_155_166 : js_I 155 166 = some (.lneg, 1) := by decide +kernel
theorem q_155_167 : js_I 155 167 = some (.putfield 23, 3) := by decide +kernel
theorem q_155_170 : js_I 155 170 = some (.iconst 0, 1) := by decide +kernel
theorem q_155_171 : js_I 155 171 = some (.ireturn, 1) := by decide +kernel
theorem q_155_172 : js_I 155 172 = some (.aload_n 0, 1) := by decide +kernel
theorem q_155_173 : js_I 155 173 = some (.aload_n 0, 1) := by decide +kernel
theorem q_155_174 : js_I 155 174 = some (.getfield 23, 3) := by decide +kernel
theorem q_155_177 : js_I 155 177 = some (.lconst 0, 1) := by decide +kernel
theorem q_155_178 : js_I 155 178 = some (.lcmp, 1) := by decide +kernel
theorem q_155_179 : js_I 155 179 = some (.ifCond .ge 11, 3) := by decide +kernel
theorem q_155_182 : js_I 155 182 = some (.aload_n 0, 1) := by decide +kernel
theorem q_155_183 : js_I 155 183 = some (.getfield 23, 3) := by decide +kernel
theorem q_155_186 : js_I 155 186 = some (.lneg, 1) := by decide +kernel
theorem q_155_187 : js_I 155 187 = some (.goto 7, 3) := by decide +kernel
theorem q_155_190 : js_I 155 190 = some (.aload_n 0, 1) := by decide +kernel
theorem q_155_191 : js_I 155 191 = some (.getfield 23, 3) := by decide +kernel
theorem q_155_194 : js_I 155 194 = some (.putfield 23, 3) := by decide +kernel
theorem q_155_197 : js_I 155 197 = some (.iconst 0, 1) := by decide +kernel
theorem q_155_198 : js_I 155 198 = some (.ireturn, 1) := by decide +kernel
theorem q_155_199 : js_I 155 199 = some (.aload_n 0, 1) := by decide +kernel
theorem q_155_200 : js_I 155 200 = some (.aload_n 0, 1) := by decide +kernel
theorem q_155_201 : js_I 155 201 = some (.iload_n 1, 1) := by decide +kernel
theorem q_155_202 : js_I 155 202 = some (.invokevirtual 110, 3) := by decide +kernel
theorem q_155_205 : js_I 155 205 = some (.ifCond .eq 10, 3) := by decide +kernel
theorem q_155_215 : js_I 155 215 = some (.lconst 0, 1) := by decide +kernel
theorem q_155_208 : js_I 155 208 = some (.aload_n 0, 1) := by decide +kernel
theorem q_155_209 : js_I 155 209 = some (.getfield 19, 3) := by decide +kernel
theorem q_155_212 : js_I 155 212 = some (.goto 4, 3) := by decide +kernel
theorem q_155_216 : js_I 155 216 = some (.putfield 23, 3) := by decide +kernel
theorem q_155_219 : js_I 155 219 = some (.iconst 0, 1) := by decide +kernel
theorem q_155_220 : js_I 155 220 = some (.ireturn, 1) := by decide +kernel
theorem q_156_0 : js_I 156 0 = some (.aload_n 0, 1) := by decide +kernel
theorem q_156_1 : js_I 156 1 = some (.getfield 23, 3) := by decide +kernel
theorem q_156_4 : js_I 156 4 = some (.aload_n 0, 1) := by decide +kernel
theorem q_156_5 : js_I 156 5 = some (.getfield 26, 3) := by decide +kernel
theorem q_156_8 : js_I 156 8 = some (.lmul, 1) := by decide +kernel
theorem q_156_9 : js_I 156 9 = some (.lstore_n 1, 1) := by decide +kernel
theorem q_156_10 : js_I 156 10 = some (.aload_n 0, 1) := by decide +kernel
theorem q_156_11 : js_I 156 11 = some (.getfield 19, 3) := by decide +kernel
theorem q_156_14 : js_I 156 14 = some (.lconst 0, 1) := by decide +kernel
theorem q_156_15 : js_I 156 15 = some (.lcmp, 1) := by decide +kernel
theorem q_156_16 : js_I 156 16 = some (.ifCond .eq 14, 3) := by decide +kernel
theorem q_156_30 : js_I 156 30 = some (.iconst 2, 1) := by decide +kernel
theorem q_156_31 : js_I 156 31 = some (.ireturn, 1) := by decide +kernel
theorem q_156_19 : js_I 156 19 = some (.lload_n 1, 1) := by decide +kernel
theorem q_156_20 : js_I 156 20 = some (.aload_n 0, 1) := by decide +kernel
theorem q_156_21 : js_I 156 21 = some (.getfield 19, 3) := by decide +kernel
theorem q_156_24 : js_I 156 24 = some (.lrem, 1) := by decide +kernel
theorem q_156_25 : js_I 156 25 = some (.lconst 0, 1) := by decide +kernel
theorem q_156_26 : js_I 156 26 = some (.lcmp, 1) := by decide +kernel
theorem q_156_27 : js_I 156 27 = some (.ifCond .eq 5, 3) := by decide +kernel
theorem q_156_32 : js_I 156 32 = some (.aload_n 0, 1) := by decide +kernel
theorem q_156_33 : js_I 156 33 = some (.lload_n 1, 1) := by decide +kernel
theorem q_156_34 : js_I 156 34 = some (.aload_n 0, 1) := by decide +kernel
theorem q_156_35 : js_I 156 35 = some (.getfield 19, 3) := by decide +kernel
theorem q_156_38 : js_I 156 38 = some (.ldiv, 1) := by decide +kernel
theorem q_156_39 : js_I 156 39 = some (.putfield 23, 3) := by decide +kernel
theorem q_156_42 : js_I 156 42 = some (.iconst 0, 1) := by decide +kernel
theorem q_156_43 : js_I 156 43 = some (.ireturn, 1) := by decide +kernel
theorem q_157_0 : js_I 157 0 = some (.aload_n 0, 1) := by decide +kernel
theorem q_157_1 : js_I 157 1 = some (.getfield 26, 3) := by decide +kernel
theorem q_157_4 : js_I 157 4 = some (.lconst 0, 1) := by decide +kernel
theorem q_157_5 : js_I 157 5 = some (.lcmp, 1) := by decide +kernel
theorem q_157_6 : js_I 157 6 = some (.ifCond .ne 5, 3) := by decide +kernel
theorem q_157_9 : js_I 157 9 = some (.iconst 2, 1) := by decide +kernel
theorem q_157_10 : js_I 157 10 = some (.ireturn, 1) := by decide +kernel
theorem q_157_11 : js_I 157 11 = some (.aload_n 0, 1) := by decide +kernel
theorem q_157_12 : js_I 157 12 = some (.iload_n 1, 1) := by decide +kernel
theorem q_157_13 : js_I 157 13 = some (.ifCond .eq 20, 3) := by decide +kernel
theorem q_157_33 : js_I 157 33 = some (.aload_n 0, 1) := by decide +kernel
theorem q_157_34 : js_I 157 34 = some (.getfield 23, 3) := by decide +kernel
theorem q_157_37 : js_I 157 37 = some (.aload_n 0, 1) := by decide +kernel
theorem q_157_38 : js_I 157 38 = some (.getfield 26, 3) := by decide +kernel
theorem q_157_41 : js_I 157 41 = some (.lrem, 1) := by decide +kernel
theorem q_157_16 : js_I 157 16 = some (.aload_n 0, 1) := by decide +kernel
theorem q_157_17 : js_I 157 17 = some (.getfield 19, 3) := by decide +kernel
theorem q_157_20 : js_I 157 20 = some (.aload_n 0, 1) := by decide +kernel
theorem q_157_21 : js_I 157 21 = some (.getfield 23, 3) := by decide +kernel
theorem q_157_24 : js_I 157 24 = some (.aload_n 0, 1) := by decide +kernel
theorem q_157_25 : js_I 157 25 = some (.getfield 26, 3) := by decide +kernel
theorem q_157_28 : js_I 157 28 = some (.ldiv, 1) := by decide +kernel
theorem q_157_29 : js_I 157 29 = some (.lmul, 1) := by decide +kernel
theorem q_157_30 : js_I 157 30 = some (.goto 12, 3) := by decide +kernel
theorem q_157_42 : js_I 157 42 = some (.putfield 23, 3) := by decide +kernel
theorem q_157_45 : js_I 157 45 = some (.iconst 0, 1) := by decide +kernel
theorem q_157_46 : js_I 157 46 = some (.ireturn, 1) := by decide +kernel
theorem q_158_0 : js_I 158 0 = some (.iload_n 1, 1) := by decide +kernel
theorem q_158_1 : js_I 158 1 = some (.tableswitch 147 13 18 #[39, 57, 75, 93, 111, 129], 39) := by decide +kernel
theorem q_158_40 : js_I 158 40 = some (.aload_n 0, 1) := by decide +kernel
theorem q_158_41 : js_I 158 41 = some (.getfield 23, 3) := by decide +kernel
theorem q_158_44 : js_I 158 44 = some (.aload_n 0, 1) := by decide +kernel
theorem q_158_45 : js_I 158 45 = some (.getfield 26, 3) := by decide +kernel
theorem q_158_48 : js_I 158 48 = some (.lcmp, 1) := by decide +kernel
theorem q_158_49 : js_I 158 49 = some (.ifCond .ge 7, 3) := by decide +kernel
theorem q_158_52 : js_I 158 52 = some (.iconst 1, 1) := by decide +kernel
theorem q_158_53 : js_I 158 53 = some (.goto 4, 3) := by decide +kernel
theorem q_158_57 : js_I 158 57 = some (.ireturn, 1) := by decide +kernel
theorem q_158_56 : js_I 158 56 = some (.iconst 0, 1) := by decide +kernel
theorem q_158_58 : js_I 158 58 = some (.aload_n 0, 1) := by decide +kernel
theorem q_158_59 : js_I 158 59 = some (.getfield 23, 3) := by decide +kernel
theorem q_158_62 : js_I 158 62 = some (.aload_n 0, 1) := by decide +kernel
theorem q_158_63 : js_I 158 63 = some (.getfield 26, 3) := by decide +kernel
theorem q_158_66 : js_I 158 66 = some (.lcmp, 1) := by decide +kernel
theorem q_158_67 : js_I 158 67 = some (.ifCond .gt 7, 3) := by decide +kernel
theorem q_158_74 : js_I 158 74 = some (.iconst 0, 1) := by decide +kernel
theorem q_158_75 : js_I 158 75 = some (.ireturn, 1) := by decide +kernel
theorem q_158_70 : js_I 158 70 = some (.iconst 1, 1) := by decide +kernel
theorem q_158_71 : js_I 158 71 = some (.goto 4, 3) := by decide +kernel
theorem q_158_76 : js_I 158 76 = some (.aload_n 0, 1) := by decide +kernel
theorem q_158_77 : js_I 158 77 = some (.getfield 23, 3) := by decide +kernel
theorem q_158_80 : js_I 158 80 = some (.aload_n 0, 1) := by decide +kernel
theorem q_158_81 : js_I 158 81 = some (.getfield 26, 3) := by decide +kernel
theorem q_158_84 : js_I 158 84 = some (.lcmp, 1) := by decide +kernel
theorem q_158_85 : js_I 158 85 = some (.ifCond .le 7, 3) := by decide +kernel
theorem q_158_88 : js_I 158 88 = some (.iconst 1, 1) := by decide +kernel
theorem q_158_89 : js_I 158 89 = some (.goto 4, 3) := by decide +kernel
theorem q_158_93 : js_I 158 93 = some (.ireturn, 1) := by decide +kernel
theorem q_158_92 : js_I 158 92 = some (.iconst 0, 1) := by decide +kernel
theorem q_158_94 : js_I 158 94 = some (.aload_n 0, 1) := by decide +kernel
theorem q_158_95 : js_I 158 95 = some (.getfield 23, 3) := by decide +kernel
theorem q_158_98 : js_I 158 98 = some (.aload_n 0, 1) := by decide +kernel
theorem q_158_99 : js_I 158 99 = some (.getfield 26, 3) := by decide +kernel
theorem q_158_102 : js_I 158 102 = some (.lcmp, 1) := by decide +kernel
theorem q_158_103 : js_I 158 103 = some (.ifCond .lt 7, 3) := by decide +kernel
theorem q_158_110 : js_I 158 110 = some (.iconst 0, 1) := by decide +kernel
theorem q_158_111 : js_I 158 111 = some (.ireturn, 1) := by decide +kernel
theorem q_158_106 : js_I 158 106 = some (.iconst 1, 1) := by decide +kernel
theorem q_158_107 : js_I 158 107 = some (.goto 4, 3) := by decide +kernel
theorem q_158_112 : js_I 158 112 = some (.aload_n 0, 1) := by decide +kernel
theorem q_158_113 : js_I 158 113 = some (.getfield 23, 3) := by decide +kernel
theorem q_158_116 : js_I 158 116 = some (.aload_n 0, 1) := by decide +kernel
theorem q_158_117 : js_I 158 117 = some (.getfield 26, 3) := by decide +kernel
theorem q_158_120 : js_I 158 120 = some (.lcmp, 1) := by decide +kernel
theorem q_158_121 : js_I 158 121 = some (.ifCond .ne 7, 3) := by decide +kernel
theorem q_158_124 : js_I 158 124 = some (.iconst 1, 1) := by decide +kernel
theorem q_158_125 : js_I 158 125 = some (.goto 4, 3) := by decide +kernel
theorem q_158_129 : js_I 158 129 = some (.ireturn, 1) := by decide +kernel
theorem q_158_128 : js_I 158 128 = some (.iconst 0, 1) := by decide +kernel
theorem q_158_130 : js_I 158 130 = some (.aload_n 0, 1) := by decide +kernel
theorem q_158_131 : js_I 158 131 = some (.getfield 23, 3) := by decide +kernel
theorem q_158_134 : js_I 158 134 = some (.aload_n 0, 1) := by decide +kernel
theorem q_158_135 : js_I 158 135 = some (.getfield 26, 3) := by decide +kernel
theorem q_158_138 : js_I 158 138 = some (.lcmp, 1) := by decide +kernel
theorem q_158_139 : js_I 158 139 = some (.ifCond .eq 7, 3) := by decide +kernel
theorem q_158_146 : js_I 158 146 = some (.iconst 0, 1) := by decide +kernel
theorem q_158_147 : js_I 158 147 = some (.ireturn, 1) := by decide +kernel
theorem q_158_142 : js_I 158 142 = some (.iconst 1, 1) := by decide +kernel
theorem q_158_143 : js_I 158 143 = some (.goto 4, 3) := by decide +kernel
theorem q_158_148 : js_I 158 148 = some (.aload_n 0, 1) := by decide +kernel
theorem q_158_149 : js_I 158 149 = some (.getfield 23, 3) := by decide +kernel
theorem q_158_152 : js_I 158 152 = some (.lconst 0, 1) := by decide +kernel
theorem q_158_153 : js_I 158 153 = some (.lcmp, 1) := by decide +kernel
theorem q_158_154 : js_I 158 154 = some (.ifCond .ne 7, 3) := by decide +kernel
theorem q_158_157 : js_I 158 157 = some (.iconst 1, 1) := by decide +kernel
theorem q_158_158 : js_I 158 158 = some (.goto 4, 3) := by decide +kernel
theorem q_158_162 : js_I 158 162 = some (.ireturn, 1) := by decide +kernel
theorem q_158_161 : js_I 158 161 = some (.iconst 0, 1) := by decide +kernel
theorem q_159_0 : js_I 159 0 = some (.aload_n 0, 1) := by decide +kernel
theorem q_159_1 : js_I 159 1 = some (.iload_n 1, 1) := by decide +kernel
theorem q_159_2 : js_I 159 2 = some (.putfield 35, 3) := by decide +kernel
theorem q_159_5 : js_I 159 5 = some (.aload_n 0, 1) := by decide +kernel
theorem q_159_6 : js_I 159 6 = some (.iconst 0, 1) := by decide +kernel
theorem q_159_7 : js_I 159 7 = some (.putfield 25, 3) := by decide +kernel
theorem q_159_10 : js_I 159 10 = some (.aload_n 0, 1) := by decide +kernel
theorem q_159_11 : js_I 159 11 = some (.iconst 0, 1) := by decide +kernel
theorem q_159_12 : js_I 159 12 = some (.putfield 29, 3) := by decide +kernel
theorem q_159_15 : js_I 159 15 = some (.return_, 1) := by decide +kernel
theorem q_160_0 : js_I 160 0 = some (.iconst 0, 1) := by decide +kernel
theorem q_160_1 : js_I 160 1 = some (.istore_n 2, 1) := by decide +kernel
theorem q_160_2 : js_I 160 2 = some (.iload_n 2, 1) := by decide +kernel
theorem q_160_3 : js_I 160 3 = some (.aload_n 1, 1) := by decide +kernel
theorem q_160_4 : js_I 160 4 = some (.getfield 79, 3) := by decide +kernel
theorem q_160_7 : js_I 160 7 = some (.if_icmp .ge 37, 3) := by decide +kernel
theorem q_160_10 : js_I 160 10 = some (.aload_n 1, 1) := by decide +kernel
theorem q_160_11 : js_I 160 11 = some (.iload_n 2, 1) := by decide +kernel
theorem q_160_12 : js_I 160 12 = some (.invokevirtual 82, 3) := by decide +kernel
theorem q_160_44 : js_I 160 44 = some (.iconst 1, 1) := by decide +kernel
theorem q_160_45 : js_I 160 45 = some (.ireturn, 1) := by decide +kernel
theorem q_160_15 : js_I 160 15 = some (.astore_n 3, 1) := by decide +kernel
theorem q_160_16 : js_I 160 16 = some (.aload_n 3, 1) := by decide +kernel
theorem q_160_17 : js_I 160 17 = some (.ifnull 21, 3) := by decide +kernel
theorem q_160_20 : js_I 160 20 = some (.aload_n 3, 1) := by decide +kernel
theorem q_160_21 : js_I 160 21 = some (.getfield 86, 3) := by decide +kernel
theorem q_160_24 : js_I 160 24 = some (.iconst 2, 1) := by decide +kernel
theorem q_160_25 : js_I 160 25 = some (.if_icmp .ne 13, 3) := by decide +kernel
theorem q_160_28 : js_I 160 28 = some (.aload_n 0, 1) := by decide +kernel
theorem q_160_29 : js_I 160 29 = some (.aload_n 3, 1) := by decide +kernel
theorem q_160_30 : js_I 160 30 = some (.invokevirtual 91, 3) := by decide +kernel
theorem q_160_33 : js_I 160 33 = some (.ifCond .ne 5, 3) := by decide +kernel
theorem q_160_36 : js_I 160 36 = some (.iconst 0, 1) := by decide +kernel
theorem q_160_37 : js_I 160 37 = some (.ireturn, 1) := by decide +kernel
theorem q_160_38 : js_I 160 38 = some (.iinc 2 1, 3) := by decide +kernel
theorem q_160_41 : js_I 160 41 = some (.goto (-39), 3) := by decide +kernel
theorem q_161_0 : js_I 161 0 = some (.aload_n 1, 1) := by decide +kernel
theorem q_161_1 : js_I 161 1 = some (.getfield 95, 3) := by decide +kernel
theorem q_161_4 : js_I 161 4 = some (.istore_n 2, 1) := by decide +kernel
theorem q_161_5 : js_I 161 5 = some (.iload_n 2, 1) := by decide +kernel
theorem q_161_6 : js_I 161 6 = some (.aload_n 1, 1) := by decide +kernel
theorem q_161_7 : js_I 161 7 = some (.getfield 95, 3) := by decide +kernel
theorem q_161_10 : js_I 161 10 = some (.aload_n 1, 1) := by decide +kernel
theorem q_161_11 : js_I 161 11 = some (.getfield 98, 3) := by decide +kernel
theorem q_161_14 : js_I 161 14 = some (.iadd, 1) := by decide +kernel
theorem q_161_15 : js_I 161 15 = some (.if_icmp .ge 57, 3) := by decide +kernel
theorem q_161_18 : js_I 161 18 = some (.aload_n 0, 1) := by decide +kernel
theorem q_161_19 : js_I 161 19 = some (.getfield 14, 3) := by decide +kernel
theorem q_161_22 : js_I 161 22 = some (.iload_n 2, 1) := by decide +kernel
theorem q_161_23 : js_I 161 23 = some (.invokevirtual 101, 3) := by decide +kernel
theorem q_161_72 : js_I 161 72 = some (.iconst 1, 1) := by decide +kernel
theorem q_161_73 : js_I 161 73 = some (.ireturn, 1) := by decide +kernel
theorem q_161_26 : js_I 161 26 = some (.lstore_n 3, 1) := by decide +kernel
theorem q_161_27 : js_I 161 27 = some (.lload_n 3, 1) := by decide +kernel
theorem q_161_28 : js_I 161 28 = some (.aload_n 1, 1) := by decide +kernel
theorem q_161_29 : js_I 161 29 = some (.getfield 105, 3) := by decide +kernel
theorem q_161_32 : js_I 161 32 = some (.i2l, 1) := by decide +kernel
theorem q_161_33 : js_I 161 33 = some (.lcmp, 1) := by decide +kernel
theorem q_161_34 : js_I 161 34 = some (.ifCond .lt 30, 3) := by decide +kernel
theorem q_161_64 : js_I 161 64 = some (.iconst 0, 1) := by decide +kernel
theorem q_161_65 : js_I 161 65 = some (.ireturn, 1) := by decide +kernel
theorem q_161_37 : js_I 161 37 = some (.lload_n 3, 1) := by decide +kernel
theorem q_161_38 : js_I 161 38 = some (.aload_n 1, 1) := by decide +kernel
theorem q_161_39 : js_I 161 39 = some (.getfield 108, 3) := by decide +kernel
theorem q_161_42 : js_I 161 42 = some (.i2l, 1) := by decide +kernel
theorem q_161_43 : js_I 161 43 = some (.lcmp, 1) := by decide +kernel
theorem q_161_44 : js_I 161 44 = some (.ifCond .gt 20, 3) := by decide +kernel
theorem q_161_47 : js_I 161 47 = some (.aload_n 0, 1) := by decide +kernel
theorem q_161_48 : js_I 161 48 = some (.getfield 22, 3) := by decide +kernel
theorem q_161_51 : js_I 161 51 = some (.iload_n 2, 1) := by decide +kernel
theorem q_161_52 : js_I 161 52 = some (.invokevirtual 101, 3) := by decide +kernel
theorem q_161_55 : js_I 161 55 = some (.ldc2_w 20, 3) := by decide +kernel
theorem q_161_58 : js_I 161 58 = some (.lload_n 3, 1) := by decide +kernel
theorem q_161_59 : js_I 161 59 = some (.lmul, 1) := by decide +kernel
theorem q_161_60 : js_I 161 60 = some (.lcmp, 1) := by decide +kernel
theorem q_161_61 : js_I 161 61 = some (.ifCond .eq 5, 3) := by decide +kernel
theorem q_161_66 : js_I 161 66 = some (.iinc 2 1, 3) := by decide +kernel
theorem q_161_69 : js_I 161 69 = some (.goto (-64), 3) := by decide +kernel
theorem q_162_0 : js_I 162 0 = some (.iconst 0, 1) := by decide +kernel
theorem q_162_1 : js_I 162 1 = some (.istore_n 2, 1) := by decide +kernel
theorem q_162_2 : js_I 162 2 = some (.iload_n 2, 1) := by decide +kernel
theorem q_162_3 : js_I 162 3 = some (.ldc 111, 2) := by decide +kernel
theorem q_162_5 : js_I 162 5 = some (.if_icmp .ge 21, 3) := by decide +kernel
theorem q_162_8 : js_I 162 8 = some (.aload_n 0, 1) := by decide +kernel
theorem q_162_9 : js_I 162 9 = some (.getfield 25, 3) := by decide +kernel
theorem q_162_12 : js_I 162 12 = some (.ifCond .eq 14, 3) := by decide +kernel
theorem q_162_26 : js_I 162 26 = some (.return_, 1) := by decide +kernel
theorem q_162_15 : js_I 162 15 = some (.aload_n 0, 1) := by decide +kernel
theorem q_162_16 : js_I 162 16 = some (.aload_n 1, 1) := by decide +kernel
theorem q_162_17 : js_I 162 17 = some (.invokevirtual 112, 3) := by decide +kernel
theorem q_162_20 : js_I 162 20 = some (.iinc 2 1, 3) := by decide +kernel
theorem q_162_23 : js_I 162 23 = some (.goto (-21), 3) := by decide +kernel
theorem q_163_0 : js_I 163 0 = some (.iload_n 3, 1) := by decide +kernel
theorem q_163_1 : js_I 163 1 = some (.istore 4, 2) := by decide +kernel
theorem q_163_3 : js_I 163 3 = some (.iconst 0, 1) := by decide +kernel
theorem q_163_4 : js_I 163 4 = some (.istore 5, 2) := by decide +kernel
theorem q_163_6 : js_I 163 6 = some (.iload 5, 2) := by decide +kernel
theorem q_163_8 : js_I 163 8 = some (.aload_n 0, 1) := by decide +kernel
theorem q_163_9 : js_I 163 9 = some (.getfield 39, 3) := by decide +kernel
theorem q_163_12 : js_I 163 12 = some (.getfield 47, 3) := by decide +kernel
theorem q_163_15 : js_I 163 15 = some (.if_icmp .ge 88, 3) := by decide +kernel
theorem q_163_18 : js_I 163 18 = some (.aload_n 0, 1) := by decide +kernel
theorem q_163_19 : js_I 163 19 = some (.getfield 39, 3) := by decide +kernel
theorem q_163_22 : js_I 163 22 = some (.iload 5, 2) := by decide +kernel
theorem q_163_24 : js_I 163 24 = some (.invokevirtual 53, 3) := by decide +kernel
theorem q_163_103 : js_I 163 103 = some (.return_, 1) := by decide +kernel
theorem q_163_27 : js_I 163 27 = some (.astore 6, 2) := by decide +kernel
theorem q_163_29 : js_I 163 29 = some (.aload 6, 2) := by decide +kernel
theorem q_163_31 : js_I 163 31 = some (.ifnull 66, 3) := by decide +kernel
theorem q_163_34 : js_I 163 34 = some (.aload 6, 2) := by decide +kernel
theorem q_163_36 : js_I 163 36 = some (.getfield 57, 3) := by decide +kernel
theorem q_163_39 : js_I 163 39 = some (.iconst 2, 1) := by decide +kernel
theorem q_163_40 : js_I 163 40 = some (.if_icmp .ne 57, 3) := by decide +kernel
theorem q_163_43 : js_I 163 43 = some (.aload 6, 2) := by decide +kernel
theorem q_163_45 : js_I 163 45 = some (.getfield 68, 3) := by decide +kernel
theorem q_163_48 : js_I 163 48 = some (.istore 7, 2) := by decide +kernel
theorem q_163_50 : js_I 163 50 = some (.iload 7, 2) := by decide +kernel
theorem q_163_52 : js_I 163 52 = some (.aload 6, 2) := by decide +kernel
theorem q_163_54 : js_I 163 54 = some (.getfield 68, 3) := by decide +kernel
theorem q_163_57 : js_I 163 57 = some (.aload 6, 2) := by decide +kernel
theorem q_163_59 : js_I 163 59 = some (.getfield 71, 3) := by decide +kernel
theorem q_163_62 : js_I 163 62 = some (.iadd, 1) := by decide +kernel
theorem q_163_63 : js_I 163 63 = some (.if_icmp .ge 34, 3) := by decide +kernel
theorem q_163_66 : js_I 163 66 = some (.iload 4, 2) := by decide +kernel
theorem q_163_68 : js_I 163 68 = some (.aload_n 2, 1) := by decide +kernel
theorem q_163_69 : js_I 163 69 = some (.arraylength, 1) := by decide +kernel
theorem q_163_70 : js_I 163 70 = some (.if_icmp .ge 27, 3) := by decide +kernel
theorem q_163_73 : js_I 163 73 = some (.aload_n 2, 1) := by decide +kernel
theorem q_163_74 : js_I 163 74 = some (.iload 4, 2) := by decide +kernel
theorem q_163_76 : js_I 163 76 = some (.aload_n 1, 1) := by decide +kernel
theorem q_163_77 : js_I 163 77 = some (.iconst 0, 1) := by decide +kernel
theorem q_163_78 : js_I 163 78 = some (.invokevirtual 135, 3) := by decide +kernel
theorem q_163_81 : js_I 163 81 = some (.iload 7, 2) := by decide +kernel
theorem q_163_83 : js_I 163 83 = some (.invokevirtual 154, 3) := by decide +kernel
theorem q_163_86 : js_I 163 86 = some (.l2i, 1) := by decide +kernel
theorem q_163_87 : js_I 163 87 = some (.iastore, 1) := by decide +kernel
theorem q_163_88 : js_I 163 88 = some (.iinc 4 1, 3) := by decide +kernel
theorem q_163_91 : js_I 163 91 = some (.iinc 7 1, 3) := by decide +kernel
theorem q_163_94 : js_I 163 94 = some (.goto (-44), 3) := by decide +kernel
theorem q_163_97 : js_I 163 97 = some (.iinc 5 1, 3) := by decide +kernel
theorem q_163_100 : js_I 163 100 = some (.goto (-94), 3) := by decide +kernel
theorem q_164_0 : js_I 164 0 = some (.lconst 1, 1) := by decide +kernel
theorem q_164_1 : js_I 164 1 = some (.iload_n 2, 1) := by decide +kernel
theorem q_164_2 : js_I 164 2 = some (.lshl, 1) := by decide +kernel
theorem q_164_3 : js_I 164 3 = some (.lstore_n 3, 1) := by decide +kernel
theorem q_164_4 : js_I 164 4 = some (.iload_n 1, 1) := by decide +kernel
theorem q_164_5 : js_I 164 5 = some (.iconst (-1), 1) := by decide +kernel
theorem q_164_6 : js_I 164 6 = some (.if_icmp .ne 16, 3) := by decide +kernel
theorem q_164_9 : js_I 164 9 = some (.aload_n 0, 1) := by decide +kernel
theorem q_164_10 : js_I 164 10 = some (.dup, 1) := by decide +kernel
theorem q_164_11 : js_I 164 11 = some (.getfield 23, 3) := by decide +kernel
theorem q_164_14 : js_I 164 14 = some (.lload_n 3, 1) := by decide +kernel
theorem q_164_15 : js_I 164 15 = some (.lxor, 1) := by decide +kernel
theorem q_164_16 : js_I 164 16 = some (.putfield 23, 3) := by decide +kernel
theorem q_164_19 : js_I 164 19 = some (.goto 34, 3) := by decide +kernel
theorem q_164_22 : js_I 164 22 = some (.iload_n 1, 1) := by decide +kernel
theorem q_164_23 : js_I 164 23 = some (.bipush (-2), 2) := by decide +kernel
theorem q_164_25 : js_I 164 25 = some (.if_icmp .ne 16, 3) := by decide +kernel
theorem q_164_28 : js_I 164 28 = some (.aload_n 0, 1) := by decide +kernel
theorem q_164_29 : js_I 164 29 = some (.dup, 1) := by decide +kernel
theorem q_164_30 : js_I 164 30 = some (.getfield 26, 3) := by decide +kernel
theorem q_164_33 : js_I 164 33 = some (.lload_n 3, 1) := by decide +kernel
theorem q_164_34 : js_I 164 34 = some (.lxor, 1) := by decide +kernel
theorem q_164_35 : js_I 164 35 = some (.putfield 26, 3) := by decide +kernel
theorem q_164_38 : js_I 164 38 = some (.goto 15, 3) := by decide +kernel
theorem q_164_41 : js_I 164 41 = some (.aload_n 0, 1) := by decide +kernel
theorem q_164_42 : js_I 164 42 = some (.iload_n 1, 1) := by decide +kernel
theorem q_164_43 : js_I 164 43 = some (.aload_n 0, 1) := by decide +kernel
theorem q_164_44 : js_I 164 44 = some (.iload_n 1, 1) := by decide +kernel
theorem q_164_45 : js_I 164 45 = some (.invokevirtual 55, 3) := by decide +kernel
theorem q_164_48 : js_I 164 48 = some (.lload_n 3, 1) := by decide +kernel
theorem q_164_49 : js_I 164 49 = some (.lxor, 1) := by decide +kernel
theorem q_164_50 : js_I 164 50 = some (.invokevirtual 51, 3) := by decide +kernel
theorem q_164_53 : js_I 164 53 = some (.return_, 1) := by decide +kernel
theorem q_165_0 : js_I 165 0 = some (.aload_n 0, 1) := by decide +kernel
theorem q_165_1 : js_I 165 1 = some (.getfield 24, 3) := by decide +kernel
theorem q_165_4 : js_I 165 4 = some (.getfield 144, 3) := by decide +kernel
theorem q_165_7 : js_I 165 7 = some (.iconst 4, 1) := by decide +kernel
theorem q_165_8 : js_I 165 8 = some (.if_icmp .eq 11, 3) := by decide +kernel
theorem q_165_19 : js_I 165 19 = some (.iconst 0, 1) := by decide +kernel
theorem q_165_20 : js_I 165 20 = some (.istore_n 1, 1) := by decide +kernel
theorem q_165_21 : js_I 165 21 = some (.iconst 0, 1) := by decide +kernel
theorem q_165_22 : js_I 165 22 = some (.istore_n 2, 1) := by decide +kernel
theorem q_165_11 : js_I 165 11 = some (.aload_n 0, 1) := by decide +kernel
theorem q_165_12 : js_I 165 12 = some (.getfield 24, 3) := by decide +kernel
theorem q_165_15 : js_I 165 15 = some (.getfield 144, 3) := by decide +kernel
theorem q_165_18 : js_I 165 18 = some (.ireturn, 1) := by decide +kernel
theorem q_165_23 : js_I 165 23 = some (.iload_n 2, 1) := by decide +kernel
theorem q_165_24 : js_I 165 24 = some (.aload_n 0, 1) := by decide +kernel
theorem q_165_25 : js_I 165 25 = some (.getfield 39, 3) := by decide +kernel
theorem q_165_28 : js_I 165 28 = some (.getfield 47, 3) := by decide +kernel
theorem q_165_31 : js_I 165 31 = some (.if_icmp .ge 94, 3) := by decide +kernel
theorem q_165_34 : js_I 165 34 = some (.aload_n 0, 1) := by decide +kernel
theorem q_165_35 : js_I 165 35 = some (.getfield 39, 3) := by decide +kernel
theorem q_165_38 : js_I 165 38 = some (.iload_n 2, 1) := by decide +kernel
theorem q_165_39 : js_I 165 39 = some (.invokevirtual 53, 3) := by decide +kernel
theorem q_165_125 : js_I 165 125 = some (.iconst 0, 1) := by decide +kernel
theorem q_165_126 : js_I 165 126 = some (.ireturn, 1) := by decide +kernel
theorem q_165_42 : js_I 165 42 = some (.astore_n 3, 1) := by decide +kernel
theorem q_165_43 : js_I 165 43 = some (.aload_n 3, 1) := by decide +kernel
theorem q_165_44 : js_I 165 44 = some (.ifnull 75, 3) := by decide +kernel
theorem q_165_47 : js_I 165 47 = some (.aload_n 3, 1) := by decide +kernel
theorem q_165_48 : js_I 165 48 = some (.getfield 57, 3) := by decide +kernel
theorem q_165_51 : js_I 165 51 = some (.iconst 2, 1) := by decide +kernel
theorem q_165_52 : js_I 165 52 = some (.if_icmp .ne 67, 3) := by decide +kernel
theorem q_165_55 : js_I 165 55 = some (.aload_n 3, 1) := by decide +kernel
theorem q_165_56 : js_I 165 56 = some (.getfield 68, 3) := by decide +kernel
theorem q_165_59 : js_I 165 59 = some (.istore 4, 2) := by decide +kernel
theorem q_165_61 : js_I 165 61 = some (.iload 4, 2) := by decide +kernel
theorem q_165_63 : js_I 165 63 = some (.aload_n 3, 1) := by decide +kernel
theorem q_165_64 : js_I 165 64 = some (.getfield 68, 3) := by decide +kernel
theorem q_165_67 : js_I 165 67 = some (.aload_n 3, 1) := by decide +kernel
theorem q_165_68 : js_I 165 68 = some (.getfield 71, 3) := by decide +kernel
theorem q_165_71 : js_I 165 71 = some (.iadd, 1) := by decide +kernel
theorem q_165_72 : js_I 165 72 = some (.if_icmp .ge 47, 3) := by decide +kernel
theorem q_165_75 : js_I 165 75 = some (.iload_n 1, 1) := by decide +kernel
theorem q_165_76 : js_I 165 76 = some (.aload_n 0, 1) := by decide +kernel
theorem q_165_77 : js_I 165 77 = some (.getfield 33, 3) := by decide +kernel
theorem q_165_80 : js_I 165 80 = some (.arraylength, 1) := by decide +kernel
theorem q_165_81 : js_I 165 81 = some (.if_icmp .ge 38, 3) := by decide +kernel
theorem q_165_84 : js_I 165 84 = some (.aload_n 0, 1) := by decide +kernel
theorem q_165_85 : js_I 165 85 = some (.getfield 24, 3) := by decide +kernel
theorem q_165_88 : js_I 165 88 = some (.iconst 0, 1) := by decide +kernel
theorem q_165_89 : js_I 165 89 = some (.invokevirtual 135, 3) := by decide +kernel
theorem q_165_92 : js_I 165 92 = some (.iload 4, 2) := by decide +kernel
theorem q_165_94 : js_I 165 94 = some (.invokevirtual 154, 3) := by decide +kernel
theorem q_165_97 : js_I 165 97 = some (.aload_n 0, 1) := by decide +kernel
theorem q_165_98 : js_I 165 98 = some (.getfield 33, 3) := by decide +kernel
theorem q_165_101 : js_I 165 101 = some (.iload_n 1, 1) := by decide +kernel
theorem q_165_102 : js_I 165 102 = some (.iaload, 1) := by decide +kernel
theorem q_165_103 : js_I 165 103 = some (.i2l, 1) := by decide +kernel
theorem q_165_104 : js_I 165 104 = some (.lcmp, 1) := by decide +kernel
theorem q_165_105 : js_I 165 105 = some (.ifCond .eq 5, 3) := by decide +kernel
theorem q_165_110 : js_I 165 110 = some (.iinc 1 1, 3) := by decide +kernel
theorem q_165_113 : js_I 165 113 = some (.iinc 4 1, 3) := by decide +kernel
theorem q_165_116 : js_I 165 116 = some (.goto (-55), 3) := by decide +kernel
theorem q_165_108 : js_I 165 108 = some (.iconst 4, 1) := by decide +kernel
theorem q_165_109 : js_I 165 109 = some (.ireturn, 1) := by decide +kernel
theorem q_165_119 : js_I 165 119 = some (.iinc 2 1, 3) := by decide +kernel
theorem q_165_122 : js_I 165 122 = some (.goto (-99), 3) := by decide +kernel
theorem q_166_0 : js_I 166 0 = some (.aload_n 0, 1) := by decide +kernel
theorem q_166_1 : js_I 166 1 = some (.getfield 46, 3) := by decide +kernel
theorem q_166_4 : js_I 166 4 = some (.iload_n 1, 1) := by decide +kernel
theorem q_166_5 : js_I 166 5 = some (.iload_n 2, 1) := by decide +kernel
theorem q_166_6 : js_I 166 6 = some (.invokevirtual 172, 3) := by decide +kernel
theorem q_166_9 : js_I 166 9 = some (.ifCond .eq 22, 3) := by decide +kernel
theorem q_166_31 : js_I 166 31 = some (.iconst 0, 1) := by decide +kernel
theorem q_166_32 : js_I 166 32 = some (.ireturn, 1) := by decide +kernel
theorem q_166_12 : js_I 166 12 = some (.aload_n 0, 1) := by decide +kernel
theorem q_166_13 : js_I 166 13 = some (.getfield 46, 3) := by decide +kernel
theorem q_166_16 : js_I 166 16 = some (.iload_n 1, 1) := by decide +kernel
theorem q_166_17 : js_I 166 17 = some (.iload_n 2, 1) := by decide +kernel
theorem q_166_18 : js_I 166 18 = some (.iload_n 3, 1) := by decide +kernel
theorem q_166_19 : js_I 166 19 = some (.iload 4, 2) := by decide +kernel
theorem q_166_21 : js_I 166 21 = some (.invokevirtual 221, 3) := by decide +kernel
theorem q_166_24 : js_I 166 24 = some (.ifCond .eq 7, 3) := by decide +kernel
theorem q_166_27 : js_I 166 27 = some (.iconst 1, 1) := by decide +kernel
theorem q_166_28 : js_I 166 28 = some (.goto 4, 3) := by decide +kernel
theorem q_167_0 : js_I 167 0 = some (.iload_n 3, 1) := by decide +kernel
theorem q_167_1 : js_I 167 1 = some (.ifCond .lt 37, 3) := by decide +kernel
theorem q_167_38 : js_I 167 38 = some (.iconst 0, 1) := by decide +kernel
theorem q_167_39 : js_I 167 39 = some (.ireturn, 1) := by decide +kernel
theorem q_167_4 : js_I 167 4 = some (.iload_n 3, 1) := by decide +kernel
theorem q_167_5 : js_I 167 5 = some (.bipush 64, 2) := by decide +kernel
theorem q_167_7 : js_I 167 7 = some (.if_icmp .ge 31, 3) := by decide +kernel
theorem q_167_10 : js_I 167 10 = some (.iload 4, 2) := by decide +kernel
theorem q_167_12 : js_I 167 12 = some (.aload_n 0, 1) := by decide +kernel
theorem q_167_13 : js_I 167 13 = some (.getfield 20, 3) := by decide +kernel
theorem q_167_16 : js_I 167 16 = some (.getfield 113, 3) := by decide +kernel
theorem q_167_19 : js_I 167 19 = some (.if_icmp .lt 19, 3) := by decide +kernel
theorem q_167_22 : js_I 167 22 = some (.aload_n 0, 1) := by decide +kernel
theorem q_167_23 : js_I 167 23 = some (.getfield 90, 3) := by decide +kernel
theorem q_167_26 : js_I 167 26 = some (.ifCond .ne 12, 3) := by decide +kernel
theorem q_167_29 : js_I 167 29 = some (.aload_n 0, 1) := by decide +kernel
theorem q_167_30 : js_I 167 30 = some (.getfield 96, 3) := by decide +kernel
theorem q_167_33 : js_I 167 33 = some (.bipush 8, 2) := by decide +kernel
theorem q_167_35 : js_I 167 35 = some (.if_icmp .lt 5, 3) := by decide +kernel
theorem q_167_40 : js_I 167 40 = some (.aload_n 0, 1) := by decide +kernel
theorem q_167_41 : js_I 167 41 = some (.getfield 9, 3) := by decide +kernel
theorem q_167_44 : js_I 167 44 = some (.iconst 4, 1) := by decide +kernel
theorem q_167_45 : js_I 167 45 = some (.aload_n 0, 1) := by decide +kernel
theorem q_167_46 : js_I 167 46 = some (.getfield 96, 3) := by decide +kernel
theorem q_167_49 : js_I 167 49 = some (.imul, 1) := by decide +kernel
theorem q_167_50 : js_I 167 50 = some (.iload_n 1, 1) := by decide +kernel
theorem q_167_51 : js_I 167 51 = some (.iastore, 1) := by decide +kernel
theorem q_167_52 : js_I 167 52 = some (.aload_n 0, 1) := by decide +kernel
theorem q_167_53 : js_I 167 53 = some (.getfield 9, 3) := by decide +kernel
theorem q_167_56 : js_I 167 56 = some (.iconst 4, 1) := by decide +kernel
theorem q_167_57 : js_I 167 57 = some (.aload_n 0, 1) := by decide +kernel
theorem q_167_58 : js_I 167 58 = some (.getfield 96, 3) := by decide +kernel
theorem q_167_61 : js_I 167 61 = some (.imul, 1) := by decide +kernel
theorem q_167_62 : js_I 167 62 = some (.iconst 1, 1) := by decide +kernel
theorem q_167_63 : js_I 167 63 = some (.iadd, 1) := by decide +kernel
theorem q_167_64 : js_I 167 64 = some (.iload_n 2, 1) := by decide +kernel
theorem q_167_65 : js_I 167 65 = some (.iastore, 1) := by decide +kernel
theorem q_167_66 : js_I 167 66 = some (.aload_n 0, 1) := by decide +kernel
theorem q_167_67 : js_I 167 67 = some (.getfield 9, 3) := by decide +kernel
theorem q_167_70 : js_I 167 70 = some (.iconst 4, 1) := by decide +kernel
theorem q_167_71 : js_I 167 71 = some (.aload_n 0, 1) := by decide +kernel
theorem q_167_72 : js_I 167 72 = some (.getfield 96, 3) := by decide +kernel
theorem q_167_75 : js_I 167 75 = some (.imul, 1) := by decide +kernel
theorem q_167_76 : js_I 167 76 = some (.iconst 2, 1) := by decide +kernel
theorem q_167_77 : js_I 167 77 = some (.iadd, 1) := by decide +kernel
theorem q_167_78 : js_I 167 78 = some (.iload_n 3, 1) := by decide +kernel
theorem q_167_79 : js_I 167 79 = some (.iastore, 1) := by decide +kernel
theorem q_167_80 : js_I 167 80 = some (.aload_n 0, 1) := by decide +kernel
theorem q_167_81 : js_I 167 81 = some (.getfield 9, 3) := by decide +kernel
theorem q_167_84 : js_I 167 84 = some (.iconst 4, 1) := by decide +kernel
theorem q_167_85 : js_I 167 85 = some (.aload_n 0, 1) := by decide +kernel
theorem q_167_86 : js_I 167 86 = some (.getfield 96, 3) := by decide +kernel
theorem q_167_89 : js_I 167 89 = some (.imul, 1) := by decide +kernel
theorem q_167_90 : js_I 167 90 = some (.iconst 3, 1) := by decide +kernel
theorem q_167_91 : js_I 167 91 = some (.iadd, 1) := by decide +kernel
theorem q_167_92 : js_I 167 92 = some (.iload 4, 2) := by decide +kernel
theorem q_167_94 : js_I 167 94 = some (.iastore, 1) := by decide +kernel
theorem q_167_95 : js_I 167 95 = some (.aload_n 0, 1) := by decide +kernel
theorem q_167_96 : js_I 167 96 = some (.dup, 1) := by decide +kernel
theorem q_167_97 : js_I 167 97 = some (.getfield 96, 3) := by decide +kernel
theorem q_167_100 : js_I 167 100 = some (.iconst 1, 1) := by decide +kernel
theorem q_167_101 : js_I 167 101 = some (.iadd, 1) := by decide +kernel
theorem q_167_102 : js_I 167 102 = some (.putfield 96, 3) := by decide +kernel
theorem q_167_105 : js_I 167 105 = some (.iconst 1, 1) := by decide +kernel
theorem q_167_106 : js_I 167 106 = some (.ireturn, 1) := by decide +kernel
theorem q_168_0 : js_I 168 0 = some (.aload_n 0, 1) := by decide +kernel
theorem q_168_1 : js_I 168 1 = some (.getfield 46, 3) := by decide +kernel
theorem q_168_4 : js_I 168 4 = some (.getfield 141, 3) := by decide +kernel
theorem q_168_7 : js_I 168 7 = some (.ifCond .ne 5, 3) := by decide +kernel
theorem q_168_10 : js_I 168 10 = some (.iconst 0, 1) := by decide +kernel
theorem q_168_11 : js_I 168 11 = some (.ireturn, 1) := by decide +kernel
theorem q_168_12 : js_I 168 12 = some (.aload_n 0, 1) := by decide +kernel
theorem q_168_13 : js_I 168 13 = some (.getfield 46, 3) := by decide +kernel
theorem q_168_16 : js_I 168 16 = some (.invokevirtual 225, 3) := by decide +kernel
theorem q_168_19 : js_I 168 19 = some (.iconst 1, 1) := by decide +kernel
theorem q_168_20 : js_I 168 20 = some (.ireturn, 1) := by decide +kernel
theorem q_169_0 : js_I 169 0 = some (.iload_n 1, 1) := by decide +kernel
theorem q_169_1 : js_I 169 1 = some (.ifCond .ne 11, 3) := by decide +kernel
theorem q_169_4 : js_I 169 4 = some (.aload_n 0, 1) := by decide +kernel
theorem q_169_5 : js_I 169 5 = some (.getfield 24, 3) := by decide +kernel
theorem q_169_8 : js_I 169 8 = some (.getfield 228, 3) := by decide +kernel
theorem q_169_11 : js_I 169 11 = some (.ireturn, 1) := by decide +kernel
theorem q_169_12 : js_I 169 12 = some (.aload_n 0, 1) := by decide +kernel
theorem q_169_13 : js_I 169 13 = some (.getfield 46, 3) := by decide +kernel
theorem q_169_16 : js_I 169 16 = some (.getfield 141, 3) := by decide +kernel
theorem q_169_19 : js_I 169 19 = some (.ifCond .ne 5, 3) := by decide +kernel
theorem q_169_22 : js_I 169 22 = some (.iconst (-1), 1) := by decide +kernel
theorem q_169_23 : js_I 169 23 = some (.ireturn, 1) := by decide +kernel
theorem q_169_24 : js_I 169 24 = some (.iload_n 1, 1) := by decide +kernel
theorem q_169_25 : js_I 169 25 = some (.bipush 8, 2) := by decide +kernel
theorem q_169_27 : js_I 169 27 = some (.if_icmp .ge 17, 3) := by decide +kernel
theorem q_169_30 : js_I 169 30 = some (.aload_n 0, 1) := by decide +kernel
theorem q_169_31 : js_I 169 31 = some (.getfield 46, 3) := by decide +kernel
theorem q_169_34 : js_I 169 34 = some (.getfield 155, 3) := by decide +kernel
theorem q_169_37 : js_I 169 37 = some (.iload_n 1, 1) := by decide +kernel
theorem q_169_38 : js_I 169 38 = some (.invokevirtual 231, 3) := by decide +kernel
theorem q_169_44 : js_I 169 44 = some (.aload_n 0, 1) := by decide +kernel
theorem q_169_45 : js_I 169 45 = some (.getfield 46, 3) := by decide +kernel
theorem q_169_48 : js_I 169 48 = some (.iload_n 1, 1) := by decide +kernel
theorem q_169_49 : js_I 169 49 = some (.invokevirtual 232, 3) := by decide +kernel
theorem q_169_41 : js_I 169 41 = some (.goto 11, 3) := by decide +kernel
theorem q_169_52 : js_I 169 52 = some (.ireturn, 1) := by decide +kernel
theorem q_170_0 : js_I 170 0 = some (.iload_n 1, 1) := by decide +kernel
theorem q_170_1 : js_I 170 1 = some (.tableswitch 81 1 7 #[43, 48, 56, 61, 66, 71, 76], 43) := by decide +kernel
theorem q_170_44 : js_I 170 44 = some (.aload_n 0, 1) := by decide +kernel
theorem q_170_45 : js_I 170 45 = some (.getfield 31, 3) := by decide +kernel
theorem q_170_48 : js_I 170 48 = some (.ireturn, 1) := by decide +kernel
theorem q_170_49 : js_I 170 49 = some (.aload_n 0, 1) := by decide +kernel
theorem q_170_50 : js_I 170 50 = some (.getfield 12, 3) := by decide +kernel
theorem q_170_53 : js_I 170 53 = some (.getfield 130, 3) := by decide +kernel
theorem q_170_56 : js_I 170 56 = some (.ireturn, 1) := by decide +kernel
theorem q_170_57 : js_I 170 57 = some (.aload_n 0, 1) := by decide +kernel
theorem q_170_58 : js_I 170 58 = some (.getfield 35, 3) := by decide +kernel
theorem q_170_61 : js_I 170 61 = some (.ireturn, 1) := by decide +kernel
theorem q_170_62 : js_I 170 62 = some (.aload_n 0, 1) := by decide +kernel
theorem q_170_63 : js_I 170 63 = some (.getfield 38, 3) := by decide +kernel
theorem q_170_66 : js_I 170 66 = some (.ireturn, 1) := by decide +kernel
theorem q_170_67 : js_I 170 67 = some (.aload_n 0, 1) := by decide +kernel
theorem q_170_68 : js_I 170 68 = some (.getfield 41, 3) := by decide +kernel
theorem q_170_71 : js_I 170 71 = some (.ireturn, 1) := by decide +kernel
theorem q_170_72 : js_I 170 72 = some (.aload_n 0, 1) := by decide +kernel
theorem q_170_73 : js_I 170 73 = some (.getfield 44, 3) := by decide +kernel
theorem q_170_76 : js_I 170 76 = some (.ireturn, 1) := by decide +kernel
theorem q_170_77 : js_I 170 77 = some (.aload_n 0, 1) := by decide +kernel
theorem q_170_78 : js_I 170 78 = some (.getfield 47, 3) := by decide +kernel
theorem q_170_81 : js_I 170 81 = some (.ireturn, 1) := by decide +kernel
theorem q_170_82 : js_I 170 82 = some (.iconst (-1), 1) := by decide +kernel
theorem q_170_83 : js_I 170 83 = some (.ireturn, 1) := by decide +kernel
theorem q_171_0 : js_I 171 0 = some (.iload_n 1, 1) := by decide +kernel
theorem q_171_1 : js_I 171 1 = some (.tableswitch 75 8 13 #[39, 44, 52, 60, 65, 70], 39) := by decide +kernel
theorem q_171_40 : js_I 171 40 = some (.aload_n 0, 1) := by decide +kernel
theorem q_171_41 : js_I 171 41 = some (.getfield 93, 3) := by decide +kernel
theorem q_171_44 : js_I 171 44 = some (.ireturn, 1) := by decide +kernel
theorem q_171_45 : js_I 171 45 = some (.aload_n 0, 1) := by decide +kernel
theorem q_171_46 : js_I 171 46 = some (.getfield 20, 3) := by decide +kernel
theorem q_171_49 : js_I 171 49 = some (.getfield 113, 3) := by decide +kernel
theorem q_171_52 : js_I 171 52 = some (.ireturn, 1) := by decide +kernel
theorem q_171_53 : js_I 171 53 = some (.aload_n 0, 1) := by decide +kernel
theorem q_171_54 : js_I 171 54 = some (.getfield 20, 3) := by decide +kernel
theorem q_171_57 : js_I 171 57 = some (.getfield 110, 3) := by decide +kernel
theorem q_171_60 : js_I 171 60 = some (.ireturn, 1) := by decide +kernel
theorem q_171_61 : js_I 171 61 = some (.aload_n 0, 1) := by decide +kernel
theorem q_171_62 : js_I 171 62 = some (.getfield 90, 3) := by decide +kernel
theorem q_171_65 : js_I 171 65 = some (.ireturn, 1) := by decide +kernel
theorem q_171_66 : js_I 171 66 = some (.aload_n 0, 1) := by decide +kernel
theorem q_171_67 : js_I 171 67 = some (.getfield 96, 3) := by decide +kernel
theorem q_171_70 : js_I 171 70 = some (.ireturn, 1) := by decide +kernel
theorem q_171_71 : js_I 171 71 = some (.aload_n 0, 1) := by decide +kernel
theorem q_171_72 : js_I 171 72 = some (.getfield 99, 3) := by decide +kernel
theorem q_171_75 : js_I 171 75 = some (.ireturn, 1) := by decide +kernel
theorem q_171_76 : js_I 171 76 = some (.iconst (-1), 1) := by decide +kernel
theorem q_171_77 : js_I 171 77 = some (.ireturn, 1) := by decide +kernel
theorem q_172_0 : js_I 172 0 = some (.aload_n 0, 1) := by decide +kernel
theorem q_172_1 : js_I 172 1 = some (.getfield 30, 3) := by decide +kernel
theorem q_172_4 : js_I 172 4 = some (.getfield 39, 3) := by decide +kernel
theorem q_172_7 : js_I 172 7 = some (.getfield 89, 3) := by decide +kernel
theorem q_172_10 : js_I 172 10 = some (.astore_n 3, 1) := by decide +kernel
theorem q_172_11 : js_I 172 11 = some (.aload_n 3, 1) := by decide +kernel
theorem q_172_12 : js_I 172 12 = some (.iload_n 1, 1) := by decide +kernel
theorem q_172_13 : js_I 172 13 = some (.invokevirtual 93, 3) := by decide +kernel
theorem q_172_16 : js_I 172 16 = some (.ifCond .eq 12, 3) := by decide +kernel
theorem q_172_19 : js_I 172 19 = some (.iload_n 2, 1) := by decide +kernel
theorem q_172_20 : js_I 172 20 = some (.ifCond .lt 8, 3) := by decide +kernel
theorem q_172_23 : js_I 172 23 = some (.iload_n 2, 1) := by decide +kernel
theorem q_172_24 : js_I 172 24 = some (.iconst 1, 1) := by decide +kernel
theorem q_172_25 : js_I 172 25 = some (.if_icmp .le 13, 3) := by decide +kernel
theorem q_172_38 : js_I 172 38 = some (.iload_n 2, 1) := by decide +kernel
theorem q_172_39 : js_I 172 39 = some (.ifCond .ne 13, 3) := by decide +kernel
theorem q_172_42 : js_I 172 42 = some (.aload_n 3, 1) := by decide +kernel
theorem q_172_43 : js_I 172 43 = some (.getfield 116, 3) := by decide +kernel
theorem q_172_46 : js_I 172 46 = some (.iload_n 1, 1) := by decide +kernel
theorem q_172_47 : js_I 172 47 = some (.iaload, 1) := by decide +kernel
theorem q_172_48 : js_I 172 48 = some (.i2l, 1) := by decide +kernel
theorem q_172_49 : js_I 172 49 = some (.goto 10, 3) := by decide +kernel
theorem q_172_59 : js_I 172 59 = some (.lreturn, 1) := by decide +kernel
theorem q_172_52 : js_I 172 52 = some (.aload_n 3, 1) := by decide +kernel
theorem q_172_53 : js_I 172 53 = some (.getfield 119, 3) := by decide +kernel
theorem q_172_56 : js_I 172 56 = some (.iload_n 1, 1) := by decide +kernel
theorem q_172_57 : js_I 172 57 = some (.iaload, 1) := by decide +kernel
theorem q_172_58 : js_I 172 58 = some (.i2l, 1) := by decide +kernel
theorem q_172_28 : js_I 172 28 = some (.new 109, 3) := by decide +kernel
theorem q_173_0 : js_I 173 0 = some (.iload_n 1, 1) := by decide +kernel
theorem q_173_1 : js_I 173 1 = some (.iconst 1, 1) := by decide +kernel
theorem q_173_2 : js_I 173 2 = some (.if_icmp .lt 9, 3) := by decide +kernel
theorem q_173_5 : js_I 173 5 = some (.iload_n 1, 1) := by decide +kernel
theorem q_173_6 : js_I 173 6 = some (.ldc 135, 2) := by decide +kernel
theorem q_173_8 : js_I 173 8 = some (.if_icmp .le 13, 3) := by decide +kernel
theorem q_173_21 : js_I 173 21 = some (.aload_n 0, 1) := by decide +kernel
theorem q_173_22 : js_I 173 22 = some (.getfield 46, 3) := by decide +kernel
theorem q_173_25 : js_I 173 25 = some (.getfield 141, 3) := by decide +kernel
theorem q_173_28 : js_I 173 28 = some (.ifCond .ne 13, 3) := by decide +kernel
theorem q_173_31 : js_I 173 31 = some (.new 61, 3) := by decide +kernel
theorem q_173_41 : js_I 173 41 = some (.aload_n 0, 1) := by decide +kernel
theorem q_173_42 : js_I 173 42 = some (.getfield 46, 3) := by decide +kernel
theorem q_173_45 : js_I 173 45 = some (.iload_n 1, 1) := by decide +kernel
theorem q_173_46 : js_I 173 46 = some (.invokevirtual 148, 3) := by decide +kernel
theorem q_173_11 : js_I 173 11 = some (.new 136, 3) := by decide +kernel
theorem q_173_49 : js_I 173 49 = some (.ireturn, 1) := by decide +kernel
theorem qf_9_79 : ip_lk (vt_FL.getD 9 []) 79 = some (7, 1) := by decide +kernel
theorem qf_9_86 : ip_lk (vt_FL.getD 9 []) 86 = some (11, 1) := by decide +kernel
theorem qf_9_95 : ip_lk (vt_FL.getD 9 []) 95 = some (11, 5) := by decide +kernel
theorem qf_9_98 : ip_lk (vt_FL.getD 9 []) 98 = some (11, 6) := by decide +kernel
theorem qf_9_105 : ip_lk (vt_FL.getD 9 []) 105 = some (11, 3) := by decide +kernel
theorem qf_9_108 : ip_lk (vt_FL.getD 9 []) 108 = some (11, 4) := by decide +kernel
theorem qf_6_113 : ip_lk (vt_FL.getD 6 []) 113 = some (9, 1) := by decide +kernel
theorem qf_6_9 : ip_lk (vt_FL.getD 6 []) 9 = some (6, 7) := by decide +kernel
theorem qf_0_141 : ip_lk (vt_FL.getD 0 []) 141 = some (6, 2) := by decide +kernel
theorem qf_0_228 : ip_lk (vt_FL.getD 0 []) 228 = some (8, 0) := by decide +kernel
theorem qf_0_155 : ip_lk (vt_FL.getD 0 []) 155 = some (6, 1) := by decide +kernel
theorem qf_7_130 : ip_lk (vt_FL.getD 7 []) 130 = some (1, 6) := by decide +kernel
theorem qf_0_116 : ip_lk (vt_FL.getD 0 []) 116 = some (1, 3) := by decide +kernel
theorem qf_0_119 : ip_lk (vt_FL.getD 0 []) 119 = some (1, 4) := by decide +kernel
theorem qm_3_103 : ip_lk (vt_ML.getD 3 []) 103 = some (156, 0, 1, 3) := by decide +kernel
theorem qm_3_106 : ip_lk (vt_ML.getD 3 []) 106 = some (157, 1, 1, 3) := by decide +kernel
theorem qm_3_110 : ip_lk (vt_ML.getD 3 []) 110 = some (158, 1, 1, 3) := by decide +kernel
theorem qm_9_82 : ip_lk (vt_ML.getD 9 []) 82 = some (67, 1, 1, 7) := by decide +kernel
theorem qm_9_91 : ip_lk (vt_ML.getD 9 []) 91 = some (161, 1, 1, 9) := by decide +kernel
theorem qm_9_101 : ip_lk (vt_ML.getD 9 []) 101 = some (148, 1, 1, 3) := by decide +kernel
theorem qm_9_112 : ip_lk (vt_ML.getD 9 []) 112 = some (145, 1, 1, 9) := by decide +kernel
theorem qm_6_154 : ip_lk (vt_ML.getD 6 []) 154 = some (148, 1, 1, 3) := by decide +kernel
theorem qm_0_221 : ip_lk (vt_ML.getD 0 []) 221 = some (167, 4, 1, 6) := by decide +kernel
theorem qm_0_225 : ip_lk (vt_ML.getD 0 []) 225 = some (117, 0, 1, 6) := by decide +kernel
theorem qm_0_231 : ip_lk (vt_ML.getD 0 []) 231 = some (170, 1, 1, 7) := by decide +kernel
theorem qm_0_232 : ip_lk (vt_ML.getD 0 []) 232 = some (171, 1, 1, 6) := by decide +kernel
theorem qm_0_148 : ip_lk (vt_ML.getD 0 []) 148 = some (174, 1, 1, 6) := by decide +kernel
theorem qc_9_20 : ip_lk (vt_CL.getD 9 []) 20 = some (js_V (1, 58659)) := by decide +kernel
theorem qc_9_111 : ip_lk (vt_CL.getD 9 []) 111 = some (js_V (0, 1000000)) := by decide +kernel
theorem qc_0_135 : ip_lk (vt_CL.getD 0 []) 135 = some (js_V (0, 200000)) := by decide +kernel
theorem qn_0_109 : ip_lk (vt_NL.getD 0 []) 109 = some (15, [.null, .null, .null, .null, .null, .int 0]) := by decide +kernel
theorem qn_0_61 : ip_lk (vt_NL.getD 0 []) 61 = some (13, [.null, .null, .null, .null, .null, .int 0]) := by decide +kernel
theorem qn_0_136 : ip_lk (vt_NL.getD 0 []) 136 = some (14, [.null, .null, .null, .null, .null, .int 0]) := by decide +kernel
-- 155: VitalTwin$Copy.work (I)I
theorem b_155_0 {E : js_E} {d : Nat} {σ : js_S} {x0 x1 : Int} : js_J E d 155 0 [(2, x0), (0, x1)] [] σ = js_J E d 155 1 [(2, x0), (0, x1)] [(0, x1)] σ :=
  (j_iload_n q_155_0 rfl).trans <| rfl
theorem s_155_1_6 {E : js_E} {d : Nat} {σ : js_S} {x0 x1 z0 : Int} (h : js_w z0 = 6) : js_J E d 155 1 [(2, x0), (0, x1)] [(0, z0)] σ = js_J E d 155 76 [(2, x0), (0, x1)] [] σ :=
  j_tsw (t := 76) (off := 75) q_155_1 (by rw [h]; decide) (by rw [h]; decide) (by rw [h]; rfl) rfl
theorem s_155_1_7 {E : js_E} {d : Nat} {σ : js_S} {x0 x1 z0 : Int} (h : js_w z0 = 7) : js_J E d 155 1 [(2, x0), (0, x1)] [(0, z0)] σ = js_J E d 155 91 [(2, x0), (0, x1)] [] σ :=
  j_tsw (t := 91) (off := 90) q_155_1 (by rw [h]; decide) (by rw [h]; decide) (by rw [h]; rfl) rfl
theorem s_155_1_8 {E : js_E} {d : Nat} {σ : js_S} {x0 x1 z0 : Int} (h : js_w z0 = 8) : js_J E d 155 1 [(2, x0), (0, x1)] [(0, z0)] σ = js_J E d 155 106 [(2, x0), (0, x1)] [] σ :=
  j_tsw (t := 106) (off := 105) q_155_1 (by rw [h]; decide) (by rw [h]; decide) (by rw [h]; rfl) rfl
theorem s_155_1_9 {E : js_E} {d : Nat} {σ : js_S} {x0 x1 z0 : Int} (h : js_w z0 = 9) : js_J E d 155 1 [(2, x0), (0, x1)] [(0, z0)] σ = js_J E d 155 111 [(2, x0), (0, x1)] [] σ :=
  j_tsw (t := 111) (off := 110) q_155_1 (by rw [h]; decide) (by rw [h]; decide) (by rw [h]; rfl) rfl
theorem s_155_1_10 {E : js_E} {d : Nat} {σ : js_S} {x0 x1 z0 : Int} (h : js_w z0 = 10) : js_J E d 155 1 [(2, x0), (0, x1)] [(0, z0)] σ = js_J E d 155 111 [(2, x0), (0, x1)] [] σ :=
  j_tsw (t := 111) (off := 110) q_155_1 (by rw [h]; decide) (by rw [h]; decide) (by rw [h]; rfl) rfl
theorem s_155_1_11 {E : js_E} {d : Nat} {σ : js_S} {x0 x1 z0 : Int} (h : js_w z0 = 11) : js_J E d 155 1 [(2, x0), (0, x1)] [(0, z0)] σ = js_J E d 155 127 [(2, x0), (0, x1)] [] σ :=
  j_tsw (t := 127) (off := 126) q_155_1 (by rw [h]; decide) (by rw [h]; decide) (by rw [h]; rfl) rfl
theorem s_155_1_12 {E : js_E} {d : Nat} {σ : js_S} {x0 x1 z0 : Int} (h : js_w z0 = 12) : js_J E d 155 1 [(2, x0), (0, x1)] [(0, z0)] σ = js_J E d 155 144 [(2, x0), (0, x1)] [] σ :=
  j_tsw (t := 144) (off := 143) q_155_1 (by rw [h]; decide) (by rw [h]; decide) (by rw [h]; rfl) rfl
theorem s_155_1_13 {E : js_E} {d : Nat} {σ : js_S} {x0 x1 z0 : Int} (h : js_w z0 = 13) : js_J E d 155 1 [(2, x0), (0, x1)] [(0, z0)] σ = js_J E d 155 199 [(2, x0), (0, x1)] [] σ :=
  j_tsw (t := 199) (off := 198) q_155_1 (by rw [h]; decide) (by rw [h]; decide) (by rw [h]; rfl) rfl
theorem s_155_1_14 {E : js_E} {d : Nat} {σ : js_S} {x0 x1 z0 : Int} (h : js_w z0 = 14) : js_J E d 155 1 [(2, x0), (0, x1)] [(0, z0)] σ = js_J E d 155 199 [(2, x0), (0, x1)] [] σ :=
  j_tsw (t := 199) (off := 198) q_155_1 (by rw [h]; decide) (by rw [h]; decide) (by rw [h]; rfl) rfl
theorem s_155_1_15 {E : js_E} {d : Nat} {σ : js_S} {x0 x1 z0 : Int} (h : js_w z0 = 15) : js_J E d 155 1 [(2, x0), (0, x1)] [(0, z0)] σ = js_J E d 155 199 [(2, x0), (0, x1)] [] σ :=
  j_tsw (t := 199) (off := 198) q_155_1 (by rw [h]; decide) (by rw [h]; decide) (by rw [h]; rfl) rfl
theorem s_155_1_16 {E : js_E} {d : Nat} {σ : js_S} {x0 x1 z0 : Int} (h : js_w z0 = 16) : js_J E d 155 1 [(2, x0), (0, x1)] [(0, z0)] σ = js_J E d 155 199 [(2, x0), (0, x1)] [] σ :=
  j_tsw (t := 199) (off := 198) q_155_1 (by rw [h]; decide) (by rw [h]; decide) (by rw [h]; rfl) rfl
theorem s_155_1_17 {E : js_E} {d : Nat} {σ : js_S} {x0 x1 z0 : Int} (h : js_w z0 = 17) : js_J E d 155 1 [(2, x0), (0, x1)] [(0, z0)] σ = js_J E d 155 199 [(2, x0), (0, x1)] [] σ :=
  j_tsw (t := 199) (off := 198) q_155_1 (by rw [h]; decide) (by rw [h]; decide) (by rw [h]; rfl) rfl
theorem s_155_1_18 {E : js_E} {d : Nat} {σ : js_S} {x0 x1 z0 : Int} (h : js_w z0 = 18) : js_J E d 155 1 [(2, x0), (0, x1)] [(0, z0)] σ = js_J E d 155 199 [(2, x0), (0, x1)] [] σ :=
  j_tsw (t := 199) (off := 198) q_155_1 (by rw [h]; decide) (by rw [h]; decide) (by rw [h]; rfl) rfl
theorem s_155_1_19 {E : js_E} {d : Nat} {σ : js_S} {x0 x1 z0 : Int} (h : js_w z0 = 19) : js_J E d 155 1 [(2, x0), (0, x1)] [(0, z0)] σ = js_J E d 155 161 [(2, x0), (0, x1)] [] σ :=
  j_tsw (t := 161) (off := 160) q_155_1 (by rw [h]; decide) (by rw [h]; decide) (by rw [h]; rfl) rfl
theorem s_155_1_20 {E : js_E} {d : Nat} {σ : js_S} {x0 x1 z0 : Int} (h : js_w z0 = 20) : js_J E d 155 1 [(2, x0), (0, x1)] [(0, z0)] σ = js_J E d 155 172 [(2, x0), (0, x1)] [] σ :=
  j_tsw (t := 172) (off := 171) q_155_1 (by rw [h]; decide) (by rw [h]; decide) (by rw [h]; rfl) rfl
theorem s_155_1_d {E : js_E} {d : Nat} {σ : js_S} {x0 x1 z0 : Int} (h : js_w z0 < 6 ∨ 20 < js_w z0) : js_J E d 155 1 [(2, x0), (0, x1)] [(0, z0)] σ = js_J E d 155 199 [(2, x0), (0, x1)] [] σ :=
  j_tswd (t := 199) q_155_1 h rfl
theorem b_155_76 {E : js_E} {d : Nat} {σ : js_S} {x0 x1 ox0 : Int} (hC_x0 : js_isC E.1 x0 ox0) : js_J E d 155 76 [(2, x0), (0, x1)] [] σ = js_r E (0, 0) (js_up σ x0 0 ((σ x0 0) + (σ x0 1))) :=
  (j_aload_n q_155_76 rfl).trans <| (j_aload_n q_155_77 rfl).trans <| (j_get (ji := 0) (v := (1, σ x0 0)) q_155_78 (js_Fo qy_155 qf_3_23) (hC_x0 _).1 rfl rfl rfl rfl).trans <| (j_aload_n q_155_81 rfl).trans <| (j_get (ji := 1) (v := (1, σ x0 1)) q_155_82 (js_Fo qy_155 qf_3_26) (hC_x0 _).1 rfl rfl rfl rfl).trans <| (j_ladd q_155_85).trans <| (j_putL (ji := 0) q_155_86 (js_Fo qy_155 qf_3_23) rfl (hC_x0 _).1 rfl rfl rfl).trans <| (j_iconst q_155_89).trans <| j_ireturn q_155_90 qr_155
theorem b_155_91 {E : js_E} {d : Nat} {σ : js_S} {x0 x1 ox0 : Int} (hC_x0 : js_isC E.1 x0 ox0) : js_J E d 155 91 [(2, x0), (0, x1)] [] σ = js_r E (0, 0) (js_up σ x0 0 ((σ x0 0) - (σ x0 1))) :=
  (j_aload_n q_155_91 rfl).trans <| (j_aload_n q_155_92 rfl).trans <| (j_get (ji := 0) (v := (1, σ x0 0)) q_155_93 (js_Fo qy_155 qf_3_23) (hC_x0 _).1 rfl rfl rfl rfl).trans <| (j_aload_n q_155_96 rfl).trans <| (j_get (ji := 1) (v := (1, σ x0 1)) q_155_97 (js_Fo qy_155 qf_3_26) (hC_x0 _).1 rfl rfl rfl rfl).trans <| (j_lsub q_155_100).trans <| (j_putL (ji := 0) q_155_101 (js_Fo qy_155 qf_3_23) rfl (hC_x0 _).1 rfl rfl rfl).trans <| (j_iconst q_155_104).trans <| j_ireturn q_155_105 qr_155
theorem b_155_106 {E : js_E} {d : Nat} {σ : js_S} {x0 x1 : Int} : js_J E d 155 106 [(2, x0), (0, x1)] [] σ = js_J E d 155 107 [(2, x0), (0, x1)] [(2, x0)] σ :=
  (j_aload_n q_155_106 rfl).trans <| rfl
theorem k_155_107 {E : js_E} {d : Nat} {σ σ2 : js_S} {x0 x1 z0 oz0 : Int} (hC_z0 : js_isC E.1 z0 oz0) {v : Int} (hd : 1 ≤ d) (hz : js_J E (d - 1) 156 0 [(2, z0), (9, 0), (9, 0)] [] σ = js_r E (0, v) σ2) : js_J E d 155 107 [(2, x0), (0, x1)] [(2, z0)] σ = js_J E d 155 110 [(2, x0), (0, x1)] [(0, v)] σ2 :=
  j_call (m := 2) (js_caV q_155_107 (js_Mo qy_155 qm_3_103)) (js_agV (av := []) (st := []) rfl rfl (hC_z0 _).1 rfl) rfl rfl (by rw [ql_156]; exact Nat.le_of_ble_eq_true rfl) (Nat.le_of_ble_eq_true rfl) hd hz
theorem kt_155_107 {E : js_E} {d : Nat} {σ σ2 : js_S} {x0 x1 z0 oz0 : Int} (hC_z0 : js_isC E.1 z0 oz0) {w : Int} (hd : 1 ≤ d) (hz : js_J E (d - 1) 156 0 [(2, z0), (9, 0), (9, 0)] [] σ = js_t E w σ2) : js_J E d 155 107 [(2, x0), (0, x1)] [(2, z0)] σ = js_t E w σ2 :=
  j_callT (m := 2) (js_caV q_155_107 (js_Mo qy_155 qm_3_103)) (js_agV (av := []) (st := []) rfl rfl (hC_z0 _).1 rfl) rfl rfl (by rw [ql_156]; exact Nat.le_of_ble_eq_true rfl) (Nat.le_of_ble_eq_true rfl) hd rfl hz
theorem b_155_110 {E : js_E} {d : Nat} {σ : js_S} {x0 x1 z0 : Int} : js_J E d 155 110 [(2, x0), (0, x1)] [(0, z0)] σ = js_r E (0, z0) σ :=
  j_ireturn q_155_110 qr_155
theorem b_155_111 {E : js_E} {d : Nat} {σ : js_S} {x0 x1 : Int} : js_J E d 155 111 [(2, x0), (0, x1)] [] σ = (if js_w x1 = 9 then js_J E d 155 123 [(2, x0), (0, x1)] [(0, 1), (2, x0)] σ else js_J E d 155 123 [(2, x0), (0, x1)] [(0, 0), (2, x0)] σ) :=
  (j_aload_n q_155_111 rfl).trans <| (j_iload_n q_155_112 rfl).trans <| (j_bi q_155_113 rfl).trans <| (j_cmpneB (t := 122) q_155_115 rfl ww_9).trans (js_ite ((j_iconst q_155_118).trans <| (j_goto (t := 123) q_155_119 rfl).trans <| rfl) ((j_iconst q_155_122).trans <| rfl))
theorem k_155_123 {E : js_E} {d : Nat} {σ σ2 : js_S} {x0 x1 z0 z1 oz0 : Int} (hC_z0 : js_isC E.1 z0 oz0) {v : Int} (hd : 1 ≤ d) (hz : js_J E (d - 1) 157 0 [(2, z0), (0, z1)] [] σ = js_r E (0, v) σ2) : js_J E d 155 123 [(2, x0), (0, x1)] [(0, z1), (2, z0)] σ = js_J E d 155 126 [(2, x0), (0, x1)] [(0, v)] σ2 :=
  j_call (m := 0) (js_caV q_155_123 (js_Mo qy_155 qm_3_106)) (js_agV (av := [(0, z1)]) (st := []) rfl rfl (hC_z0 _).1 rfl) rfl rfl (by rw [ql_157]; exact Nat.le_of_ble_eq_true rfl) (Nat.le_of_ble_eq_true rfl) hd hz
theorem kt_155_123 {E : js_E} {d : Nat} {σ σ2 : js_S} {x0 x1 z0 z1 oz0 : Int} (hC_z0 : js_isC E.1 z0 oz0) {w : Int} (hd : 1 ≤ d) (hz : js_J E (d - 1) 157 0 [(2, z0), (0, z1)] [] σ = js_t E w σ2) : js_J E d 155 123 [(2, x0), (0, x1)] [(0, z1), (2, z0)] σ = js_t E w σ2 :=
  j_callT (m := 0) (js_caV q_155_123 (js_Mo qy_155 qm_3_106)) (js_agV (av := [(0, z1)]) (st := []) rfl rfl (hC_z0 _).1 rfl) rfl rfl (by rw [ql_157]; exact Nat.le_of_ble_eq_true rfl) (Nat.le_of_ble_eq_true rfl) hd rfl hz
theorem b_155_126 {E : js_E} {d : Nat} {σ : js_S} {x0 x1 z0 : Int} : js_J E d 155 126 [(2, x0), (0, x1)] [(0, z0)] σ = js_r E (0, z0) σ :=
  j_ireturn q_155_126 qr_155
theorem b_155_127 {E : js_E} {d : Nat} {σ : js_S} {x0 x1 ox0 : Int} (hd : 4 ≤ d) (hC_x0 : js_isC E.1 x0 ox0) : js_J E d 155 127 [(2, x0), (0, x1)] [] σ = js_r E (0, 0) (js_up σ x0 0 (if js_l (σ x0 1) < js_l (σ x0 0) then (σ x0 1) else (σ x0 0))) :=
  (j_aload_n q_155_127 rfl).trans <| (j_aload_n q_155_128 rfl).trans <| (j_get (ji := 0) (v := (1, σ x0 0)) q_155_129 (js_Fo qy_155 qf_3_23) (hC_x0 _).1 rfl rfl rfl rfl).trans <| (j_aload_n q_155_132 rfl).trans <| (j_get (ji := 1) (v := (1, σ x0 1)) q_155_133 (js_Fo qy_155 qf_3_26) (hC_x0 _).1 rfl rfl rfl rfl).trans <| (j_lmin (js_clS q_155_136 (js_Mo qy_155 qm_3_83)) (Nat.le_of_ble_eq_true rfl) hd).trans <| (j_putL (ji := 0) q_155_139 (js_Fo qy_155 qf_3_23) rfl (hC_x0 _).1 rfl rfl rfl).trans <| (j_iconst q_155_142).trans <| j_ireturn q_155_143 qr_155
theorem b_155_144 {E : js_E} {d : Nat} {σ : js_S} {x0 x1 ox0 : Int} (hd : 4 ≤ d) (hC_x0 : js_isC E.1 x0 ox0) : js_J E d 155 144 [(2, x0), (0, x1)] [] σ = js_r E (0, 0) (js_up σ x0 0 (if js_l (σ x0 1) < js_l (σ x0 0) then (σ x0 0) else (σ x0 1))) :=
  (j_aload_n q_155_144 rfl).trans <| (j_aload_n q_155_145 rfl).trans <| (j_get (ji := 0) (v := (1, σ x0 0)) q_155_146 (js_Fo qy_155 qf_3_23) (hC_x0 _).1 rfl rfl rfl rfl).trans <| (j_aload_n q_155_149 rfl).trans <| (j_get (ji := 1) (v := (1, σ x0 1)) q_155_150 (js_Fo qy_155 qf_3_26) (hC_x0 _).1 rfl rfl rfl rfl).trans <| (j_lmax (js_clS q_155_153 (js_Mo qy_155 qm_3_80)) (Nat.le_of_ble_eq_true rfl) hd).trans <| (j_putL (ji := 0) q_155_156 (js_Fo qy_155 qf_3_23) rfl (hC_x0 _).1 rfl rfl rfl).trans <| (j_iconst q_155_159).trans <| j_ireturn q_155_160 qr_155
theorem b_155_161 {E : js_E} {d : Nat} {σ : js_S} {x0 x1 ox0 : Int} (hC_x0 : js_isC E.1 x0 ox0) : js_J E d 155 161 [(2, x0), (0, x1)] [] σ = js_r E (0, 0) (js_up σ x0 0 (-(σ x0 0))) :=
  (j_aload_n q_155_161 rfl).trans <| (j_aload_n q_155_162 rfl).trans <| (j_get (ji := 0) (v := (1, σ x0 0)) q_155_163 (js_Fo qy_155 qf_3_23) (hC_x0 _).1 rfl rfl rfl rfl).trans <| (j_lneg q_155_166).trans <| (j_putL (ji := 0) q_155_167 (js_Fo qy_155 qf_3_23) rfl (hC_x0 _).1 rfl rfl rfl).trans <| (j_iconst q_155_170).trans <| j_ireturn q_155_171 qr_155
theorem b_155_172 {E : js_E} {d : Nat} {σ : js_S} {x0 x1 ox0 : Int} (hC_x0 : js_isC E.1 x0 ox0) : js_J E d 155 172 [(2, x0), (0, x1)] [] σ = (if js_l (σ x0 0) < 0 then js_J E d 155 194 [(2, x0), (0, x1)] [(1, -(σ x0 0)), (2, x0)] σ else js_J E d 155 194 [(2, x0), (0, x1)] [(1, σ x0 0), (2, x0)] σ) :=
  (j_aload_n q_155_172 rfl).trans <| (j_aload_n q_155_173 rfl).trans <| (j_get (ji := 0) (v := (1, σ x0 0)) q_155_174 (js_Fo qy_155 qf_3_23) (hC_x0 _).1 rfl rfl rfl rfl).trans <| (j_lconst0 q_155_177).trans <| (j_lgeB (t := 190) q_155_178 q_155_179 rfl wl_0).trans (js_ite ((j_aload_n q_155_182 rfl).trans <| (j_get (ji := 0) (v := (1, σ x0 0)) q_155_183 (js_Fo qy_155 qf_3_23) (hC_x0 _).1 rfl rfl rfl rfl).trans <| (j_lneg q_155_186).trans <| (j_goto (t := 194) q_155_187 rfl).trans <| rfl) ((j_aload_n q_155_190 rfl).trans <| (j_get (ji := 0) (v := (1, σ x0 0)) q_155_191 (js_Fo qy_155 qf_3_23) (hC_x0 _).1 rfl rfl rfl rfl).trans <| rfl))
theorem b_155_194 {E : js_E} {d : Nat} {σ : js_S} {x0 x1 z0 z1 oz0 : Int} (hC_z0 : js_isC E.1 z0 oz0) : js_J E d 155 194 [(2, x0), (0, x1)] [(1, z1), (2, z0)] σ = js_r E (0, 0) (js_up σ z0 0 z1) :=
  (j_putL (ji := 0) q_155_194 (js_Fo qy_155 qf_3_23) rfl (hC_z0 _).1 rfl rfl rfl).trans <| (j_iconst q_155_197).trans <| j_ireturn q_155_198 qr_155
theorem b_155_199 {E : js_E} {d : Nat} {σ : js_S} {x0 x1 : Int} : js_J E d 155 199 [(2, x0), (0, x1)] [] σ = js_J E d 155 202 [(2, x0), (0, x1)] [(0, x1), (2, x0), (2, x0)] σ :=
  (j_aload_n q_155_199 rfl).trans <| (j_aload_n q_155_200 rfl).trans <| (j_iload_n q_155_201 rfl).trans <| rfl
theorem k_155_202 {E : js_E} {d : Nat} {σ σ2 : js_S} {x0 x1 z0 z1 z2 oz1 : Int} (hC_z1 : js_isC E.1 z1 oz1) {v : Int} (hd : 1 ≤ d) (hz : js_J E (d - 1) 158 0 [(2, z1), (0, z2)] [] σ = js_r E (0, v) σ2) : js_J E d 155 202 [(2, x0), (0, x1)] [(0, z2), (2, z1), (2, z0)] σ = js_J E d 155 205 [(2, x0), (0, x1)] [(0, v), (2, z0)] σ2 :=
  j_call (m := 0) (js_caV q_155_202 (js_Mo qy_155 qm_3_110)) (js_agV (av := [(0, z2)]) (st := [(2, z0)]) rfl rfl (hC_z1 _).1 rfl) rfl rfl (by rw [ql_158]; exact Nat.le_of_ble_eq_true rfl) (Nat.le_of_ble_eq_true rfl) hd hz
theorem kt_155_202 {E : js_E} {d : Nat} {σ σ2 : js_S} {x0 x1 z0 z1 z2 oz1 : Int} (hC_z1 : js_isC E.1 z1 oz1) {w : Int} (hd : 1 ≤ d) (hz : js_J E (d - 1) 158 0 [(2, z1), (0, z2)] [] σ = js_t E w σ2) : js_J E d 155 202 [(2, x0), (0, x1)] [(0, z2), (2, z1), (2, z0)] σ = js_t E w σ2 :=
  j_callT (m := 0) (js_caV q_155_202 (js_Mo qy_155 qm_3_110)) (js_agV (av := [(0, z2)]) (st := [(2, z0)]) rfl rfl (hC_z1 _).1 rfl) rfl rfl (by rw [ql_158]; exact Nat.le_of_ble_eq_true rfl) (Nat.le_of_ble_eq_true rfl) hd rfl hz
theorem b_155_205 {E : js_E} {d : Nat} {σ : js_S} {x0 x1 z0 z1 ox0 : Int} (hC_x0 : js_isC E.1 x0 ox0) : js_J E d 155 205 [(2, x0), (0, x1)] [(0, z1), (2, z0)] σ = (if js_w z1 = 0 then js_J E d 155 216 [(2, x0), (0, x1)] [(1, 0), (2, z0)] σ else js_J E d 155 216 [(2, x0), (0, x1)] [(1, ox0), (2, z0)] σ) :=
  (j_ifeq (t := 215) q_155_205 rfl).trans (js_ite ((j_lconst0 q_155_215).trans <| rfl) ((j_aload_n q_155_208 rfl).trans <| (j_get (ji := 4) (v := (1, ox0)) q_155_209 (js_Fo qy_155 qf_3_19) (hC_x0 _).1 rfl rfl rfl rfl).trans <| (j_goto (t := 216) q_155_212 rfl).trans <| rfl))
theorem b_155_216 {E : js_E} {d : Nat} {σ : js_S} {x0 x1 z0 z1 oz0 : Int} (hC_z0 : js_isC E.1 z0 oz0) : js_J E d 155 216 [(2, x0), (0, x1)] [(1, z1), (2, z0)] σ = js_r E (0, 0) (js_up σ z0 0 z1) :=
  (j_putL (ji := 0) q_155_216 (js_Fo qy_155 qf_3_23) rfl (hC_z0 _).1 rfl rfl rfl).trans <| (j_iconst q_155_219).trans <| j_ireturn q_155_220 qr_155
-- 156: VitalTwin$Copy.multiply ()I
theorem b_156_0 {E : js_E} {d : Nat} {σ : js_S} {x0 ox0 : Int} (hC_x0 : js_isC E.1 x0 ox0) : js_J E d 156 0 [(2, x0), (9, 0), (9, 0)] [] σ = (if js_l ox0 = 0 then js_r E (0, 2) σ else (if js_l ox0 = 0 then none else (if js_l ((js_l ((σ x0 0) * (σ x0 1))).tmod (js_l ox0)) = 0 then (if js_l ox0 = 0 then none else js_r E (0, 0) (js_up σ x0 0 ((js_l ((σ x0 0) * (σ x0 1))).tdiv (js_l ox0)))) else js_r E (0, 2) σ))) :=
  (j_aload_n q_156_0 rfl).trans <| (j_get (ji := 0) (v := (1, σ x0 0)) q_156_1 (js_Fo qy_156 qf_3_23) (hC_x0 _).1 rfl rfl rfl rfl).trans <| (j_aload_n q_156_4 rfl).trans <| (j_get (ji := 1) (v := (1, σ x0 1)) q_156_5 (js_Fo qy_156 qf_3_26) (hC_x0 _).1 rfl rfl rfl rfl).trans <| (j_lmul q_156_8).trans <| (j_lstore_n (l2 := [(2, x0), (1, (σ x0 0) * (σ x0 1)), (9, 0)]) q_156_9 rfl (Nat.le_of_ble_eq_true rfl)).trans <| (j_aload_n q_156_10 rfl).trans <| (j_get (ji := 4) (v := (1, ox0)) q_156_11 (js_Fo qy_156 qf_3_19) (hC_x0 _).1 rfl rfl rfl rfl).trans <| (j_lconst0 q_156_14).trans <| (j_leqB (t := 30) q_156_15 q_156_16 rfl wl_0).trans (js_ite ((j_iconst q_156_30).trans <| j_ireturn q_156_31 qr_156) ((j_lload_n q_156_19 rfl).trans <| (j_aload_n q_156_20 rfl).trans <| (j_get (ji := 4) (v := (1, ox0)) q_156_21 (js_Fo qy_156 qf_3_19) (hC_x0 _).1 rfl rfl rfl rfl).trans <| (j_lrem q_156_24).trans <| js_ite rfl <| (j_lconst0 q_156_25).trans <| (j_leqB (t := 32) q_156_26 q_156_27 rfl wl_0).trans (js_ite ((j_aload_n q_156_32 rfl).trans <| (j_lload_n q_156_33 rfl).trans <| (j_aload_n q_156_34 rfl).trans <| (j_get (ji := 4) (v := (1, ox0)) q_156_35 (js_Fo qy_156 qf_3_19) (hC_x0 _).1 rfl rfl rfl rfl).trans <| (j_ldiv q_156_38).trans <| js_ite rfl <| (j_putL (ji := 0) q_156_39 (js_Fo qy_156 qf_3_23) rfl (hC_x0 _).1 rfl rfl rfl).trans <| (j_iconst q_156_42).trans <| j_ireturn q_156_43 qr_156) ((j_iconst q_156_30).trans <| j_ireturn q_156_31 qr_156))))
-- 157: VitalTwin$Copy.divide (Z)I
theorem b_157_0 {E : js_E} {d : Nat} {σ : js_S} {x0 x1 ox0 : Int} (hC_x0 : js_isC E.1 x0 ox0) : js_J E d 157 0 [(2, x0), (0, x1)] [] σ = (if js_l (σ x0 1) = 0 then js_r E (0, 2) σ else (if js_w x1 = 0 then (if js_l (σ x0 1) = 0 then none else js_J E d 157 42 [(2, x0), (0, x1)] [(1, (js_l (σ x0 0)).tmod (js_l (σ x0 1))), (2, x0)] σ) else (if js_l (σ x0 1) = 0 then none else js_J E d 157 42 [(2, x0), (0, x1)] [(1, ox0 * ((js_l (σ x0 0)).tdiv (js_l (σ x0 1)))), (2, x0)] σ))) :=
  (j_aload_n q_157_0 rfl).trans <| (j_get (ji := 1) (v := (1, σ x0 1)) q_157_1 (js_Fo qy_157 qf_3_26) (hC_x0 _).1 rfl rfl rfl rfl).trans <| (j_lconst0 q_157_4).trans <| (j_lneB (t := 11) q_157_5 q_157_6 rfl wl_0).trans (js_ite ((j_iconst q_157_9).trans <| j_ireturn q_157_10 qr_157) ((j_aload_n q_157_11 rfl).trans <| (j_iload_n q_157_12 rfl).trans <| (j_ifeq (t := 33) q_157_13 rfl).trans (js_ite ((j_aload_n q_157_33 rfl).trans <| (j_get (ji := 0) (v := (1, σ x0 0)) q_157_34 (js_Fo qy_157 qf_3_23) (hC_x0 _).1 rfl rfl rfl rfl).trans <| (j_aload_n q_157_37 rfl).trans <| (j_get (ji := 1) (v := (1, σ x0 1)) q_157_38 (js_Fo qy_157 qf_3_26) (hC_x0 _).1 rfl rfl rfl rfl).trans <| (j_lrem q_157_41).trans <| js_ite rfl <| rfl) ((j_aload_n q_157_16 rfl).trans <| (j_get (ji := 4) (v := (1, ox0)) q_157_17 (js_Fo qy_157 qf_3_19) (hC_x0 _).1 rfl rfl rfl rfl).trans <| (j_aload_n q_157_20 rfl).trans <| (j_get (ji := 0) (v := (1, σ x0 0)) q_157_21 (js_Fo qy_157 qf_3_23) (hC_x0 _).1 rfl rfl rfl rfl).trans <| (j_aload_n q_157_24 rfl).trans <| (j_get (ji := 1) (v := (1, σ x0 1)) q_157_25 (js_Fo qy_157 qf_3_26) (hC_x0 _).1 rfl rfl rfl rfl).trans <| (j_ldiv q_157_28).trans <| js_ite rfl <| (j_lmul q_157_29).trans <| (j_goto (t := 42) q_157_30 rfl).trans <| rfl))))
theorem b_157_42 {E : js_E} {d : Nat} {σ : js_S} {x0 x1 z0 z1 oz0 : Int} (hC_z0 : js_isC E.1 z0 oz0) : js_J E d 157 42 [(2, x0), (0, x1)] [(1, z1), (2, z0)] σ = js_r E (0, 0) (js_up σ z0 0 z1) :=
  (j_putL (ji := 0) q_157_42 (js_Fo qy_157 qf_3_23) rfl (hC_z0 _).1 rfl rfl rfl).trans <| (j_iconst q_157_45).trans <| j_ireturn q_157_46 qr_157
-- 158: VitalTwin$Copy.isTrue (I)Z
theorem b_158_0 {E : js_E} {d : Nat} {σ : js_S} {x0 x1 : Int} : js_J E d 158 0 [(2, x0), (0, x1)] [] σ = js_J E d 158 1 [(2, x0), (0, x1)] [(0, x1)] σ :=
  (j_iload_n q_158_0 rfl).trans <| rfl
theorem s_158_1_13 {E : js_E} {d : Nat} {σ : js_S} {x0 x1 z0 : Int} (h : js_w z0 = 13) : js_J E d 158 1 [(2, x0), (0, x1)] [(0, z0)] σ = js_J E d 158 40 [(2, x0), (0, x1)] [] σ :=
  j_tsw (t := 40) (off := 39) q_158_1 (by rw [h]; decide) (by rw [h]; decide) (by rw [h]; rfl) rfl
theorem s_158_1_14 {E : js_E} {d : Nat} {σ : js_S} {x0 x1 z0 : Int} (h : js_w z0 = 14) : js_J E d 158 1 [(2, x0), (0, x1)] [(0, z0)] σ = js_J E d 158 58 [(2, x0), (0, x1)] [] σ :=
  j_tsw (t := 58) (off := 57) q_158_1 (by rw [h]; decide) (by rw [h]; decide) (by rw [h]; rfl) rfl
theorem s_158_1_15 {E : js_E} {d : Nat} {σ : js_S} {x0 x1 z0 : Int} (h : js_w z0 = 15) : js_J E d 158 1 [(2, x0), (0, x1)] [(0, z0)] σ = js_J E d 158 76 [(2, x0), (0, x1)] [] σ :=
  j_tsw (t := 76) (off := 75) q_158_1 (by rw [h]; decide) (by rw [h]; decide) (by rw [h]; rfl) rfl
theorem s_158_1_16 {E : js_E} {d : Nat} {σ : js_S} {x0 x1 z0 : Int} (h : js_w z0 = 16) : js_J E d 158 1 [(2, x0), (0, x1)] [(0, z0)] σ = js_J E d 158 94 [(2, x0), (0, x1)] [] σ :=
  j_tsw (t := 94) (off := 93) q_158_1 (by rw [h]; decide) (by rw [h]; decide) (by rw [h]; rfl) rfl
theorem s_158_1_17 {E : js_E} {d : Nat} {σ : js_S} {x0 x1 z0 : Int} (h : js_w z0 = 17) : js_J E d 158 1 [(2, x0), (0, x1)] [(0, z0)] σ = js_J E d 158 112 [(2, x0), (0, x1)] [] σ :=
  j_tsw (t := 112) (off := 111) q_158_1 (by rw [h]; decide) (by rw [h]; decide) (by rw [h]; rfl) rfl
theorem s_158_1_18 {E : js_E} {d : Nat} {σ : js_S} {x0 x1 z0 : Int} (h : js_w z0 = 18) : js_J E d 158 1 [(2, x0), (0, x1)] [(0, z0)] σ = js_J E d 158 130 [(2, x0), (0, x1)] [] σ :=
  j_tsw (t := 130) (off := 129) q_158_1 (by rw [h]; decide) (by rw [h]; decide) (by rw [h]; rfl) rfl
theorem s_158_1_d {E : js_E} {d : Nat} {σ : js_S} {x0 x1 z0 : Int} (h : js_w z0 < 13 ∨ 18 < js_w z0) : js_J E d 158 1 [(2, x0), (0, x1)] [(0, z0)] σ = js_J E d 158 148 [(2, x0), (0, x1)] [] σ :=
  j_tswd (t := 148) q_158_1 h rfl
theorem b_158_40 {E : js_E} {d : Nat} {σ : js_S} {x0 x1 ox0 : Int} (hC_x0 : js_isC E.1 x0 ox0) : js_J E d 158 40 [(2, x0), (0, x1)] [] σ = (if js_l (σ x0 0) < js_l (σ x0 1) then js_r E (0, 1) σ else js_r E (0, 0) σ) :=
  (j_aload_n q_158_40 rfl).trans <| (j_get (ji := 0) (v := (1, σ x0 0)) q_158_41 (js_Fo qy_158 qf_3_23) (hC_x0 _).1 rfl rfl rfl rfl).trans <| (j_aload_n q_158_44 rfl).trans <| (j_get (ji := 1) (v := (1, σ x0 1)) q_158_45 (js_Fo qy_158 qf_3_26) (hC_x0 _).1 rfl rfl rfl rfl).trans <| (j_lge (t := 56) q_158_48 q_158_49 rfl).trans (js_ite ((j_iconst q_158_52).trans <| (j_goto (t := 57) q_158_53 rfl).trans <| j_breturn1 q_158_57 qr_158) ((j_iconst q_158_56).trans <| j_breturn0 q_158_57 qr_158))
theorem b_158_58 {E : js_E} {d : Nat} {σ : js_S} {x0 x1 ox0 : Int} (hC_x0 : js_isC E.1 x0 ox0) : js_J E d 158 58 [(2, x0), (0, x1)] [] σ = (if js_l (σ x0 1) < js_l (σ x0 0) then js_r E (0, 0) σ else js_r E (0, 1) σ) :=
  (j_aload_n q_158_58 rfl).trans <| (j_get (ji := 0) (v := (1, σ x0 0)) q_158_59 (js_Fo qy_158 qf_3_23) (hC_x0 _).1 rfl rfl rfl rfl).trans <| (j_aload_n q_158_62 rfl).trans <| (j_get (ji := 1) (v := (1, σ x0 1)) q_158_63 (js_Fo qy_158 qf_3_26) (hC_x0 _).1 rfl rfl rfl rfl).trans <| (j_lgt (t := 74) q_158_66 q_158_67 rfl).trans (js_ite ((j_iconst q_158_74).trans <| j_breturn0 q_158_75 qr_158) ((j_iconst q_158_70).trans <| (j_goto (t := 75) q_158_71 rfl).trans <| j_breturn1 q_158_75 qr_158))
theorem b_158_76 {E : js_E} {d : Nat} {σ : js_S} {x0 x1 ox0 : Int} (hC_x0 : js_isC E.1 x0 ox0) : js_J E d 158 76 [(2, x0), (0, x1)] [] σ = (if js_l (σ x0 1) < js_l (σ x0 0) then js_r E (0, 1) σ else js_r E (0, 0) σ) :=
  (j_aload_n q_158_76 rfl).trans <| (j_get (ji := 0) (v := (1, σ x0 0)) q_158_77 (js_Fo qy_158 qf_3_23) (hC_x0 _).1 rfl rfl rfl rfl).trans <| (j_aload_n q_158_80 rfl).trans <| (j_get (ji := 1) (v := (1, σ x0 1)) q_158_81 (js_Fo qy_158 qf_3_26) (hC_x0 _).1 rfl rfl rfl rfl).trans <| (j_lle (t := 92) q_158_84 q_158_85 rfl).trans (js_ite ((j_iconst q_158_88).trans <| (j_goto (t := 93) q_158_89 rfl).trans <| j_breturn1 q_158_93 qr_158) ((j_iconst q_158_92).trans <| j_breturn0 q_158_93 qr_158))
theorem b_158_94 {E : js_E} {d : Nat} {σ : js_S} {x0 x1 ox0 : Int} (hC_x0 : js_isC E.1 x0 ox0) : js_J E d 158 94 [(2, x0), (0, x1)] [] σ = (if js_l (σ x0 0) < js_l (σ x0 1) then js_r E (0, 0) σ else js_r E (0, 1) σ) :=
  (j_aload_n q_158_94 rfl).trans <| (j_get (ji := 0) (v := (1, σ x0 0)) q_158_95 (js_Fo qy_158 qf_3_23) (hC_x0 _).1 rfl rfl rfl rfl).trans <| (j_aload_n q_158_98 rfl).trans <| (j_get (ji := 1) (v := (1, σ x0 1)) q_158_99 (js_Fo qy_158 qf_3_26) (hC_x0 _).1 rfl rfl rfl rfl).trans <| (j_llt (t := 110) q_158_102 q_158_103 rfl).trans (js_ite ((j_iconst q_158_110).trans <| j_breturn0 q_158_111 qr_158) ((j_iconst q_158_106).trans <| (j_goto (t := 111) q_158_107 rfl).trans <| j_breturn1 q_158_111 qr_158))
theorem b_158_112 {E : js_E} {d : Nat} {σ : js_S} {x0 x1 ox0 : Int} (hC_x0 : js_isC E.1 x0 ox0) : js_J E d 158 112 [(2, x0), (0, x1)] [] σ = (if js_l (σ x0 0) = js_l (σ x0 1) then js_r E (0, 1) σ else js_r E (0, 0) σ) :=
  (j_aload_n q_158_112 rfl).trans <| (j_get (ji := 0) (v := (1, σ x0 0)) q_158_113 (js_Fo qy_158 qf_3_23) (hC_x0 _).1 rfl rfl rfl rfl).trans <| (j_aload_n q_158_116 rfl).trans <| (j_get (ji := 1) (v := (1, σ x0 1)) q_158_117 (js_Fo qy_158 qf_3_26) (hC_x0 _).1 rfl rfl rfl rfl).trans <| (j_lne (t := 128) q_158_120 q_158_121 rfl).trans (js_ite ((j_iconst q_158_124).trans <| (j_goto (t := 129) q_158_125 rfl).trans <| j_breturn1 q_158_129 qr_158) ((j_iconst q_158_128).trans <| j_breturn0 q_158_129 qr_158))
theorem b_158_130 {E : js_E} {d : Nat} {σ : js_S} {x0 x1 ox0 : Int} (hC_x0 : js_isC E.1 x0 ox0) : js_J E d 158 130 [(2, x0), (0, x1)] [] σ = (if js_l (σ x0 0) = js_l (σ x0 1) then js_r E (0, 0) σ else js_r E (0, 1) σ) :=
  (j_aload_n q_158_130 rfl).trans <| (j_get (ji := 0) (v := (1, σ x0 0)) q_158_131 (js_Fo qy_158 qf_3_23) (hC_x0 _).1 rfl rfl rfl rfl).trans <| (j_aload_n q_158_134 rfl).trans <| (j_get (ji := 1) (v := (1, σ x0 1)) q_158_135 (js_Fo qy_158 qf_3_26) (hC_x0 _).1 rfl rfl rfl rfl).trans <| (j_leq (t := 146) q_158_138 q_158_139 rfl).trans (js_ite ((j_iconst q_158_146).trans <| j_breturn0 q_158_147 qr_158) ((j_iconst q_158_142).trans <| (j_goto (t := 147) q_158_143 rfl).trans <| j_breturn1 q_158_147 qr_158))
theorem b_158_148 {E : js_E} {d : Nat} {σ : js_S} {x0 x1 ox0 : Int} (hC_x0 : js_isC E.1 x0 ox0) : js_J E d 158 148 [(2, x0), (0, x1)] [] σ = (if js_l (σ x0 0) = 0 then js_r E (0, 1) σ else js_r E (0, 0) σ) :=
  (j_aload_n q_158_148 rfl).trans <| (j_get (ji := 0) (v := (1, σ x0 0)) q_158_149 (js_Fo qy_158 qf_3_23) (hC_x0 _).1 rfl rfl rfl rfl).trans <| (j_lconst0 q_158_152).trans <| (j_lneB (t := 161) q_158_153 q_158_154 rfl wl_0).trans (js_ite ((j_iconst q_158_157).trans <| (j_goto (t := 162) q_158_158 rfl).trans <| j_breturn1 q_158_162 qr_158) ((j_iconst q_158_161).trans <| j_breturn0 q_158_162 qr_158))
-- 159: VitalTwin$Run.end (I)V
theorem b_159_0 {E : js_E} {d : Nat} {σ : js_S} {x1 r : Int} (hr : r = 0 ∨ r = 7 ∨ r = 14) : js_J E d 159 0 [(2, 58 + r), (0, x1)] [] σ = js_r0 E (js_up (js_up (js_up σ (58 + r) 2 x1) (58 + r) 0 0) (58 + r) 1 0) :=
  (j_aload_n q_159_0 rfl).trans <| (j_iload_n q_159_1 rfl).trans <| (j_putI (ji := 2) q_159_2 (js_Fo qy_159 qf_9_35) rfl (js_o58r hr) rfl rfl rfl).trans <| (j_aload_n q_159_5 rfl).trans <| (j_iconst q_159_6).trans <| (j_putI (ji := 0) q_159_7 (js_Fo qy_159 qf_9_25) rfl (js_o58r hr) rfl rfl rfl).trans <| (j_aload_n q_159_10 rfl).trans <| (j_iconst q_159_11).trans <| (j_putI (ji := 1) q_159_12 (js_Fo qy_159 qf_9_29) rfl (js_o58r hr) rfl rfl rfl).trans <| j_return q_159_15 qr_159
-- 160: VitalTwin$Run.agrees (LVitalTwin$Program;)Z
theorem b_160_0 {E : js_E} {d : Nat} {σ : js_S} {b r : Int} : js_J E d 160 0 [(2, 58 + r), (2, 7 + b), (9, 0), (9, 0)] [] σ = js_J E d 160 2 [(2, 58 + r), (2, 7 + b), (0, 0), (9, 0)] [] σ :=
  (j_iconst q_160_0).trans <| (j_istore_n (l2 := [(2, 58 + r), (2, 7 + b), (0, 0), (9, 0)]) q_160_1 rfl (Nat.le_of_ble_eq_true rfl)).trans <| rfl
theorem b_160_2 {E : js_E} {d : Nat} {σ : js_S} {x2 b r : Int} {ux3 : js_v} (hb : b = 0 ∨ b = 25) : js_J E d 160 2 [(2, 58 + r), (2, 7 + b), (0, x2), ux3] [] σ = (if js_w x2 < js_w (σ (7 + b) 1) then js_J E d 160 12 [(2, 58 + r), (2, 7 + b), (0, x2), ux3] [(0, x2), (2, 7 + b)] σ else js_r E (0, 1) σ) :=
  (j_iload_n q_160_2 rfl).trans <| (j_aload_n q_160_3 rfl).trans <| (j_get (ji := 1) (v := (0, σ (7 + b) 1)) q_160_4 (js_Fo qy_160 qf_9_79) (js_o7b hb) rfl rfl rfl rfl).trans <| (j_cmpge (t := 44) q_160_7 rfl).trans (js_ite ((j_aload_n q_160_10 rfl).trans <| (j_iload_n q_160_11 rfl).trans <| rfl) ((j_iconst q_160_44).trans <| j_breturn1 q_160_45 qr_160))
theorem k_160_12 {E : js_E} {d : Nat} {σ σ2 : js_S} {x2 z1 b r : Int} {ux3 : js_v} (hb : b = 0 ∨ b = 25) {v : Int} (hd : 1 ≤ d) (hz : js_J E (d - 1) 67 0 [(2, 7 + b), (0, z1)] [] σ = js_r E (2, v) σ2) : js_J E d 160 12 [(2, 58 + r), (2, 7 + b), (0, x2), ux3] [(0, z1), (2, 7 + b)] σ = js_J E d 160 15 [(2, 58 + r), (2, 7 + b), (0, x2), ux3] [(2, v)] σ2 :=
  j_call (m := 0) (js_caV q_160_12 (js_Mo qy_160 qm_9_82)) (js_agV (av := [(0, z1)]) (st := []) rfl rfl (js_o7b hb) rfl) rfl rfl (by rw [ql_67]; exact Nat.le_of_ble_eq_true rfl) (Nat.le_of_ble_eq_true rfl) hd hz
theorem kt_160_12 {E : js_E} {d : Nat} {σ σ2 : js_S} {x2 z1 b r : Int} {ux3 : js_v} (hb : b = 0 ∨ b = 25) {w : Int} (hd : 1 ≤ d) (hz : js_J E (d - 1) 67 0 [(2, 7 + b), (0, z1)] [] σ = js_t E w σ2) : js_J E d 160 12 [(2, 58 + r), (2, 7 + b), (0, x2), ux3] [(0, z1), (2, 7 + b)] σ = js_t E w σ2 :=
  j_callT (m := 0) (js_caV q_160_12 (js_Mo qy_160 qm_9_82)) (js_agV (av := [(0, z1)]) (st := []) rfl rfl (js_o7b hb) rfl) rfl rfl (by rw [ql_67]; exact Nat.le_of_ble_eq_true rfl) (Nat.le_of_ble_eq_true rfl) hd rfl hz
theorem b_160_15 {E : js_E} {d : Nat} {σ : js_S} {x2 z0 b r : Int} {ux3 : js_v} : js_J E d 160 15 [(2, 58 + r), (2, 7 + b), (0, x2), ux3] [(2, z0)] σ = (if z0 < 0 then js_J E d 160 38 [(2, 58 + r), (2, 7 + b), (0, x2), (2, z0)] [] σ else js_J E d 160 20 [(2, 58 + r), (2, 7 + b), (0, x2), (2, z0)] [] σ) :=
  (j_astore_n (l2 := [(2, 58 + r), (2, 7 + b), (0, x2), (2, z0)]) q_160_15 rfl (Nat.le_of_ble_eq_true rfl)).trans <| (j_aload_n q_160_16 rfl).trans <| (j_ifnull (t := 38) q_160_17 rfl).trans (js_ite (rfl) (rfl))
theorem b_160_20 {E : js_E} {d : Nat} {σ : js_S} {x2 x3 b r : Int} (hs_x3 : js_desc E.1 σ x3 = some (0, 11, js_sym)) : js_J E d 160 20 [(2, 58 + r), (2, 7 + b), (0, x2), (2, x3)] [] σ = (if js_w (σ x3 1) = 2 then js_J E d 160 30 [(2, 58 + r), (2, 7 + b), (0, x2), (2, x3)] [(2, x3), (2, 58 + r)] σ else js_J E d 160 38 [(2, 58 + r), (2, 7 + b), (0, x2), (2, x3)] [] σ) :=
  (j_aload_n q_160_20 rfl).trans <| (j_get (ji := 1) (v := (0, σ x3 1)) q_160_21 (js_Fo qy_160 qf_9_86) hs_x3 rfl rfl rfl rfl).trans <| (j_iconst q_160_24).trans <| (j_cmpneB (t := 38) q_160_25 rfl ww_2).trans (js_ite ((j_aload_n q_160_28 rfl).trans <| (j_aload_n q_160_29 rfl).trans <| rfl) (rfl))
theorem k_160_30 {E : js_E} {d : Nat} {σ σ2 : js_S} {x2 x3 z1 b r : Int} (hr : r = 0 ∨ r = 7 ∨ r = 14) {v : Int} (hd : 1 ≤ d) (hz : js_J E (d - 1) 161 0 [(2, 58 + r), (2, z1), (9, 0), (9, 0), (9, 0)] [] σ = js_r E (0, v) σ2) : js_J E d 160 30 [(2, 58 + r), (2, 7 + b), (0, x2), (2, x3)] [(2, z1), (2, 58 + r)] σ = js_J E d 160 33 [(2, 58 + r), (2, 7 + b), (0, x2), (2, x3)] [(0, v)] σ2 :=
  j_call (m := 3) (js_caV q_160_30 (js_Mo qy_160 qm_9_91)) (js_agV (av := [(2, z1)]) (st := []) rfl rfl (js_o58r hr) rfl) rfl rfl (by rw [ql_161]; exact Nat.le_of_ble_eq_true rfl) (Nat.le_of_ble_eq_true rfl) hd hz
theorem kt_160_30 {E : js_E} {d : Nat} {σ σ2 : js_S} {x2 x3 z1 b r : Int} (hr : r = 0 ∨ r = 7 ∨ r = 14) {w : Int} (hd : 1 ≤ d) (hz : js_J E (d - 1) 161 0 [(2, 58 + r), (2, z1), (9, 0), (9, 0), (9, 0)] [] σ = js_t E w σ2) : js_J E d 160 30 [(2, 58 + r), (2, 7 + b), (0, x2), (2, x3)] [(2, z1), (2, 58 + r)] σ = js_t E w σ2 :=
  j_callT (m := 3) (js_caV q_160_30 (js_Mo qy_160 qm_9_91)) (js_agV (av := [(2, z1)]) (st := []) rfl rfl (js_o58r hr) rfl) rfl rfl (by rw [ql_161]; exact Nat.le_of_ble_eq_true rfl) (Nat.le_of_ble_eq_true rfl) hd rfl hz
theorem b_160_33 {E : js_E} {d : Nat} {σ : js_S} {x2 x3 z0 b r : Int} : js_J E d 160 33 [(2, 58 + r), (2, 7 + b), (0, x2), (2, x3)] [(0, z0)] σ = (if js_w z0 = 0 then js_r E (0, 0) σ else js_J E d 160 38 [(2, 58 + r), (2, 7 + b), (0, x2), (2, x3)] [] σ) :=
  (j_ifne (t := 38) q_160_33 rfl).trans (js_ite ((j_iconst q_160_36).trans <| j_breturn0 q_160_37 qr_160) (rfl))
theorem b_160_38 {E : js_E} {d : Nat} {σ : js_S} {x2 x3 b r : Int} : js_J E d 160 38 [(2, 58 + r), (2, 7 + b), (0, x2), (2, x3)] [] σ = js_J E d 160 2 [(2, 58 + r), (2, 7 + b), (0, x2 + 1), (2, x3)] [] σ :=
  (j_iinc (l2 := [(2, 58 + r), (2, 7 + b), (0, x2 + 1), (2, x3)]) q_160_38 rfl rfl).trans <| (j_goto (t := 2) q_160_41 rfl).trans <| rfl
-- 161: VitalTwin$Run.agreesAbout (LVitalTwin$Symbol;)Z
theorem b_161_0 {E : js_E} {d : Nat} {σ : js_S} {x1 r : Int} (hs_x1 : js_desc E.1 σ x1 = some (0, 11, js_sym)) : js_J E d 161 0 [(2, 58 + r), (2, x1), (9, 0), (9, 0), (9, 0)] [] σ = js_J E d 161 5 [(2, 58 + r), (2, x1), (0, σ x1 5), (9, 0), (9, 0)] [] σ :=
  (j_aload_n q_161_0 rfl).trans <| (j_get (ji := 5) (v := (0, σ x1 5)) q_161_1 (js_Fo qy_161 qf_9_95) hs_x1 rfl rfl rfl rfl).trans <| (j_istore_n (l2 := [(2, 58 + r), (2, x1), (0, σ x1 5), (9, 0), (9, 0)]) q_161_4 rfl (Nat.le_of_ble_eq_true rfl)).trans <| rfl
theorem b_161_5 {E : js_E} {d : Nat} {σ : js_S} {x1 x2 r : Int} {ux3 : js_v} (hs_x1 : js_desc E.1 σ x1 = some (0, 11, js_sym)) (hr : r = 0 ∨ r = 7 ∨ r = 14) : js_J E d 161 5 [(2, 58 + r), (2, x1), (0, x2), ux3, (9, 0)] [] σ = (if js_w x2 < js_w ((σ x1 5) + (σ x1 6)) then js_J E d 161 23 [(2, 58 + r), (2, x1), (0, x2), ux3, (9, 0)] [(0, x2), (2, 59 + r)] σ else js_r E (0, 1) σ) :=
  (j_iload_n q_161_5 rfl).trans <| (j_aload_n q_161_6 rfl).trans <| (j_get (ji := 5) (v := (0, σ x1 5)) q_161_7 (js_Fo qy_161 qf_9_95) hs_x1 rfl rfl rfl rfl).trans <| (j_aload_n q_161_10 rfl).trans <| (j_get (ji := 6) (v := (0, σ x1 6)) q_161_11 (js_Fo qy_161 qf_9_98) hs_x1 rfl rfl rfl rfl).trans <| (j_iadd q_161_14).trans <| (j_cmpge (t := 72) q_161_15 rfl).trans (js_ite ((j_aload_n q_161_18 rfl).trans <| (j_get (ji := 4) (v := (2, 59 + r)) q_161_19 (js_Fo qy_161 qf_9_14) (js_o58r hr) rfl rfl rfl rfl).trans <| (j_iload_n q_161_22 rfl).trans <| rfl) ((j_iconst q_161_72).trans <| j_breturn1 q_161_73 qr_161))
theorem k_161_23 {E : js_E} {d : Nat} {σ σ2 : js_S} {x1 x2 z1 r : Int} {ux3 : js_v} (hr : r = 0 ∨ r = 7 ∨ r = 14) {v : Int} (hd : 1 ≤ d) (hz : js_J E (d - 1) 148 0 [(2, 59 + r), (0, z1)] [] σ = js_r E (1, v) σ2) : js_J E d 161 23 [(2, 58 + r), (2, x1), (0, x2), ux3, (9, 0)] [(0, z1), (2, 59 + r)] σ = js_J E d 161 26 [(2, 58 + r), (2, x1), (0, x2), ux3, (9, 0)] [(1, v)] σ2 :=
  j_call (m := 0) (js_caV q_161_23 (js_Mo qy_161 qm_9_101)) (js_agV (av := [(0, z1)]) (st := []) rfl rfl (js_o59r hr) rfl) rfl rfl (by rw [ql_148]; exact Nat.le_of_ble_eq_true rfl) (Nat.le_of_ble_eq_true rfl) hd hz
theorem kt_161_23 {E : js_E} {d : Nat} {σ σ2 : js_S} {x1 x2 z1 r : Int} {ux3 : js_v} (hr : r = 0 ∨ r = 7 ∨ r = 14) {w : Int} (hd : 1 ≤ d) (hz : js_J E (d - 1) 148 0 [(2, 59 + r), (0, z1)] [] σ = js_t E w σ2) : js_J E d 161 23 [(2, 58 + r), (2, x1), (0, x2), ux3, (9, 0)] [(0, z1), (2, 59 + r)] σ = js_t E w σ2 :=
  j_callT (m := 0) (js_caV q_161_23 (js_Mo qy_161 qm_9_101)) (js_agV (av := [(0, z1)]) (st := []) rfl rfl (js_o59r hr) rfl) rfl rfl (by rw [ql_148]; exact Nat.le_of_ble_eq_true rfl) (Nat.le_of_ble_eq_true rfl) hd rfl hz
theorem b_161_26 {E : js_E} {d : Nat} {σ : js_S} {x1 x2 z0 r : Int} {ux3 : js_v} (hs_x1 : js_desc E.1 σ x1 = some (0, 11, js_sym)) (hr : r = 0 ∨ r = 7 ∨ r = 14) : js_J E d 161 26 [(2, 58 + r), (2, x1), (0, x2), ux3, (9, 0)] [(1, z0)] σ = (if js_l z0 < js_l (js_w (σ x1 3)) then js_r E (0, 0) σ else (if js_l (js_w (σ x1 4)) < js_l z0 then js_r E (0, 0) σ else js_J E d 161 52 [(2, 58 + r), (2, x1), (0, x2), (1, z0), (9, 0)] [(0, x2), (2, 62 + r)] σ)) :=
  (j_lstore_n (l2 := [(2, 58 + r), (2, x1), (0, x2), (1, z0), (9, 0)]) q_161_26 rfl (Nat.le_of_ble_eq_true rfl)).trans <| (j_lload_n q_161_27 rfl).trans <| (j_aload_n q_161_28 rfl).trans <| (j_get (ji := 3) (v := (0, σ x1 3)) q_161_29 (js_Fo qy_161 qf_9_105) hs_x1 rfl rfl rfl rfl).trans <| (j_i2l q_161_32).trans <| (j_llt (t := 64) q_161_33 q_161_34 rfl).trans (js_ite ((j_iconst q_161_64).trans <| j_breturn0 q_161_65 qr_161) ((j_lload_n q_161_37 rfl).trans <| (j_aload_n q_161_38 rfl).trans <| (j_get (ji := 4) (v := (0, σ x1 4)) q_161_39 (js_Fo qy_161 qf_9_108) hs_x1 rfl rfl rfl rfl).trans <| (j_i2l q_161_42).trans <| (j_lgt (t := 64) q_161_43 q_161_44 rfl).trans (js_ite ((j_iconst q_161_64).trans <| j_breturn0 q_161_65 qr_161) ((j_aload_n q_161_47 rfl).trans <| (j_get (ji := 5) (v := (2, 62 + r)) q_161_48 (js_Fo qy_161 qf_9_22) (js_o58r hr) rfl rfl rfl rfl).trans <| (j_iload_n q_161_51 rfl).trans <| rfl))))
theorem k_161_52 {E : js_E} {d : Nat} {σ σ2 : js_S} {x1 x2 x3 z1 r : Int} (hr : r = 0 ∨ r = 7 ∨ r = 14) {v : Int} (hd : 1 ≤ d) (hz : js_J E (d - 1) 148 0 [(2, 62 + r), (0, z1)] [] σ = js_r E (1, v) σ2) : js_J E d 161 52 [(2, 58 + r), (2, x1), (0, x2), (1, x3), (9, 0)] [(0, z1), (2, 62 + r)] σ = js_J E d 161 55 [(2, 58 + r), (2, x1), (0, x2), (1, x3), (9, 0)] [(1, v)] σ2 :=
  j_call (m := 0) (js_caV q_161_52 (js_Mo qy_161 qm_9_101)) (js_agV (av := [(0, z1)]) (st := []) rfl rfl (js_o62r hr) rfl) rfl rfl (by rw [ql_148]; exact Nat.le_of_ble_eq_true rfl) (Nat.le_of_ble_eq_true rfl) hd hz
theorem kt_161_52 {E : js_E} {d : Nat} {σ σ2 : js_S} {x1 x2 x3 z1 r : Int} (hr : r = 0 ∨ r = 7 ∨ r = 14) {w : Int} (hd : 1 ≤ d) (hz : js_J E (d - 1) 148 0 [(2, 62 + r), (0, z1)] [] σ = js_t E w σ2) : js_J E d 161 52 [(2, 58 + r), (2, x1), (0, x2), (1, x3), (9, 0)] [(0, z1), (2, 62 + r)] σ = js_t E w σ2 :=
  j_callT (m := 0) (js_caV q_161_52 (js_Mo qy_161 qm_9_101)) (js_agV (av := [(0, z1)]) (st := []) rfl rfl (js_o62r hr) rfl) rfl rfl (by rw [ql_148]; exact Nat.le_of_ble_eq_true rfl) (Nat.le_of_ble_eq_true rfl) hd rfl hz
theorem b_161_55 {E : js_E} {d : Nat} {σ : js_S} {x1 x2 x3 z0 r : Int} : js_J E d 161 55 [(2, 58 + r), (2, x1), (0, x2), (1, x3), (9, 0)] [(1, z0)] σ = (if js_l z0 = js_l (58659 * x3) then js_J E d 161 5 [(2, 58 + r), (2, x1), (0, x2 + 1), (1, x3), (9, 0)] [] σ else js_r E (0, 0) σ) :=
  (j_ldc2 (v := (1, 58659)) q_161_55 (js_Co qy_161 qc_9_20)).trans <| (j_lload_n q_161_58 rfl).trans <| (j_lmul q_161_59).trans <| (j_leq (t := 66) q_161_60 q_161_61 rfl).trans (js_ite ((j_iinc (l2 := [(2, 58 + r), (2, x1), (0, x2 + 1), (1, x3), (9, 0)]) q_161_66 rfl rfl).trans <| (j_goto (t := 5) q_161_69 rfl).trans <| rfl) ((j_iconst q_161_64).trans <| j_breturn0 q_161_65 qr_161))
-- 162: VitalTwin$Run.finish (LVitalTwin$Program;)V
theorem b_162_0 {E : js_E} {d : Nat} {σ : js_S} {b r : Int} : js_J E d 162 0 [(2, 58 + r), (2, 7 + b), (9, 0)] [] σ = js_J E d 162 2 [(2, 58 + r), (2, 7 + b), (0, 0)] [] σ :=
  (j_iconst q_162_0).trans <| (j_istore_n (l2 := [(2, 58 + r), (2, 7 + b), (0, 0)]) q_162_1 rfl (Nat.le_of_ble_eq_true rfl)).trans <| rfl
theorem b_162_2 {E : js_E} {d : Nat} {σ : js_S} {x2 b r : Int} (hr : r = 0 ∨ r = 7 ∨ r = 14) : js_J E d 162 2 [(2, 58 + r), (2, 7 + b), (0, x2)] [] σ = (if js_w x2 < 1000000 then (if js_w (σ (58 + r) 0) = 0 then js_r0 E σ else js_J E d 162 17 [(2, 58 + r), (2, 7 + b), (0, x2)] [(2, 7 + b), (2, 58 + r)] σ) else js_r0 E σ) :=
  (j_iload_n q_162_2 rfl).trans <| (j_ldc (v := (0, 1000000)) q_162_3 (js_Co qy_162 qc_9_111)).trans <| (j_cmpgeB (t := 26) q_162_5 rfl ww_1000000).trans (js_ite ((j_aload_n q_162_8 rfl).trans <| (j_get (ji := 0) (v := (0, σ (58 + r) 0)) q_162_9 (js_Fo qy_162 qf_9_25) (js_o58r hr) rfl rfl rfl rfl).trans <| (j_ifeq (t := 26) q_162_12 rfl).trans (js_ite (j_return q_162_26 qr_162) ((j_aload_n q_162_15 rfl).trans <| (j_aload_n q_162_16 rfl).trans <| rfl))) (j_return q_162_26 qr_162))
theorem k_162_17 {E : js_E} {d : Nat} {σ σ2 : js_S} {x2 b r : Int} (hr : r = 0 ∨ r = 7 ∨ r = 14) (hd : 1 ≤ d) (hz : js_J E (d - 1) 145 0 [(2, 58 + r), (2, 7 + b), (9, 0)] [] σ = js_r0 E σ2) : js_J E d 162 17 [(2, 58 + r), (2, 7 + b), (0, x2)] [(2, 7 + b), (2, 58 + r)] σ = js_J E d 162 20 [(2, 58 + r), (2, 7 + b), (0, x2)] [] σ2 :=
  j_call0 (m := 1) (js_caV q_162_17 (js_Mo qy_162 qm_9_112)) (js_agV (av := [(2, 7 + b)]) (st := []) rfl rfl (js_o58r hr) rfl) rfl rfl (by rw [ql_145]; exact Nat.le_of_ble_eq_true rfl) (Nat.le_of_ble_eq_true rfl) hd hz
theorem kt_162_17 {E : js_E} {d : Nat} {σ σ2 : js_S} {x2 b r : Int} (hr : r = 0 ∨ r = 7 ∨ r = 14) {w : Int} (hd : 1 ≤ d) (hz : js_J E (d - 1) 145 0 [(2, 58 + r), (2, 7 + b), (9, 0)] [] σ = js_t E w σ2) : js_J E d 162 17 [(2, 58 + r), (2, 7 + b), (0, x2)] [(2, 7 + b), (2, 58 + r)] σ = js_t E w σ2 :=
  j_callT (m := 1) (js_caV q_162_17 (js_Mo qy_162 qm_9_112)) (js_agV (av := [(2, 7 + b)]) (st := []) rfl rfl (js_o58r hr) rfl) rfl rfl (by rw [ql_145]; exact Nat.le_of_ble_eq_true rfl) (Nat.le_of_ble_eq_true rfl) hd rfl hz
theorem b_162_20 {E : js_E} {d : Nat} {σ : js_S} {x2 b r : Int} : js_J E d 162 20 [(2, 58 + r), (2, 7 + b), (0, x2)] [] σ = js_J E d 162 2 [(2, 58 + r), (2, 7 + b), (0, x2 + 1)] [] σ :=
  (j_iinc (l2 := [(2, 58 + r), (2, 7 + b), (0, x2 + 1)]) q_162_20 rfl rfl).trans <| (j_goto (t := 2) q_162_23 rfl).trans <| rfl
-- 163: VitalTwin$Machine.copyOuts (LVitalTwin$Run;[II)V
theorem b_163_0 {E : js_E} {d : Nat} {σ : js_S} {x2 x3 q : Int} : js_J E d 163 0 [(2, 56), (2, 58 + q), (2, x2), (0, x3), (9, 0), (9, 0), (9, 0), (9, 0)] [] σ = js_J E d 163 6 [(2, 56), (2, 58 + q), (2, x2), (0, x3), (0, x3), (0, 0), (9, 0), (9, 0)] [] σ :=
  (j_iload_n q_163_0 rfl).trans <| (j_istore (l2 := [(2, 56), (2, 58 + q), (2, x2), (0, x3), (0, x3), (9, 0), (9, 0), (9, 0)]) q_163_1 rfl (Nat.le_of_ble_eq_true rfl)).trans <| (j_iconst q_163_3).trans <| (j_istore (l2 := [(2, 56), (2, 58 + q), (2, x2), (0, x3), (0, x3), (0, 0), (9, 0), (9, 0)]) q_163_4 rfl (Nat.le_of_ble_eq_true rfl)).trans <| rfl
theorem b_163_6 {E : js_E} {d : Nat} {σ : js_S} {x2 x3 x4 x5 b q : Int} {ux6 ux7 : js_v} (hb : b = 0 ∨ b = 25) (hp : σ 56 1 = 7 + b) : js_J E d 163 6 [(2, 56), (2, 58 + q), (2, x2), (0, x3), (0, x4), (0, x5), ux6, ux7] [] σ = (if js_w x5 < js_w (σ (7 + b) 1) then js_J E d 163 24 [(2, 56), (2, 58 + q), (2, x2), (0, x3), (0, x4), (0, x5), ux6, ux7] [(0, x5), (2, 7 + b)] σ else js_r0 E σ) :=
  (j_iload q_163_6 rfl).trans <| (j_aload_n q_163_8 rfl).trans <| (j_get (ji := 1) (v := (2, 7 + b)) q_163_9 (js_Fo qy_163 qf_6_39) js_o56 rfl rfl rfl (congrArg (Prod.mk 2) hp)).trans <| (j_get (ji := 1) (v := (0, σ (7 + b) 1)) q_163_12 (js_Fo qy_163 qf_6_47) (js_o7b hb) rfl rfl rfl rfl).trans <| (j_cmpge (t := 103) q_163_15 rfl).trans (js_ite ((j_aload_n q_163_18 rfl).trans <| (j_get (ji := 1) (v := (2, 7 + b)) q_163_19 (js_Fo qy_163 qf_6_39) js_o56 rfl rfl rfl (congrArg (Prod.mk 2) hp)).trans <| (j_iload q_163_22 rfl).trans <| rfl) (j_return q_163_103 qr_163))
theorem k_163_24 {E : js_E} {d : Nat} {σ σ2 : js_S} {x2 x3 x4 x5 z1 b q : Int} {ux6 ux7 : js_v} (hb : b = 0 ∨ b = 25) {v : Int} (hd : 1 ≤ d) (hz : js_J E (d - 1) 67 0 [(2, 7 + b), (0, z1)] [] σ = js_r E (2, v) σ2) : js_J E d 163 24 [(2, 56), (2, 58 + q), (2, x2), (0, x3), (0, x4), (0, x5), ux6, ux7] [(0, z1), (2, 7 + b)] σ = js_J E d 163 27 [(2, 56), (2, 58 + q), (2, x2), (0, x3), (0, x4), (0, x5), ux6, ux7] [(2, v)] σ2 :=
  j_call (m := 0) (js_caV q_163_24 (js_Mo qy_163 qm_6_53)) (js_agV (av := [(0, z1)]) (st := []) rfl rfl (js_o7b hb) rfl) rfl rfl (by rw [ql_67]; exact Nat.le_of_ble_eq_true rfl) (Nat.le_of_ble_eq_true rfl) hd hz
theorem kt_163_24 {E : js_E} {d : Nat} {σ σ2 : js_S} {x2 x3 x4 x5 z1 b q : Int} {ux6 ux7 : js_v} (hb : b = 0 ∨ b = 25) {w : Int} (hd : 1 ≤ d) (hz : js_J E (d - 1) 67 0 [(2, 7 + b), (0, z1)] [] σ = js_t E w σ2) : js_J E d 163 24 [(2, 56), (2, 58 + q), (2, x2), (0, x3), (0, x4), (0, x5), ux6, ux7] [(0, z1), (2, 7 + b)] σ = js_t E w σ2 :=
  j_callT (m := 0) (js_caV q_163_24 (js_Mo qy_163 qm_6_53)) (js_agV (av := [(0, z1)]) (st := []) rfl rfl (js_o7b hb) rfl) rfl rfl (by rw [ql_67]; exact Nat.le_of_ble_eq_true rfl) (Nat.le_of_ble_eq_true rfl) hd rfl hz
theorem b_163_27 {E : js_E} {d : Nat} {σ : js_S} {x2 x3 x4 x5 z0 q : Int} {ux6 ux7 : js_v} : js_J E d 163 27 [(2, 56), (2, 58 + q), (2, x2), (0, x3), (0, x4), (0, x5), ux6, ux7] [(2, z0)] σ = (if z0 < 0 then js_J E d 163 97 [(2, 56), (2, 58 + q), (2, x2), (0, x3), (0, x4), (0, x5), (2, z0), ux7] [] σ else js_J E d 163 34 [(2, 56), (2, 58 + q), (2, x2), (0, x3), (0, x4), (0, x5), (2, z0), ux7] [] σ) :=
  (j_astore (l2 := [(2, 56), (2, 58 + q), (2, x2), (0, x3), (0, x4), (0, x5), (2, z0), ux7]) q_163_27 rfl (Nat.le_of_ble_eq_true rfl)).trans <| (j_aload q_163_29 rfl).trans <| (j_ifnull (t := 97) q_163_31 rfl).trans (js_ite (rfl) (rfl))
theorem b_163_34 {E : js_E} {d : Nat} {σ : js_S} {x2 x3 x4 x5 x6 q : Int} {ux7 : js_v} (hs_x6 : js_desc E.1 σ x6 = some (0, 11, js_sym)) : js_J E d 163 34 [(2, 56), (2, 58 + q), (2, x2), (0, x3), (0, x4), (0, x5), (2, x6), ux7] [] σ = (if js_w (σ x6 1) = 2 then js_J E d 163 50 [(2, 56), (2, 58 + q), (2, x2), (0, x3), (0, x4), (0, x5), (2, x6), (0, σ x6 5)] [] σ else js_J E d 163 97 [(2, 56), (2, 58 + q), (2, x2), (0, x3), (0, x4), (0, x5), (2, x6), ux7] [] σ) :=
  (j_aload q_163_34 rfl).trans <| (j_get (ji := 1) (v := (0, σ x6 1)) q_163_36 (js_Fo qy_163 qf_6_57) hs_x6 rfl rfl rfl rfl).trans <| (j_iconst q_163_39).trans <| (j_cmpneB (t := 97) q_163_40 rfl ww_2).trans (js_ite ((j_aload q_163_43 rfl).trans <| (j_get (ji := 5) (v := (0, σ x6 5)) q_163_45 (js_Fo qy_163 qf_6_68) hs_x6 rfl rfl rfl rfl).trans <| (j_istore (l2 := [(2, 56), (2, 58 + q), (2, x2), (0, x3), (0, x4), (0, x5), (2, x6), (0, σ x6 5)]) q_163_48 rfl (Nat.le_of_ble_eq_true rfl)).trans <| rfl) (rfl))
theorem b_163_50 {E : js_E} {d : Nat} {σ : js_S} {x2 x3 x4 x5 x6 x7 q nx2 : Int} (hs_x6 : js_desc E.1 σ x6 = some (0, 11, js_sym)) (hA_x2 : ∀ σ : js_S, js_desc E.1 σ x2 = some (1, nx2, [])) (h0nx2 : 0 ≤ nx2) : js_J E d 163 50 [(2, 56), (2, 58 + q), (2, x2), (0, x3), (0, x4), (0, x5), (2, x6), (0, x7)] [] σ = (if js_w x7 < js_w ((σ x6 5) + (σ x6 6)) then (if js_w x4 < js_w nx2 then js_J E d 163 78 [(2, 56), (2, 58 + q), (2, x2), (0, x3), (0, x4), (0, x5), (2, x6), (0, x7)] [(0, 0), (2, 58 + q), (0, x4), (2, x2)] σ else js_J E d 163 97 [(2, 56), (2, 58 + q), (2, x2), (0, x3), (0, x4), (0, x5), (2, x6), (0, x7)] [] σ) else js_J E d 163 97 [(2, 56), (2, 58 + q), (2, x2), (0, x3), (0, x4), (0, x5), (2, x6), (0, x7)] [] σ) :=
  (j_iload q_163_50 rfl).trans <| (j_aload q_163_52 rfl).trans <| (j_get (ji := 5) (v := (0, σ x6 5)) q_163_54 (js_Fo qy_163 qf_6_68) hs_x6 rfl rfl rfl rfl).trans <| (j_aload q_163_57 rfl).trans <| (j_get (ji := 6) (v := (0, σ x6 6)) q_163_59 (js_Fo qy_163 qf_6_71) hs_x6 rfl rfl rfl rfl).trans <| (j_iadd q_163_62).trans <| (j_cmpge (t := 97) q_163_63 rfl).trans (js_ite ((j_iload q_163_66 rfl).trans <| (j_aload_n q_163_68 rfl).trans <| (j_alen q_163_69 (hA_x2 _) (by decide) h0nx2).trans <| (j_cmpge (t := 97) q_163_70 rfl).trans (js_ite ((j_aload_n q_163_73 rfl).trans <| (j_iload q_163_74 rfl).trans <| (j_aload_n q_163_76 rfl).trans <| (j_iconst q_163_77).trans <| rfl) (rfl))) (rfl))
theorem k_163_78 {E : js_E} {d : Nat} {σ σ2 : js_S} {x2 x3 x4 x5 x6 x7 z0 z1 z3 q : Int} (hq : q = 0 ∨ q = 7 ∨ q = 14) {v : Int} (hd : 1 ≤ d) (hz : js_J E (d - 1) 146 0 [(2, 58 + q), (0, z3)] [] σ = js_r E (2, v) σ2) : js_J E d 163 78 [(2, 56), (2, 58 + q), (2, x2), (0, x3), (0, x4), (0, x5), (2, x6), (0, x7)] [(0, z3), (2, 58 + q), (0, z1), (2, z0)] σ = js_J E d 163 81 [(2, 56), (2, 58 + q), (2, x2), (0, x3), (0, x4), (0, x5), (2, x6), (0, x7)] [(2, v), (0, z1), (2, z0)] σ2 :=
  j_call (m := 0) (js_caV q_163_78 (js_Mo qy_163 qm_6_135)) (js_agV (av := [(0, z3)]) (st := [(0, z1), (2, z0)]) rfl rfl (js_o58r hq) rfl) rfl rfl (by rw [ql_146]; exact Nat.le_of_ble_eq_true rfl) (Nat.le_of_ble_eq_true rfl) hd hz
theorem kt_163_78 {E : js_E} {d : Nat} {σ σ2 : js_S} {x2 x3 x4 x5 x6 x7 z0 z1 z3 q : Int} (hq : q = 0 ∨ q = 7 ∨ q = 14) {w : Int} (hd : 1 ≤ d) (hz : js_J E (d - 1) 146 0 [(2, 58 + q), (0, z3)] [] σ = js_t E w σ2) : js_J E d 163 78 [(2, 56), (2, 58 + q), (2, x2), (0, x3), (0, x4), (0, x5), (2, x6), (0, x7)] [(0, z3), (2, 58 + q), (0, z1), (2, z0)] σ = js_t E w σ2 :=
  j_callT (m := 0) (js_caV q_163_78 (js_Mo qy_163 qm_6_135)) (js_agV (av := [(0, z3)]) (st := [(0, z1), (2, z0)]) rfl rfl (js_o58r hq) rfl) rfl rfl (by rw [ql_146]; exact Nat.le_of_ble_eq_true rfl) (Nat.le_of_ble_eq_true rfl) hd rfl hz
theorem b_163_81 {E : js_E} {d : Nat} {σ : js_S} {x2 x3 x4 x5 x6 x7 z0 z1 z2 q : Int} : js_J E d 163 81 [(2, 56), (2, 58 + q), (2, x2), (0, x3), (0, x4), (0, x5), (2, x6), (0, x7)] [(2, z2), (0, z1), (2, z0)] σ = js_J E d 163 83 [(2, 56), (2, 58 + q), (2, x2), (0, x3), (0, x4), (0, x5), (2, x6), (0, x7)] [(0, x7), (2, z2), (0, z1), (2, z0)] σ :=
  (j_iload q_163_81 rfl).trans <| rfl
theorem k_163_83 {E : js_E} {d : Nat} {σ σ2 : js_S} {x2 x3 x4 x5 x6 x7 z0 z1 z2 z3 q oz2 : Int} (hC_z2 : js_isC E.1 z2 oz2) {v : Int} (hd : 1 ≤ d) (hz : js_J E (d - 1) 148 0 [(2, z2), (0, z3)] [] σ = js_r E (1, v) σ2) : js_J E d 163 83 [(2, 56), (2, 58 + q), (2, x2), (0, x3), (0, x4), (0, x5), (2, x6), (0, x7)] [(0, z3), (2, z2), (0, z1), (2, z0)] σ = js_J E d 163 86 [(2, 56), (2, 58 + q), (2, x2), (0, x3), (0, x4), (0, x5), (2, x6), (0, x7)] [(1, v), (0, z1), (2, z0)] σ2 :=
  j_call (m := 0) (js_caV q_163_83 (js_Mo qy_163 qm_6_154)) (js_agV (av := [(0, z3)]) (st := [(0, z1), (2, z0)]) rfl rfl (hC_z2 _).1 rfl) rfl rfl (by rw [ql_148]; exact Nat.le_of_ble_eq_true rfl) (Nat.le_of_ble_eq_true rfl) hd hz
theorem kt_163_83 {E : js_E} {d : Nat} {σ σ2 : js_S} {x2 x3 x4 x5 x6 x7 z0 z1 z2 z3 q oz2 : Int} (hC_z2 : js_isC E.1 z2 oz2) {w : Int} (hd : 1 ≤ d) (hz : js_J E (d - 1) 148 0 [(2, z2), (0, z3)] [] σ = js_t E w σ2) : js_J E d 163 83 [(2, 56), (2, 58 + q), (2, x2), (0, x3), (0, x4), (0, x5), (2, x6), (0, x7)] [(0, z3), (2, z2), (0, z1), (2, z0)] σ = js_t E w σ2 :=
  j_callT (m := 0) (js_caV q_163_83 (js_Mo qy_163 qm_6_154)) (js_agV (av := [(0, z3)]) (st := [(0, z1), (2, z0)]) rfl rfl (hC_z2 _).1 rfl) rfl rfl (by rw [ql_148]; exact Nat.le_of_ble_eq_true rfl) (Nat.le_of_ble_eq_true rfl) hd rfl hz
theorem b_163_86 {E : js_E} {d : Nat} {σ : js_S} {x2 x3 x4 x5 x6 x7 z0 z1 z2 q nz0 : Int} (hA_z0 : ∀ σ : js_S, js_desc E.1 σ z0 = some (1, nz0, [])) : js_J E d 163 86 [(2, 56), (2, 58 + q), (2, x2), (0, x3), (0, x4), (0, x5), (2, x6), (0, x7)] [(1, z2), (0, z1), (2, z0)] σ = (if 0 ≤ js_w z1 ∧ js_w z1 < nz0 then js_J E d 163 50 [(2, 56), (2, 58 + q), (2, x2), (0, x3), (0, x4 + 1), (0, x5), (2, x6), (0, x7 + 1)] [] (js_up σ z0 (js_w z1) z2) else none) :=
  (j_l2i q_163_86).trans <| (j_iastore q_163_87 (hA_z0 _)).trans <| js_itp fun g0 => (j_iinc (l2 := [(2, 56), (2, 58 + q), (2, x2), (0, x3), (0, x4 + 1), (0, x5), (2, x6), (0, x7)]) q_163_88 rfl rfl).trans <| (j_iinc (l2 := [(2, 56), (2, 58 + q), (2, x2), (0, x3), (0, x4 + 1), (0, x5), (2, x6), (0, x7 + 1)]) q_163_91 rfl rfl).trans <| (j_goto (t := 50) q_163_94 rfl).trans <| rfl
theorem b_163_97 {E : js_E} {d : Nat} {σ : js_S} {x2 x3 x4 x5 x6 q : Int} {ux7 : js_v} : js_J E d 163 97 [(2, 56), (2, 58 + q), (2, x2), (0, x3), (0, x4), (0, x5), (2, x6), ux7] [] σ = js_J E d 163 6 [(2, 56), (2, 58 + q), (2, x2), (0, x3), (0, x4), (0, x5 + 1), (2, x6), ux7] [] σ :=
  (j_iinc (l2 := [(2, 56), (2, 58 + q), (2, x2), (0, x3), (0, x4), (0, x5 + 1), (2, x6), ux7]) q_163_97 rfl rfl).trans <| (j_goto (t := 6) q_163_100 rfl).trans <| rfl
-- 164: VitalTwin$Copy.turn (II)V
theorem b_164_0 {E : js_E} {d : Nat} {σ : js_S} {x0 x1 x2 ox0 : Int} (hC_x0 : js_isC E.1 x0 ox0) : js_J E d 164 0 [(2, x0), (0, x1), (0, x2), (9, 0), (9, 0)] [] σ = (if js_w x1 = (-1) then js_J E d 164 53 [(2, x0), (0, x1), (0, x2), (1, js_lshl 1 x2), (9, 0)] [] (js_up σ x0 0 (js_lxor (σ x0 0) (js_lshl 1 x2))) else (if js_w x1 = (-2) then js_J E d 164 53 [(2, x0), (0, x1), (0, x2), (1, js_lshl 1 x2), (9, 0)] [] (js_up σ x0 1 (js_lxor (σ x0 1) (js_lshl 1 x2))) else js_J E d 164 45 [(2, x0), (0, x1), (0, x2), (1, js_lshl 1 x2), (9, 0)] [(0, x1), (2, x0), (0, x1), (2, x0)] σ)) :=
  (j_lconst1 q_164_0).trans <| (j_iload_n q_164_1 rfl).trans <| (j_lshl q_164_2).trans <| (j_lstore_n (l2 := [(2, x0), (0, x1), (0, x2), (1, js_lshl 1 x2), (9, 0)]) q_164_3 rfl (Nat.le_of_ble_eq_true rfl)).trans <| (j_iload_n q_164_4 rfl).trans <| (j_iconst q_164_5).trans <| (j_cmpneB (t := 22) q_164_6 rfl ww_m1).trans (js_ite ((j_aload_n q_164_9 rfl).trans <| (j_dupr q_164_10).trans <| (j_get (ji := 0) (v := (1, σ x0 0)) q_164_11 (js_Fo qy_164 qf_3_23) (hC_x0 _).1 rfl rfl rfl rfl).trans <| (j_lload_n q_164_14 rfl).trans <| (j_lxor q_164_15).trans <| (j_putL (ji := 0) q_164_16 (js_Fo qy_164 qf_3_23) rfl (hC_x0 _).1 rfl rfl rfl).trans <| (j_goto (t := 53) q_164_19 rfl).trans <| rfl) ((j_iload_n q_164_22 rfl).trans <| (j_bi q_164_23 rfl).trans <| (j_cmpneB (t := 41) q_164_25 rfl ww_m2).trans (js_ite ((j_aload_n q_164_28 rfl).trans <| (j_dupr q_164_29).trans <| (j_get (ji := 1) (v := (1, σ x0 1)) q_164_30 (js_Fo qy_164 qf_3_26) (hC_x0 _).1 rfl rfl rfl rfl).trans <| (j_lload_n q_164_33 rfl).trans <| (j_lxor q_164_34).trans <| (j_putL (ji := 1) q_164_35 (js_Fo qy_164 qf_3_26) rfl (hC_x0 _).1 rfl rfl rfl).trans <| (j_goto (t := 53) q_164_38 rfl).trans <| rfl) ((j_aload_n q_164_41 rfl).trans <| (j_iload_n q_164_42 rfl).trans <| (j_aload_n q_164_43 rfl).trans <| (j_iload_n q_164_44 rfl).trans <| rfl))))
theorem k_164_45 {E : js_E} {d : Nat} {σ σ2 : js_S} {x0 x1 x2 x3 z0 z1 z2 z3 oz2 : Int} (hC_z2 : js_isC E.1 z2 oz2) {v : Int} (hd : 1 ≤ d) (hz : js_J E (d - 1) 148 0 [(2, z2), (0, z3)] [] σ = js_r E (1, v) σ2) : js_J E d 164 45 [(2, x0), (0, x1), (0, x2), (1, x3), (9, 0)] [(0, z3), (2, z2), (0, z1), (2, z0)] σ = js_J E d 164 48 [(2, x0), (0, x1), (0, x2), (1, x3), (9, 0)] [(1, v), (0, z1), (2, z0)] σ2 :=
  j_call (m := 0) (js_caV q_164_45 (js_Mo qy_164 qm_3_55)) (js_agV (av := [(0, z3)]) (st := [(0, z1), (2, z0)]) rfl rfl (hC_z2 _).1 rfl) rfl rfl (by rw [ql_148]; exact Nat.le_of_ble_eq_true rfl) (Nat.le_of_ble_eq_true rfl) hd hz
theorem kt_164_45 {E : js_E} {d : Nat} {σ σ2 : js_S} {x0 x1 x2 x3 z0 z1 z2 z3 oz2 : Int} (hC_z2 : js_isC E.1 z2 oz2) {w : Int} (hd : 1 ≤ d) (hz : js_J E (d - 1) 148 0 [(2, z2), (0, z3)] [] σ = js_t E w σ2) : js_J E d 164 45 [(2, x0), (0, x1), (0, x2), (1, x3), (9, 0)] [(0, z3), (2, z2), (0, z1), (2, z0)] σ = js_t E w σ2 :=
  j_callT (m := 0) (js_caV q_164_45 (js_Mo qy_164 qm_3_55)) (js_agV (av := [(0, z3)]) (st := [(0, z1), (2, z0)]) rfl rfl (hC_z2 _).1 rfl) rfl rfl (by rw [ql_148]; exact Nat.le_of_ble_eq_true rfl) (Nat.le_of_ble_eq_true rfl) hd rfl hz
theorem b_164_48 {E : js_E} {d : Nat} {σ : js_S} {x0 x1 x2 x3 z0 z1 z2 : Int} : js_J E d 164 48 [(2, x0), (0, x1), (0, x2), (1, x3), (9, 0)] [(1, z2), (0, z1), (2, z0)] σ = js_J E d 164 50 [(2, x0), (0, x1), (0, x2), (1, x3), (9, 0)] [(1, js_lxor z2 x3), (0, z1), (2, z0)] σ :=
  (j_lload_n q_164_48 rfl).trans <| (j_lxor q_164_49).trans <| rfl
theorem k_164_50 {E : js_E} {d : Nat} {σ σ2 : js_S} {x0 x1 x2 x3 z0 z1 z2 oz0 : Int} (hC_z0 : js_isC E.1 z0 oz0) (hd : 1 ≤ d) (hz : js_J E (d - 1) 122 0 [(2, z0), (0, z1), (1, z2), (9, 0)] [] σ = js_r0 E σ2) : js_J E d 164 50 [(2, x0), (0, x1), (0, x2), (1, x3), (9, 0)] [(1, z2), (0, z1), (2, z0)] σ = js_J E d 164 53 [(2, x0), (0, x1), (0, x2), (1, x3), (9, 0)] [] σ2 :=
  j_call0 (m := 0) (js_caV q_164_50 (js_Mo qy_164 qm_3_51)) (js_agV (av := [(0, z1), (1, z2)]) (st := []) rfl rfl (hC_z0 _).1 rfl) rfl rfl (by rw [ql_122]; exact Nat.le_of_ble_eq_true rfl) (Nat.le_of_ble_eq_true rfl) hd hz
theorem kt_164_50 {E : js_E} {d : Nat} {σ σ2 : js_S} {x0 x1 x2 x3 z0 z1 z2 oz0 : Int} (hC_z0 : js_isC E.1 z0 oz0) {w : Int} (hd : 1 ≤ d) (hz : js_J E (d - 1) 122 0 [(2, z0), (0, z1), (1, z2), (9, 0)] [] σ = js_t E w σ2) : js_J E d 164 50 [(2, x0), (0, x1), (0, x2), (1, x3), (9, 0)] [(1, z2), (0, z1), (2, z0)] σ = js_t E w σ2 :=
  j_callT (m := 0) (js_caV q_164_50 (js_Mo qy_164 qm_3_51)) (js_agV (av := [(0, z1), (1, z2)]) (st := []) rfl rfl (hC_z0 _).1 rfl) rfl rfl (by rw [ql_122]; exact Nat.le_of_ble_eq_true rfl) (Nat.le_of_ble_eq_true rfl) hd rfl hz
theorem b_164_53 {E : js_E} {d : Nat} {σ : js_S} {x0 x1 x2 x3 : Int} : js_J E d 164 53 [(2, x0), (0, x1), (0, x2), (1, x3), (9, 0)] [] σ = js_r0 E σ :=
  j_return q_164_53 qr_164
-- 165: VitalTwin$Machine.outcomeOfTrial ()I
theorem b_165_0 {E : js_E} {d : Nat} {σ : js_S} : js_J E d 165 0 [(2, 56), (9, 0), (9, 0), (9, 0), (9, 0)] [] σ = (if js_w (σ 65 2) = 4 then js_J E d 165 23 [(2, 56), (0, 0), (0, 0), (9, 0), (9, 0)] [] σ else js_r E (0, σ 65 2) σ) :=
  (j_aload_n q_165_0 rfl).trans <| (j_get (ji := 10) (v := (2, 65)) q_165_1 (js_Fo qy_165 qf_6_24) js_o56 rfl rfl rfl rfl).trans <| (j_get (ji := 2) (v := (0, σ 65 2)) q_165_4 (js_Fo qy_165 qf_6_144) js_o65 rfl rfl rfl rfl).trans <| (j_iconst q_165_7).trans <| (j_cmpeqB (t := 19) q_165_8 rfl ww_4).trans (js_ite ((j_iconst q_165_19).trans <| (j_istore_n (l2 := [(2, 56), (0, 0), (9, 0), (9, 0), (9, 0)]) q_165_20 rfl (Nat.le_of_ble_eq_true rfl)).trans <| (j_iconst q_165_21).trans <| (j_istore_n (l2 := [(2, 56), (0, 0), (0, 0), (9, 0), (9, 0)]) q_165_22 rfl (Nat.le_of_ble_eq_true rfl)).trans <| rfl) ((j_aload_n q_165_11 rfl).trans <| (j_get (ji := 10) (v := (2, 65)) q_165_12 (js_Fo qy_165 qf_6_24) js_o56 rfl rfl rfl rfl).trans <| (j_get (ji := 2) (v := (0, σ 65 2)) q_165_15 (js_Fo qy_165 qf_6_144) js_o65 rfl rfl rfl rfl).trans <| j_ireturn q_165_18 qr_165))
theorem b_165_23 {E : js_E} {d : Nat} {σ : js_S} {x1 x2 b : Int} {ux3 ux4 : js_v} (hb : b = 0 ∨ b = 25) (hp : σ 56 1 = 7 + b) : js_J E d 165 23 [(2, 56), (0, x1), (0, x2), ux3, ux4] [] σ = (if js_w x2 < js_w (σ (7 + b) 1) then js_J E d 165 39 [(2, 56), (0, x1), (0, x2), ux3, ux4] [(0, x2), (2, 7 + b)] σ else js_r E (0, 0) σ) :=
  (j_iload_n q_165_23 rfl).trans <| (j_aload_n q_165_24 rfl).trans <| (j_get (ji := 1) (v := (2, 7 + b)) q_165_25 (js_Fo qy_165 qf_6_39) js_o56 rfl rfl rfl (congrArg (Prod.mk 2) hp)).trans <| (j_get (ji := 1) (v := (0, σ (7 + b) 1)) q_165_28 (js_Fo qy_165 qf_6_47) (js_o7b hb) rfl rfl rfl rfl).trans <| (j_cmpge (t := 125) q_165_31 rfl).trans (js_ite ((j_aload_n q_165_34 rfl).trans <| (j_get (ji := 1) (v := (2, 7 + b)) q_165_35 (js_Fo qy_165 qf_6_39) js_o56 rfl rfl rfl (congrArg (Prod.mk 2) hp)).trans <| (j_iload_n q_165_38 rfl).trans <| rfl) ((j_iconst q_165_125).trans <| j_ireturn q_165_126 qr_165))
theorem k_165_39 {E : js_E} {d : Nat} {σ σ2 : js_S} {x1 x2 z1 b : Int} {ux3 ux4 : js_v} (hb : b = 0 ∨ b = 25) {v : Int} (hd : 1 ≤ d) (hz : js_J E (d - 1) 67 0 [(2, 7 + b), (0, z1)] [] σ = js_r E (2, v) σ2) : js_J E d 165 39 [(2, 56), (0, x1), (0, x2), ux3, ux4] [(0, z1), (2, 7 + b)] σ = js_J E d 165 42 [(2, 56), (0, x1), (0, x2), ux3, ux4] [(2, v)] σ2 :=
  j_call (m := 0) (js_caV q_165_39 (js_Mo qy_165 qm_6_53)) (js_agV (av := [(0, z1)]) (st := []) rfl rfl (js_o7b hb) rfl) rfl rfl (by rw [ql_67]; exact Nat.le_of_ble_eq_true rfl) (Nat.le_of_ble_eq_true rfl) hd hz
theorem kt_165_39 {E : js_E} {d : Nat} {σ σ2 : js_S} {x1 x2 z1 b : Int} {ux3 ux4 : js_v} (hb : b = 0 ∨ b = 25) {w : Int} (hd : 1 ≤ d) (hz : js_J E (d - 1) 67 0 [(2, 7 + b), (0, z1)] [] σ = js_t E w σ2) : js_J E d 165 39 [(2, 56), (0, x1), (0, x2), ux3, ux4] [(0, z1), (2, 7 + b)] σ = js_t E w σ2 :=
  j_callT (m := 0) (js_caV q_165_39 (js_Mo qy_165 qm_6_53)) (js_agV (av := [(0, z1)]) (st := []) rfl rfl (js_o7b hb) rfl) rfl rfl (by rw [ql_67]; exact Nat.le_of_ble_eq_true rfl) (Nat.le_of_ble_eq_true rfl) hd rfl hz
theorem b_165_42 {E : js_E} {d : Nat} {σ : js_S} {x1 x2 z0 : Int} {ux3 ux4 : js_v} : js_J E d 165 42 [(2, 56), (0, x1), (0, x2), ux3, ux4] [(2, z0)] σ = (if z0 < 0 then js_J E d 165 119 [(2, 56), (0, x1), (0, x2), (2, z0), ux4] [] σ else js_J E d 165 47 [(2, 56), (0, x1), (0, x2), (2, z0), ux4] [] σ) :=
  (j_astore_n (l2 := [(2, 56), (0, x1), (0, x2), (2, z0), ux4]) q_165_42 rfl (Nat.le_of_ble_eq_true rfl)).trans <| (j_aload_n q_165_43 rfl).trans <| (j_ifnull (t := 119) q_165_44 rfl).trans (js_ite (rfl) (rfl))
theorem b_165_47 {E : js_E} {d : Nat} {σ : js_S} {x1 x2 x3 : Int} {ux4 : js_v} (hs_x3 : js_desc E.1 σ x3 = some (0, 11, js_sym)) : js_J E d 165 47 [(2, 56), (0, x1), (0, x2), (2, x3), ux4] [] σ = (if js_w (σ x3 1) = 2 then js_J E d 165 61 [(2, 56), (0, x1), (0, x2), (2, x3), (0, σ x3 5)] [] σ else js_J E d 165 119 [(2, 56), (0, x1), (0, x2), (2, x3), ux4] [] σ) :=
  (j_aload_n q_165_47 rfl).trans <| (j_get (ji := 1) (v := (0, σ x3 1)) q_165_48 (js_Fo qy_165 qf_6_57) hs_x3 rfl rfl rfl rfl).trans <| (j_iconst q_165_51).trans <| (j_cmpneB (t := 119) q_165_52 rfl ww_2).trans (js_ite ((j_aload_n q_165_55 rfl).trans <| (j_get (ji := 5) (v := (0, σ x3 5)) q_165_56 (js_Fo qy_165 qf_6_68) hs_x3 rfl rfl rfl rfl).trans <| (j_istore (l2 := [(2, 56), (0, x1), (0, x2), (2, x3), (0, σ x3 5)]) q_165_59 rfl (Nat.le_of_ble_eq_true rfl)).trans <| rfl) (rfl))
theorem b_165_61 {E : js_E} {d : Nat} {σ : js_S} {x1 x2 x3 x4 : Int} (hs_x3 : js_desc E.1 σ x3 = some (0, 11, js_sym)) (hM : 0 ≤ E.1) : js_J E d 165 61 [(2, 56), (0, x1), (0, x2), (2, x3), (0, x4)] [] σ = (if js_w x4 < js_w ((σ x3 5) + (σ x3 6)) then (if js_w x1 < js_w E.1 then js_J E d 165 89 [(2, 56), (0, x1), (0, x2), (2, x3), (0, x4)] [(0, 0), (2, 65)] σ else js_J E d 165 119 [(2, 56), (0, x1), (0, x2), (2, x3), (0, x4)] [] σ) else js_J E d 165 119 [(2, 56), (0, x1), (0, x2), (2, x3), (0, x4)] [] σ) :=
  (j_iload q_165_61 rfl).trans <| (j_aload_n q_165_63 rfl).trans <| (j_get (ji := 5) (v := (0, σ x3 5)) q_165_64 (js_Fo qy_165 qf_6_68) hs_x3 rfl rfl rfl rfl).trans <| (j_aload_n q_165_67 rfl).trans <| (j_get (ji := 6) (v := (0, σ x3 6)) q_165_68 (js_Fo qy_165 qf_6_71) hs_x3 rfl rfl rfl rfl).trans <| (j_iadd q_165_71).trans <| (j_cmpge (t := 119) q_165_72 rfl).trans (js_ite ((j_iload_n q_165_75 rfl).trans <| (j_aload_n q_165_76 rfl).trans <| (j_get (ji := 12) (v := (2, 80)) q_165_77 (js_Fo qy_165 qf_6_33) js_o56 rfl rfl rfl rfl).trans <| (j_alen q_165_80 js_o80 (by decide) (by omega)).trans <| (j_cmpge (t := 119) q_165_81 rfl).trans (js_ite ((j_aload_n q_165_84 rfl).trans <| (j_get (ji := 10) (v := (2, 65)) q_165_85 (js_Fo qy_165 qf_6_24) js_o56 rfl rfl rfl rfl).trans <| (j_iconst q_165_88).trans <| rfl) (rfl))) (rfl))
theorem k_165_89 {E : js_E} {d : Nat} {σ σ2 : js_S} {x1 x2 x3 x4 z1 : Int} {v : Int} (hd : 1 ≤ d) (hz : js_J E (d - 1) 146 0 [(2, 65), (0, z1)] [] σ = js_r E (2, v) σ2) : js_J E d 165 89 [(2, 56), (0, x1), (0, x2), (2, x3), (0, x4)] [(0, z1), (2, 65)] σ = js_J E d 165 92 [(2, 56), (0, x1), (0, x2), (2, x3), (0, x4)] [(2, v)] σ2 :=
  j_call (m := 0) (js_caV q_165_89 (js_Mo qy_165 qm_6_135)) (js_agV (av := [(0, z1)]) (st := []) rfl rfl js_o65 rfl) rfl rfl (by rw [ql_146]; exact Nat.le_of_ble_eq_true rfl) (Nat.le_of_ble_eq_true rfl) hd hz
theorem kt_165_89 {E : js_E} {d : Nat} {σ σ2 : js_S} {x1 x2 x3 x4 z1 : Int} {w : Int} (hd : 1 ≤ d) (hz : js_J E (d - 1) 146 0 [(2, 65), (0, z1)] [] σ = js_t E w σ2) : js_J E d 165 89 [(2, 56), (0, x1), (0, x2), (2, x3), (0, x4)] [(0, z1), (2, 65)] σ = js_t E w σ2 :=
  j_callT (m := 0) (js_caV q_165_89 (js_Mo qy_165 qm_6_135)) (js_agV (av := [(0, z1)]) (st := []) rfl rfl js_o65 rfl) rfl rfl (by rw [ql_146]; exact Nat.le_of_ble_eq_true rfl) (Nat.le_of_ble_eq_true rfl) hd rfl hz
theorem b_165_92 {E : js_E} {d : Nat} {σ : js_S} {x1 x2 x3 x4 z0 : Int} : js_J E d 165 92 [(2, 56), (0, x1), (0, x2), (2, x3), (0, x4)] [(2, z0)] σ = js_J E d 165 94 [(2, 56), (0, x1), (0, x2), (2, x3), (0, x4)] [(0, x4), (2, z0)] σ :=
  (j_iload q_165_92 rfl).trans <| rfl
theorem k_165_94 {E : js_E} {d : Nat} {σ σ2 : js_S} {x1 x2 x3 x4 z0 z1 oz0 : Int} (hC_z0 : js_isC E.1 z0 oz0) {v : Int} (hd : 1 ≤ d) (hz : js_J E (d - 1) 148 0 [(2, z0), (0, z1)] [] σ = js_r E (1, v) σ2) : js_J E d 165 94 [(2, 56), (0, x1), (0, x2), (2, x3), (0, x4)] [(0, z1), (2, z0)] σ = js_J E d 165 97 [(2, 56), (0, x1), (0, x2), (2, x3), (0, x4)] [(1, v)] σ2 :=
  j_call (m := 0) (js_caV q_165_94 (js_Mo qy_165 qm_6_154)) (js_agV (av := [(0, z1)]) (st := []) rfl rfl (hC_z0 _).1 rfl) rfl rfl (by rw [ql_148]; exact Nat.le_of_ble_eq_true rfl) (Nat.le_of_ble_eq_true rfl) hd hz
theorem kt_165_94 {E : js_E} {d : Nat} {σ σ2 : js_S} {x1 x2 x3 x4 z0 z1 oz0 : Int} (hC_z0 : js_isC E.1 z0 oz0) {w : Int} (hd : 1 ≤ d) (hz : js_J E (d - 1) 148 0 [(2, z0), (0, z1)] [] σ = js_t E w σ2) : js_J E d 165 94 [(2, 56), (0, x1), (0, x2), (2, x3), (0, x4)] [(0, z1), (2, z0)] σ = js_t E w σ2 :=
  j_callT (m := 0) (js_caV q_165_94 (js_Mo qy_165 qm_6_154)) (js_agV (av := [(0, z1)]) (st := []) rfl rfl (hC_z0 _).1 rfl) rfl rfl (by rw [ql_148]; exact Nat.le_of_ble_eq_true rfl) (Nat.le_of_ble_eq_true rfl) hd rfl hz
theorem b_165_97 {E : js_E} {d : Nat} {σ : js_S} {x1 x2 x3 x4 z0 : Int} : js_J E d 165 97 [(2, 56), (0, x1), (0, x2), (2, x3), (0, x4)] [(1, z0)] σ = (if 0 ≤ js_w x1 ∧ js_w x1 < E.1 then (if js_l z0 = js_l (js_w (σ 80 (js_w x1))) then js_J E d 165 61 [(2, 56), (0, x1 + 1), (0, x2), (2, x3), (0, x4 + 1)] [] σ else js_r E (0, 4) σ) else none) :=
  (j_aload_n q_165_97 rfl).trans <| (j_get (ji := 12) (v := (2, 80)) q_165_98 (js_Fo qy_165 qf_6_33) js_o56 rfl rfl rfl rfl).trans <| (j_iload_n q_165_101 rfl).trans <| (j_iaload q_165_102 js_o80).trans <| js_itp fun g0 => (j_i2l q_165_103).trans <| (j_leq (t := 110) q_165_104 q_165_105 rfl).trans (js_ite ((j_iinc (l2 := [(2, 56), (0, x1 + 1), (0, x2), (2, x3), (0, x4)]) q_165_110 rfl rfl).trans <| (j_iinc (l2 := [(2, 56), (0, x1 + 1), (0, x2), (2, x3), (0, x4 + 1)]) q_165_113 rfl rfl).trans <| (j_goto (t := 61) q_165_116 rfl).trans <| rfl) ((j_iconst q_165_108).trans <| j_ireturn q_165_109 qr_165))
theorem b_165_119 {E : js_E} {d : Nat} {σ : js_S} {x1 x2 x3 : Int} {ux4 : js_v} : js_J E d 165 119 [(2, 56), (0, x1), (0, x2), (2, x3), ux4] [] σ = js_J E d 165 23 [(2, 56), (0, x1), (0, x2 + 1), (2, x3), ux4] [] σ :=
  (j_iinc (l2 := [(2, 56), (0, x1), (0, x2 + 1), (2, x3), ux4]) q_165_119 rfl rfl).trans <| (j_goto (t := 23) q_165_122 rfl).trans <| rfl
-- 166: VitalTwin.flip (IIII)Z
theorem b_166_0 {E : js_E} {d : Nat} {σ : js_S} {x1 x2 x3 x4 : Int} : js_J E d 166 0 [(2, 0), (0, x1), (0, x2), (0, x3), (0, x4)] [] σ = js_J E d 166 6 [(2, 0), (0, x1), (0, x2), (0, x3), (0, x4)] [(0, x2), (0, x1), (2, 56)] σ :=
  (j_aload_n q_166_0 rfl).trans <| (j_get (ji := 1) (v := (2, 56)) q_166_1 (js_Fo qy_166 qf_0_46) js_o0 rfl rfl rfl rfl).trans <| (j_iload_n q_166_4 rfl).trans <| (j_iload_n q_166_5 rfl).trans <| rfl
theorem k_166_6 {E : js_E} {d : Nat} {σ σ2 : js_S} {x1 x2 x3 x4 z1 z2 : Int} {v : Int} (hd : 1 ≤ d) (hz : js_J E (d - 1) 137 0 [(2, 56), (0, z1), (0, z2)] [] σ = js_r E (0, v) σ2) : js_J E d 166 6 [(2, 0), (0, x1), (0, x2), (0, x3), (0, x4)] [(0, z2), (0, z1), (2, 56)] σ = js_J E d 166 9 [(2, 0), (0, x1), (0, x2), (0, x3), (0, x4)] [(0, v)] σ2 :=
  j_call (m := 0) (js_caV q_166_6 (js_Mo qy_166 qm_0_172)) (js_agV (av := [(0, z1), (0, z2)]) (st := []) rfl rfl js_o56 rfl) rfl rfl (by rw [ql_137]; exact Nat.le_of_ble_eq_true rfl) (Nat.le_of_ble_eq_true rfl) hd hz
theorem kt_166_6 {E : js_E} {d : Nat} {σ σ2 : js_S} {x1 x2 x3 x4 z1 z2 : Int} {w : Int} (hd : 1 ≤ d) (hz : js_J E (d - 1) 137 0 [(2, 56), (0, z1), (0, z2)] [] σ = js_t E w σ2) : js_J E d 166 6 [(2, 0), (0, x1), (0, x2), (0, x3), (0, x4)] [(0, z2), (0, z1), (2, 56)] σ = js_t E w σ2 :=
  j_callT (m := 0) (js_caV q_166_6 (js_Mo qy_166 qm_0_172)) (js_agV (av := [(0, z1), (0, z2)]) (st := []) rfl rfl js_o56 rfl) rfl rfl (by rw [ql_137]; exact Nat.le_of_ble_eq_true rfl) (Nat.le_of_ble_eq_true rfl) hd rfl hz
theorem b_166_9 {E : js_E} {d : Nat} {σ : js_S} {x1 x2 x3 x4 z0 : Int} : js_J E d 166 9 [(2, 0), (0, x1), (0, x2), (0, x3), (0, x4)] [(0, z0)] σ = (if js_w z0 = 0 then js_r E (0, 0) σ else js_J E d 166 21 [(2, 0), (0, x1), (0, x2), (0, x3), (0, x4)] [(0, x4), (0, x3), (0, x2), (0, x1), (2, 56)] σ) :=
  (j_ifeq (t := 31) q_166_9 rfl).trans (js_ite ((j_iconst q_166_31).trans <| j_breturn0 q_166_32 qr_166) ((j_aload_n q_166_12 rfl).trans <| (j_get (ji := 1) (v := (2, 56)) q_166_13 (js_Fo qy_166 qf_0_46) js_o0 rfl rfl rfl rfl).trans <| (j_iload_n q_166_16 rfl).trans <| (j_iload_n q_166_17 rfl).trans <| (j_iload_n q_166_18 rfl).trans <| (j_iload q_166_19 rfl).trans <| rfl))
theorem k_166_21 {E : js_E} {d : Nat} {σ σ2 : js_S} {x1 x2 x3 x4 z1 z2 z3 z4 : Int} {v : Int} (hd : 1 ≤ d) (hz : js_J E (d - 1) 167 0 [(2, 56), (0, z1), (0, z2), (0, z3), (0, z4)] [] σ = js_r E (0, v) σ2) : js_J E d 166 21 [(2, 0), (0, x1), (0, x2), (0, x3), (0, x4)] [(0, z4), (0, z3), (0, z2), (0, z1), (2, 56)] σ = js_J E d 166 24 [(2, 0), (0, x1), (0, x2), (0, x3), (0, x4)] [(0, v)] σ2 :=
  j_call (m := 0) (js_caV q_166_21 (js_Mo qy_166 qm_0_221)) (js_agV (av := [(0, z1), (0, z2), (0, z3), (0, z4)]) (st := []) rfl rfl js_o56 rfl) rfl rfl (by rw [ql_167]; exact Nat.le_of_ble_eq_true rfl) (Nat.le_of_ble_eq_true rfl) hd hz
theorem kt_166_21 {E : js_E} {d : Nat} {σ σ2 : js_S} {x1 x2 x3 x4 z1 z2 z3 z4 : Int} {w : Int} (hd : 1 ≤ d) (hz : js_J E (d - 1) 167 0 [(2, 56), (0, z1), (0, z2), (0, z3), (0, z4)] [] σ = js_t E w σ2) : js_J E d 166 21 [(2, 0), (0, x1), (0, x2), (0, x3), (0, x4)] [(0, z4), (0, z3), (0, z2), (0, z1), (2, 56)] σ = js_t E w σ2 :=
  j_callT (m := 0) (js_caV q_166_21 (js_Mo qy_166 qm_0_221)) (js_agV (av := [(0, z1), (0, z2), (0, z3), (0, z4)]) (st := []) rfl rfl js_o56 rfl) rfl rfl (by rw [ql_167]; exact Nat.le_of_ble_eq_true rfl) (Nat.le_of_ble_eq_true rfl) hd rfl hz
theorem b_166_24 {E : js_E} {d : Nat} {σ : js_S} {x1 x2 x3 x4 z0 : Int} : js_J E d 166 24 [(2, 0), (0, x1), (0, x2), (0, x3), (0, x4)] [(0, z0)] σ = (if js_w z0 = 0 then js_r E (0, 0) σ else js_r E (0, 1) σ) :=
  (j_ifeq (t := 31) q_166_24 rfl).trans (js_ite ((j_iconst q_166_31).trans <| j_breturn0 q_166_32 qr_166) ((j_iconst q_166_27).trans <| (j_goto (t := 32) q_166_28 rfl).trans <| j_breturn1 q_166_32 qr_166))
-- 167: VitalTwin$Machine.plan (IIII)Z
theorem b_167_0 {E : js_E} {d : Nat} {σ : js_S} {x1 x2 x3 x4 : Int} : js_J E d 167 0 [(2, 56), (0, x1), (0, x2), (0, x3), (0, x4)] [] σ = (if js_w x3 < 0 then js_r E (0, 0) σ else (if js_w x3 < 64 then (if js_w x4 < js_w (σ 58 1) then js_r E (0, 0) σ else (if js_w (σ 56 3) = 0 then (if js_w (σ 56 8) < 8 then (if 0 ≤ js_w (4 * (σ 56 8)) ∧ js_w (4 * (σ 56 8)) < 32 then (if 0 ≤ js_w ((4 * (σ 56 8)) + 1) ∧ js_w ((4 * (σ 56 8)) + 1) < 32 then (if 0 ≤ js_w ((4 * (σ 56 8)) + 2) ∧ js_w ((4 * (σ 56 8)) + 2) < 32 then (if 0 ≤ js_w ((4 * (σ 56 8)) + 3) ∧ js_w ((4 * (σ 56 8)) + 3) < 32 then js_r E (0, 1) (js_up (js_up (js_up (js_up (js_up σ 57 (js_w (4 * (σ 56 8))) x1) 57 (js_w ((4 * (σ 56 8)) + 1)) x2) 57 (js_w ((4 * (σ 56 8)) + 2)) x3) 57 (js_w ((4 * (σ 56 8)) + 3)) x4) 56 8 ((σ 56 8) + 1)) else none) else none) else none) else none) else js_r E (0, 0) σ) else js_r E (0, 0) σ)) else js_r E (0, 0) σ)) :=
  (j_iload_n q_167_0 rfl).trans <| (j_iflt (t := 38) q_167_1 rfl).trans (js_ite ((j_iconst q_167_38).trans <| j_breturn0 q_167_39 qr_167) ((j_iload_n q_167_4 rfl).trans <| (j_bi q_167_5 rfl).trans <| (j_cmpgeB (t := 38) q_167_7 rfl ww_64).trans (js_ite ((j_iload q_167_10 rfl).trans <| (j_aload_n q_167_12 rfl).trans <| (j_get (ji := 0) (v := (2, 58)) q_167_13 (js_Fo qy_167 qf_6_20) js_o56 rfl rfl rfl rfl).trans <| (j_get (ji := 1) (v := (0, σ 58 1)) q_167_16 (js_Fo qy_167 qf_6_113) js_o58 rfl rfl rfl rfl).trans <| (j_cmplt (t := 38) q_167_19 rfl).trans (js_ite ((j_iconst q_167_38).trans <| j_breturn0 q_167_39 qr_167) ((j_aload_n q_167_22 rfl).trans <| (j_get (ji := 3) (v := (0, σ 56 3)) q_167_23 (js_Fo qy_167 qf_6_90) js_o56 rfl rfl rfl rfl).trans <| (j_ifne (t := 38) q_167_26 rfl).trans (js_ite ((j_aload_n q_167_29 rfl).trans <| (j_get (ji := 8) (v := (0, σ 56 8)) q_167_30 (js_Fo qy_167 qf_6_96) js_o56 rfl rfl rfl rfl).trans <| (j_bi q_167_33 rfl).trans <| (j_cmpltB (t := 40) q_167_35 rfl ww_8).trans (js_ite ((j_aload_n q_167_40 rfl).trans <| (j_get (ji := 7) (v := (2, 57)) q_167_41 (js_Fo qy_167 qf_6_9) js_o56 rfl rfl rfl rfl).trans <| (j_iconst q_167_44).trans <| (j_aload_n q_167_45 rfl).trans <| (j_get (ji := 8) (v := (0, σ 56 8)) q_167_46 (js_Fo qy_167 qf_6_96) js_o56 rfl rfl rfl rfl).trans <| (j_imul q_167_49).trans <| (j_iload_n q_167_50 rfl).trans <| (j_iastore q_167_51 js_o57).trans <| js_itp fun g0 => (j_aload_n q_167_52 rfl).trans <| (j_get (ji := 7) (v := (2, 57)) q_167_53 (js_Fo qy_167 qf_6_9) js_o56 rfl rfl rfl rfl).trans <| (j_iconst q_167_56).trans <| (j_aload_n q_167_57 rfl).trans <| (j_get (ji := 8) (v := (0, σ 56 8)) q_167_58 (js_Fo qy_167 qf_6_96) js_o56 rfl rfl rfl (congrArg (Prod.mk 0) ((js_up_na _ (by decide))))).trans <| (j_imul q_167_61).trans <| (j_iconst q_167_62).trans <| (j_iadd q_167_63).trans <| (j_iload_n q_167_64 rfl).trans <| (j_iastore q_167_65 js_o57).trans <| js_itp fun g1 => (j_aload_n q_167_66 rfl).trans <| (j_get (ji := 7) (v := (2, 57)) q_167_67 (js_Fo qy_167 qf_6_9) js_o56 rfl rfl rfl rfl).trans <| (j_iconst q_167_70).trans <| (j_aload_n q_167_71 rfl).trans <| (j_get (ji := 8) (v := (0, σ 56 8)) q_167_72 (js_Fo qy_167 qf_6_96) js_o56 rfl rfl rfl (congrArg (Prod.mk 0) ((js_up_na _ (by decide)).trans <| (js_up_na _ (by decide))))).trans <| (j_imul q_167_75).trans <| (j_iconst q_167_76).trans <| (j_iadd q_167_77).trans <| (j_iload_n q_167_78 rfl).trans <| (j_iastore q_167_79 js_o57).trans <| js_itp fun g2 => (j_aload_n q_167_80 rfl).trans <| (j_get (ji := 7) (v := (2, 57)) q_167_81 (js_Fo qy_167 qf_6_9) js_o56 rfl rfl rfl rfl).trans <| (j_iconst q_167_84).trans <| (j_aload_n q_167_85 rfl).trans <| (j_get (ji := 8) (v := (0, σ 56 8)) q_167_86 (js_Fo qy_167 qf_6_96) js_o56 rfl rfl rfl (congrArg (Prod.mk 0) ((js_up_na _ (by decide)).trans <| (js_up_na _ (by decide)).trans <| (js_up_na _ (by decide))))).trans <| (j_imul q_167_89).trans <| (j_iconst q_167_90).trans <| (j_iadd q_167_91).trans <| (j_iload q_167_92 rfl).trans <| (j_iastore q_167_94 js_o57).trans <| js_itp fun g3 => (j_aload_n q_167_95 rfl).trans <| (j_dupr q_167_96).trans <| (j_get (ji := 8) (v := (0, σ 56 8)) q_167_97 (js_Fo qy_167 qf_6_96) js_o56 rfl rfl rfl (congrArg (Prod.mk 0) ((js_up_na _ (by decide)).trans <| (js_up_na _ (by decide)).trans <| (js_up_na _ (by decide)).trans <| (js_up_na _ (by decide))))).trans <| (j_iconst q_167_100).trans <| (j_iadd q_167_101).trans <| (j_putI (ji := 8) q_167_102 (js_Fo qy_167 qf_6_96) rfl js_o56 rfl rfl rfl).trans <| (j_iconst q_167_105).trans <| j_breturn1 q_167_106 qr_167) ((j_iconst q_167_38).trans <| j_breturn0 q_167_39 qr_167))) ((j_iconst q_167_38).trans <| j_breturn0 q_167_39 qr_167))))) ((j_iconst q_167_38).trans <| j_breturn0 q_167_39 qr_167))))
-- 168: VitalTwin.power ()Z
theorem b_168_0 {E : js_E} {d : Nat} {σ : js_S} : js_J E d 168 0 [(2, 0)] [] σ = (if js_w (σ 56 2) = 0 then js_r E (0, 0) σ else js_J E d 168 16 [(2, 0)] [(2, 56)] σ) :=
  (j_aload_n q_168_0 rfl).trans <| (j_get (ji := 1) (v := (2, 56)) q_168_1 (js_Fo qy_168 qf_0_46) js_o0 rfl rfl rfl rfl).trans <| (j_get (ji := 2) (v := (0, σ 56 2)) q_168_4 (js_Fo qy_168 qf_0_141) js_o56 rfl rfl rfl rfl).trans <| (j_ifne (t := 12) q_168_7 rfl).trans (js_ite ((j_iconst q_168_10).trans <| j_breturn0 q_168_11 qr_168) ((j_aload_n q_168_12 rfl).trans <| (j_get (ji := 1) (v := (2, 56)) q_168_13 (js_Fo qy_168 qf_0_46) js_o0 rfl rfl rfl rfl).trans <| rfl))
theorem k_168_16 {E : js_E} {d : Nat} {σ σ2 : js_S} (hd : 1 ≤ d) (hz : js_J E (d - 1) 117 0 [(2, 56), (9, 0), (9, 0), (9, 0)] [] σ = js_r0 E σ2) : js_J E d 168 16 [(2, 0)] [(2, 56)] σ = js_J E d 168 19 [(2, 0)] [] σ2 :=
  j_call0 (m := 3) (js_caV q_168_16 (js_Mo qy_168 qm_0_225)) (js_agV (av := []) (st := []) rfl rfl js_o56 rfl) rfl rfl (by rw [ql_117]; exact Nat.le_of_ble_eq_true rfl) (Nat.le_of_ble_eq_true rfl) hd hz
theorem kt_168_16 {E : js_E} {d : Nat} {σ σ2 : js_S} {w : Int} (hd : 1 ≤ d) (hz : js_J E (d - 1) 117 0 [(2, 56), (9, 0), (9, 0), (9, 0)] [] σ = js_t E w σ2) : js_J E d 168 16 [(2, 0)] [(2, 56)] σ = js_t E w σ2 :=
  j_callT (m := 3) (js_caV q_168_16 (js_Mo qy_168 qm_0_225)) (js_agV (av := []) (st := []) rfl rfl js_o56 rfl) rfl rfl (by rw [ql_117]; exact Nat.le_of_ble_eq_true rfl) (Nat.le_of_ble_eq_true rfl) hd rfl hz
theorem b_168_19 {E : js_E} {d : Nat} {σ : js_S} : js_J E d 168 19 [(2, 0)] [] σ = js_r E (0, 1) σ :=
  (j_iconst q_168_19).trans <| j_breturn1 q_168_20 qr_168
-- 169: VitalTwin.count (I)I
theorem b_169_0 {E : js_E} {d : Nat} {σ : js_S} {x1 b : Int} (hb : b = 0 ∨ b = 25) (hp : σ 56 1 = 7 + b) : js_J E d 169 0 [(2, 0), (0, x1)] [] σ = (if js_w x1 = 0 then js_r E (0, σ 1 0) σ else (if js_w (σ 56 2) = 0 then js_r E (0, (-1)) σ else (if js_w x1 < 8 then js_J E d 169 38 [(2, 0), (0, x1)] [(0, x1), (2, 7 + b)] σ else js_J E d 169 49 [(2, 0), (0, x1)] [(0, x1), (2, 56)] σ))) :=
  (j_iload_n q_169_0 rfl).trans <| (j_ifne (t := 12) q_169_1 rfl).trans (js_ite ((j_aload_n q_169_4 rfl).trans <| (j_get (ji := 0) (v := (2, 1)) q_169_5 (js_Fo qy_169 qf_0_24) js_o0 rfl rfl rfl rfl).trans <| (j_get (ji := 0) (v := (0, σ 1 0)) q_169_8 (js_Fo qy_169 qf_0_228) js_o1 rfl rfl rfl rfl).trans <| j_ireturn q_169_11 qr_169) ((j_aload_n q_169_12 rfl).trans <| (j_get (ji := 1) (v := (2, 56)) q_169_13 (js_Fo qy_169 qf_0_46) js_o0 rfl rfl rfl rfl).trans <| (j_get (ji := 2) (v := (0, σ 56 2)) q_169_16 (js_Fo qy_169 qf_0_141) js_o56 rfl rfl rfl rfl).trans <| (j_ifne (t := 24) q_169_19 rfl).trans (js_ite ((j_iconst q_169_22).trans <| j_ireturn q_169_23 qr_169) ((j_iload_n q_169_24 rfl).trans <| (j_bi q_169_25 rfl).trans <| (j_cmpgeB (t := 44) q_169_27 rfl ww_8).trans (js_ite ((j_aload_n q_169_30 rfl).trans <| (j_get (ji := 1) (v := (2, 56)) q_169_31 (js_Fo qy_169 qf_0_46) js_o0 rfl rfl rfl rfl).trans <| (j_get (ji := 1) (v := (2, 7 + b)) q_169_34 (js_Fo qy_169 qf_0_155) js_o56 rfl rfl rfl (congrArg (Prod.mk 2) hp)).trans <| (j_iload_n q_169_37 rfl).trans <| rfl) ((j_aload_n q_169_44 rfl).trans <| (j_get (ji := 1) (v := (2, 56)) q_169_45 (js_Fo qy_169 qf_0_46) js_o0 rfl rfl rfl rfl).trans <| (j_iload_n q_169_48 rfl).trans <| rfl))))))
theorem k_169_38 {E : js_E} {d : Nat} {σ σ2 : js_S} {x1 z1 b : Int} (hb : b = 0 ∨ b = 25) {v : Int} (hd : 1 ≤ d) (hz : js_J E (d - 1) 170 0 [(2, 7 + b), (0, z1)] [] σ = js_r E (0, v) σ2) : js_J E d 169 38 [(2, 0), (0, x1)] [(0, z1), (2, 7 + b)] σ = js_J E d 169 41 [(2, 0), (0, x1)] [(0, v)] σ2 :=
  j_call (m := 0) (js_caV q_169_38 (js_Mo qy_169 qm_0_231)) (js_agV (av := [(0, z1)]) (st := []) rfl rfl (js_o7b hb) rfl) rfl rfl (by rw [ql_170]; exact Nat.le_of_ble_eq_true rfl) (Nat.le_of_ble_eq_true rfl) hd hz
theorem kt_169_38 {E : js_E} {d : Nat} {σ σ2 : js_S} {x1 z1 b : Int} (hb : b = 0 ∨ b = 25) {w : Int} (hd : 1 ≤ d) (hz : js_J E (d - 1) 170 0 [(2, 7 + b), (0, z1)] [] σ = js_t E w σ2) : js_J E d 169 38 [(2, 0), (0, x1)] [(0, z1), (2, 7 + b)] σ = js_t E w σ2 :=
  j_callT (m := 0) (js_caV q_169_38 (js_Mo qy_169 qm_0_231)) (js_agV (av := [(0, z1)]) (st := []) rfl rfl (js_o7b hb) rfl) rfl rfl (by rw [ql_170]; exact Nat.le_of_ble_eq_true rfl) (Nat.le_of_ble_eq_true rfl) hd rfl hz
theorem b_169_41 {E : js_E} {d : Nat} {σ : js_S} {x1 z0 : Int} : js_J E d 169 41 [(2, 0), (0, x1)] [(0, z0)] σ = js_J E d 169 52 [(2, 0), (0, x1)] [(0, z0)] σ :=
  (j_goto (t := 52) q_169_41 rfl).trans <| rfl
theorem k_169_49 {E : js_E} {d : Nat} {σ σ2 : js_S} {x1 z1 : Int} {v : Int} (hd : 1 ≤ d) (hz : js_J E (d - 1) 171 0 [(2, 56), (0, z1)] [] σ = js_r E (0, v) σ2) : js_J E d 169 49 [(2, 0), (0, x1)] [(0, z1), (2, 56)] σ = js_J E d 169 52 [(2, 0), (0, x1)] [(0, v)] σ2 :=
  j_call (m := 0) (js_caV q_169_49 (js_Mo qy_169 qm_0_232)) (js_agV (av := [(0, z1)]) (st := []) rfl rfl js_o56 rfl) rfl rfl (by rw [ql_171]; exact Nat.le_of_ble_eq_true rfl) (Nat.le_of_ble_eq_true rfl) hd hz
theorem kt_169_49 {E : js_E} {d : Nat} {σ σ2 : js_S} {x1 z1 : Int} {w : Int} (hd : 1 ≤ d) (hz : js_J E (d - 1) 171 0 [(2, 56), (0, z1)] [] σ = js_t E w σ2) : js_J E d 169 49 [(2, 0), (0, x1)] [(0, z1), (2, 56)] σ = js_t E w σ2 :=
  j_callT (m := 0) (js_caV q_169_49 (js_Mo qy_169 qm_0_232)) (js_agV (av := [(0, z1)]) (st := []) rfl rfl js_o56 rfl) rfl rfl (by rw [ql_171]; exact Nat.le_of_ble_eq_true rfl) (Nat.le_of_ble_eq_true rfl) hd rfl hz
theorem b_169_52 {E : js_E} {d : Nat} {σ : js_S} {x1 z0 : Int} : js_J E d 169 52 [(2, 0), (0, x1)] [(0, z0)] σ = js_r E (0, z0) σ :=
  j_ireturn q_169_52 qr_169
-- 170: VitalTwin$Program.answer (I)I
theorem b_170_0 {E : js_E} {d : Nat} {σ : js_S} {x1 b : Int} : js_J E d 170 0 [(2, 7 + b), (0, x1)] [] σ = js_J E d 170 1 [(2, 7 + b), (0, x1)] [(0, x1)] σ :=
  (j_iload_n q_170_0 rfl).trans <| rfl
theorem s_170_1_1 {E : js_E} {d : Nat} {σ : js_S} {x1 z0 b : Int} (h : js_w z0 = 1) : js_J E d 170 1 [(2, 7 + b), (0, x1)] [(0, z0)] σ = js_J E d 170 44 [(2, 7 + b), (0, x1)] [] σ :=
  j_tsw (t := 44) (off := 43) q_170_1 (by rw [h]; decide) (by rw [h]; decide) (by rw [h]; rfl) rfl
theorem s_170_1_2 {E : js_E} {d : Nat} {σ : js_S} {x1 z0 b : Int} (h : js_w z0 = 2) : js_J E d 170 1 [(2, 7 + b), (0, x1)] [(0, z0)] σ = js_J E d 170 49 [(2, 7 + b), (0, x1)] [] σ :=
  j_tsw (t := 49) (off := 48) q_170_1 (by rw [h]; decide) (by rw [h]; decide) (by rw [h]; rfl) rfl
theorem s_170_1_3 {E : js_E} {d : Nat} {σ : js_S} {x1 z0 b : Int} (h : js_w z0 = 3) : js_J E d 170 1 [(2, 7 + b), (0, x1)] [(0, z0)] σ = js_J E d 170 57 [(2, 7 + b), (0, x1)] [] σ :=
  j_tsw (t := 57) (off := 56) q_170_1 (by rw [h]; decide) (by rw [h]; decide) (by rw [h]; rfl) rfl
theorem s_170_1_4 {E : js_E} {d : Nat} {σ : js_S} {x1 z0 b : Int} (h : js_w z0 = 4) : js_J E d 170 1 [(2, 7 + b), (0, x1)] [(0, z0)] σ = js_J E d 170 62 [(2, 7 + b), (0, x1)] [] σ :=
  j_tsw (t := 62) (off := 61) q_170_1 (by rw [h]; decide) (by rw [h]; decide) (by rw [h]; rfl) rfl
theorem s_170_1_5 {E : js_E} {d : Nat} {σ : js_S} {x1 z0 b : Int} (h : js_w z0 = 5) : js_J E d 170 1 [(2, 7 + b), (0, x1)] [(0, z0)] σ = js_J E d 170 67 [(2, 7 + b), (0, x1)] [] σ :=
  j_tsw (t := 67) (off := 66) q_170_1 (by rw [h]; decide) (by rw [h]; decide) (by rw [h]; rfl) rfl
theorem s_170_1_6 {E : js_E} {d : Nat} {σ : js_S} {x1 z0 b : Int} (h : js_w z0 = 6) : js_J E d 170 1 [(2, 7 + b), (0, x1)] [(0, z0)] σ = js_J E d 170 72 [(2, 7 + b), (0, x1)] [] σ :=
  j_tsw (t := 72) (off := 71) q_170_1 (by rw [h]; decide) (by rw [h]; decide) (by rw [h]; rfl) rfl
theorem s_170_1_7 {E : js_E} {d : Nat} {σ : js_S} {x1 z0 b : Int} (h : js_w z0 = 7) : js_J E d 170 1 [(2, 7 + b), (0, x1)] [(0, z0)] σ = js_J E d 170 77 [(2, 7 + b), (0, x1)] [] σ :=
  j_tsw (t := 77) (off := 76) q_170_1 (by rw [h]; decide) (by rw [h]; decide) (by rw [h]; rfl) rfl
theorem s_170_1_d {E : js_E} {d : Nat} {σ : js_S} {x1 z0 b : Int} (h : js_w z0 < 1 ∨ 7 < js_w z0) : js_J E d 170 1 [(2, 7 + b), (0, x1)] [(0, z0)] σ = js_J E d 170 82 [(2, 7 + b), (0, x1)] [] σ :=
  j_tswd (t := 82) q_170_1 h rfl
theorem b_170_44 {E : js_E} {d : Nat} {σ : js_S} {x1 b : Int} (hb : b = 0 ∨ b = 25) : js_J E d 170 44 [(2, 7 + b), (0, x1)] [] σ = js_r E (0, σ (7 + b) 1) σ :=
  (j_aload_n q_170_44 rfl).trans <| (j_get (ji := 1) (v := (0, σ (7 + b) 1)) q_170_45 (js_Fo qy_170 qf_7_31) (js_o7b hb) rfl rfl rfl rfl).trans <| j_ireturn q_170_48 qr_170
theorem b_170_49 {E : js_E} {d : Nat} {σ : js_S} {x1 b : Int} (hb : b = 0 ∨ b = 25) : js_J E d 170 49 [(2, 7 + b), (0, x1)] [] σ = js_r E (0, σ (8 + b) 6) σ :=
  (j_aload_n q_170_49 rfl).trans <| (j_get (ji := 0) (v := (2, 8 + b)) q_170_50 (js_Fo qy_170 qf_7_12) (js_o7b hb) rfl rfl rfl rfl).trans <| (j_get (ji := 6) (v := (0, σ (8 + b) 6)) q_170_53 (js_Fo qy_170 qf_7_130) (js_o8b hb) rfl rfl rfl rfl).trans <| j_ireturn q_170_56 qr_170
theorem b_170_57 {E : js_E} {d : Nat} {σ : js_S} {x1 b : Int} (hb : b = 0 ∨ b = 25) : js_J E d 170 57 [(2, 7 + b), (0, x1)] [] σ = js_r E (0, σ (7 + b) 2) σ :=
  (j_aload_n q_170_57 rfl).trans <| (j_get (ji := 2) (v := (0, σ (7 + b) 2)) q_170_58 (js_Fo qy_170 qf_7_35) (js_o7b hb) rfl rfl rfl rfl).trans <| j_ireturn q_170_61 qr_170
theorem b_170_62 {E : js_E} {d : Nat} {σ : js_S} {x1 b : Int} (hb : b = 0 ∨ b = 25) : js_J E d 170 62 [(2, 7 + b), (0, x1)] [] σ = js_r E (0, σ (7 + b) 3) σ :=
  (j_aload_n q_170_62 rfl).trans <| (j_get (ji := 3) (v := (0, σ (7 + b) 3)) q_170_63 (js_Fo qy_170 qf_7_38) (js_o7b hb) rfl rfl rfl rfl).trans <| j_ireturn q_170_66 qr_170
theorem b_170_67 {E : js_E} {d : Nat} {σ : js_S} {x1 b : Int} (hb : b = 0 ∨ b = 25) : js_J E d 170 67 [(2, 7 + b), (0, x1)] [] σ = js_r E (0, σ (7 + b) 4) σ :=
  (j_aload_n q_170_67 rfl).trans <| (j_get (ji := 4) (v := (0, σ (7 + b) 4)) q_170_68 (js_Fo qy_170 qf_7_41) (js_o7b hb) rfl rfl rfl rfl).trans <| j_ireturn q_170_71 qr_170
theorem b_170_72 {E : js_E} {d : Nat} {σ : js_S} {x1 b : Int} (hb : b = 0 ∨ b = 25) : js_J E d 170 72 [(2, 7 + b), (0, x1)] [] σ = js_r E (0, σ (7 + b) 5) σ :=
  (j_aload_n q_170_72 rfl).trans <| (j_get (ji := 5) (v := (0, σ (7 + b) 5)) q_170_73 (js_Fo qy_170 qf_7_44) (js_o7b hb) rfl rfl rfl rfl).trans <| j_ireturn q_170_76 qr_170
theorem b_170_77 {E : js_E} {d : Nat} {σ : js_S} {x1 b : Int} (hb : b = 0 ∨ b = 25) : js_J E d 170 77 [(2, 7 + b), (0, x1)] [] σ = js_r E (0, σ (7 + b) 6) σ :=
  (j_aload_n q_170_77 rfl).trans <| (j_get (ji := 6) (v := (0, σ (7 + b) 6)) q_170_78 (js_Fo qy_170 qf_7_47) (js_o7b hb) rfl rfl rfl rfl).trans <| j_ireturn q_170_81 qr_170
theorem b_170_82 {E : js_E} {d : Nat} {σ : js_S} {x1 b : Int} : js_J E d 170 82 [(2, 7 + b), (0, x1)] [] σ = js_r E (0, (-1)) σ :=
  (j_iconst q_170_82).trans <| j_ireturn q_170_83 qr_170
-- 171: VitalTwin$Machine.answer (I)I
theorem b_171_0 {E : js_E} {d : Nat} {σ : js_S} {x1 : Int} : js_J E d 171 0 [(2, 56), (0, x1)] [] σ = js_J E d 171 1 [(2, 56), (0, x1)] [(0, x1)] σ :=
  (j_iload_n q_171_0 rfl).trans <| rfl
theorem s_171_1_8 {E : js_E} {d : Nat} {σ : js_S} {x1 z0 : Int} (h : js_w z0 = 8) : js_J E d 171 1 [(2, 56), (0, x1)] [(0, z0)] σ = js_J E d 171 40 [(2, 56), (0, x1)] [] σ :=
  j_tsw (t := 40) (off := 39) q_171_1 (by rw [h]; decide) (by rw [h]; decide) (by rw [h]; rfl) rfl
theorem s_171_1_9 {E : js_E} {d : Nat} {σ : js_S} {x1 z0 : Int} (h : js_w z0 = 9) : js_J E d 171 1 [(2, 56), (0, x1)] [(0, z0)] σ = js_J E d 171 45 [(2, 56), (0, x1)] [] σ :=
  j_tsw (t := 45) (off := 44) q_171_1 (by rw [h]; decide) (by rw [h]; decide) (by rw [h]; rfl) rfl
theorem s_171_1_10 {E : js_E} {d : Nat} {σ : js_S} {x1 z0 : Int} (h : js_w z0 = 10) : js_J E d 171 1 [(2, 56), (0, x1)] [(0, z0)] σ = js_J E d 171 53 [(2, 56), (0, x1)] [] σ :=
  j_tsw (t := 53) (off := 52) q_171_1 (by rw [h]; decide) (by rw [h]; decide) (by rw [h]; rfl) rfl
theorem s_171_1_11 {E : js_E} {d : Nat} {σ : js_S} {x1 z0 : Int} (h : js_w z0 = 11) : js_J E d 171 1 [(2, 56), (0, x1)] [(0, z0)] σ = js_J E d 171 61 [(2, 56), (0, x1)] [] σ :=
  j_tsw (t := 61) (off := 60) q_171_1 (by rw [h]; decide) (by rw [h]; decide) (by rw [h]; rfl) rfl
theorem s_171_1_12 {E : js_E} {d : Nat} {σ : js_S} {x1 z0 : Int} (h : js_w z0 = 12) : js_J E d 171 1 [(2, 56), (0, x1)] [(0, z0)] σ = js_J E d 171 66 [(2, 56), (0, x1)] [] σ :=
  j_tsw (t := 66) (off := 65) q_171_1 (by rw [h]; decide) (by rw [h]; decide) (by rw [h]; rfl) rfl
theorem s_171_1_13 {E : js_E} {d : Nat} {σ : js_S} {x1 z0 : Int} (h : js_w z0 = 13) : js_J E d 171 1 [(2, 56), (0, x1)] [(0, z0)] σ = js_J E d 171 71 [(2, 56), (0, x1)] [] σ :=
  j_tsw (t := 71) (off := 70) q_171_1 (by rw [h]; decide) (by rw [h]; decide) (by rw [h]; rfl) rfl
theorem s_171_1_d {E : js_E} {d : Nat} {σ : js_S} {x1 z0 : Int} (h : js_w z0 < 8 ∨ 13 < js_w z0) : js_J E d 171 1 [(2, 56), (0, x1)] [(0, z0)] σ = js_J E d 171 76 [(2, 56), (0, x1)] [] σ :=
  j_tswd (t := 76) q_171_1 h rfl
theorem b_171_40 {E : js_E} {d : Nat} {σ : js_S} {x1 : Int} : js_J E d 171 40 [(2, 56), (0, x1)] [] σ = js_r E (0, σ 56 4) σ :=
  (j_aload_n q_171_40 rfl).trans <| (j_get (ji := 4) (v := (0, σ 56 4)) q_171_41 (js_Fo qy_171 qf_6_93) js_o56 rfl rfl rfl rfl).trans <| j_ireturn q_171_44 qr_171
theorem b_171_45 {E : js_E} {d : Nat} {σ : js_S} {x1 : Int} : js_J E d 171 45 [(2, 56), (0, x1)] [] σ = js_r E (0, σ 58 1) σ :=
  (j_aload_n q_171_45 rfl).trans <| (j_get (ji := 0) (v := (2, 58)) q_171_46 (js_Fo qy_171 qf_6_20) js_o56 rfl rfl rfl rfl).trans <| (j_get (ji := 1) (v := (0, σ 58 1)) q_171_49 (js_Fo qy_171 qf_6_113) js_o58 rfl rfl rfl rfl).trans <| j_ireturn q_171_52 qr_171
theorem b_171_53 {E : js_E} {d : Nat} {σ : js_S} {x1 : Int} : js_J E d 171 53 [(2, 56), (0, x1)] [] σ = js_r E (0, σ 58 0) σ :=
  (j_aload_n q_171_53 rfl).trans <| (j_get (ji := 0) (v := (2, 58)) q_171_54 (js_Fo qy_171 qf_6_20) js_o56 rfl rfl rfl rfl).trans <| (j_get (ji := 0) (v := (0, σ 58 0)) q_171_57 (js_Fo qy_171 qf_6_110) js_o58 rfl rfl rfl rfl).trans <| j_ireturn q_171_60 qr_171
theorem b_171_61 {E : js_E} {d : Nat} {σ : js_S} {x1 : Int} : js_J E d 171 61 [(2, 56), (0, x1)] [] σ = js_r E (0, σ 56 3) σ :=
  (j_aload_n q_171_61 rfl).trans <| (j_get (ji := 3) (v := (0, σ 56 3)) q_171_62 (js_Fo qy_171 qf_6_90) js_o56 rfl rfl rfl rfl).trans <| j_ireturn q_171_65 qr_171
theorem b_171_66 {E : js_E} {d : Nat} {σ : js_S} {x1 : Int} : js_J E d 171 66 [(2, 56), (0, x1)] [] σ = js_r E (0, σ 56 8) σ :=
  (j_aload_n q_171_66 rfl).trans <| (j_get (ji := 8) (v := (0, σ 56 8)) q_171_67 (js_Fo qy_171 qf_6_96) js_o56 rfl rfl rfl rfl).trans <| j_ireturn q_171_70 qr_171
theorem b_171_71 {E : js_E} {d : Nat} {σ : js_S} {x1 : Int} : js_J E d 171 71 [(2, 56), (0, x1)] [] σ = js_r E (0, σ 56 9) σ :=
  (j_aload_n q_171_71 rfl).trans <| (j_get (ji := 9) (v := (0, σ 56 9)) q_171_72 (js_Fo qy_171 qf_6_99) js_o56 rfl rfl rfl rfl).trans <| j_ireturn q_171_75 qr_171
theorem b_171_76 {E : js_E} {d : Nat} {σ : js_S} {x1 : Int} : js_J E d 171 76 [(2, 56), (0, x1)] [] σ = js_r E (0, (-1)) σ :=
  (j_iconst q_171_76).trans <| j_ireturn q_171_77 qr_171
-- 172: VitalTwin.range (II)J
theorem b_172_0 {E : js_E} {d : Nat} {σ : js_S} {x1 x2 b : Int} (hb : b = 0 ∨ b = 25) (h4 : σ 0 4 = 6 + b) : js_J E d 172 0 [(2, 0), (0, x1), (0, x2), (9, 0)] [] σ = js_J E d 172 13 [(2, 0), (0, x1), (0, x2), (2, 8 + b)] [(0, x1), (2, 8 + b)] σ :=
  (j_aload_n q_172_0 rfl).trans <| (j_get (ji := 4) (v := (2, 6 + b)) q_172_1 (js_Fo qy_172 qf_0_30) js_o0 rfl rfl rfl (congrArg (Prod.mk 2) h4)).trans <| (j_get (ji := 0) (v := (2, 7 + b)) q_172_4 (js_Fo qy_172 qf_0_39) (js_o6b hb) rfl rfl rfl rfl).trans <| (j_get (ji := 0) (v := (2, 8 + b)) q_172_7 (js_Fo qy_172 qf_0_89) (js_o7b hb) rfl rfl rfl rfl).trans <| (j_astore_n (l2 := [(2, 0), (0, x1), (0, x2), (2, 8 + b)]) q_172_10 rfl (Nat.le_of_ble_eq_true rfl)).trans <| (j_aload_n q_172_11 rfl).trans <| (j_iload_n q_172_12 rfl).trans <| rfl
theorem k_172_13 {E : js_E} {d : Nat} {σ σ2 : js_S} {x1 x2 z1 b : Int} (hb : b = 0 ∨ b = 25) {v : Int} (hd : 1 ≤ d) (hz : js_J E (d - 1) 92 0 [(2, 8 + b), (0, z1)] [] σ = js_r E (0, v) σ2) : js_J E d 172 13 [(2, 0), (0, x1), (0, x2), (2, 8 + b)] [(0, z1), (2, 8 + b)] σ = js_J E d 172 16 [(2, 0), (0, x1), (0, x2), (2, 8 + b)] [(0, v)] σ2 :=
  j_call (m := 0) (js_caV q_172_13 (js_Mo qy_172 qm_0_93)) (js_agV (av := [(0, z1)]) (st := []) rfl rfl (js_o8b hb) rfl) rfl rfl (by rw [ql_92]; exact Nat.le_of_ble_eq_true rfl) (Nat.le_of_ble_eq_true rfl) hd hz
theorem kt_172_13 {E : js_E} {d : Nat} {σ σ2 : js_S} {x1 x2 z1 b : Int} (hb : b = 0 ∨ b = 25) {w : Int} (hd : 1 ≤ d) (hz : js_J E (d - 1) 92 0 [(2, 8 + b), (0, z1)] [] σ = js_t E w σ2) : js_J E d 172 13 [(2, 0), (0, x1), (0, x2), (2, 8 + b)] [(0, z1), (2, 8 + b)] σ = js_t E w σ2 :=
  j_callT (m := 0) (js_caV q_172_13 (js_Mo qy_172 qm_0_93)) (js_agV (av := [(0, z1)]) (st := []) rfl rfl (js_o8b hb) rfl) rfl rfl (by rw [ql_92]; exact Nat.le_of_ble_eq_true rfl) (Nat.le_of_ble_eq_true rfl) hd rfl hz
theorem b_172_16 {E : js_E} {d : Nat} {σ : js_S} {x1 x2 z0 b : Int} (hb : b = 0 ∨ b = 25) : js_J E d 172 16 [(2, 0), (0, x1), (0, x2), (2, 8 + b)] [(0, z0)] σ = (if js_w z0 = 0 then js_J E d 172 28 [(2, 0), (0, x1), (0, x2), (2, 8 + b)] [] σ else (if js_w x2 < 0 then js_J E d 172 28 [(2, 0), (0, x1), (0, x2), (2, 8 + b)] [] σ else (if 1 < js_w x2 then js_J E d 172 28 [(2, 0), (0, x1), (0, x2), (2, 8 + b)] [] σ else (if js_w x2 = 0 then (if 0 ≤ js_w x1 ∧ js_w x1 < 8192 then js_r E (1, js_w (σ (12 + b) (js_w x1))) σ else none) else (if 0 ≤ js_w x1 ∧ js_w x1 < 8192 then js_r E (1, js_w (σ (13 + b) (js_w x1))) σ else none))))) :=
  (j_ifeq (t := 28) q_172_16 rfl).trans (js_ite (rfl) ((j_iload_n q_172_19 rfl).trans <| (j_iflt (t := 28) q_172_20 rfl).trans (js_ite (rfl) ((j_iload_n q_172_23 rfl).trans <| (j_iconst q_172_24).trans <| (j_cmpleB (t := 38) q_172_25 rfl ww_1).trans (js_ite (rfl) ((j_iload_n q_172_38 rfl).trans <| (j_ifne (t := 52) q_172_39 rfl).trans (js_ite ((j_aload_n q_172_42 rfl).trans <| (j_get (ji := 3) (v := (2, 12 + b)) q_172_43 (js_Fo qy_172 qf_0_116) (js_o8b hb) rfl rfl rfl rfl).trans <| (j_iload_n q_172_46 rfl).trans <| (j_iaload q_172_47 (js_o12b hb)).trans <| js_itp fun g0 => (j_i2l q_172_48).trans <| (j_goto (t := 59) q_172_49 rfl).trans <| j_lreturn q_172_59 qr_172) ((j_aload_n q_172_52 rfl).trans <| (j_get (ji := 4) (v := (2, 13 + b)) q_172_53 (js_Fo qy_172 qf_0_119) (js_o8b hb) rfl rfl rfl rfl).trans <| (j_iload_n q_172_56 rfl).trans <| (j_iaload q_172_57 (js_o13b hb)).trans <| js_itp fun g0 => (j_i2l q_172_58).trans <| j_lreturn q_172_59 qr_172))))))))
theorem b_172_28 {E : js_E} {d : Nat} {σ : js_S} {x1 x2 b : Int} (hd : 6 ≤ d) (hn : 137 ≤ σ (-1) 0) (hn1 : 0 ≤ σ (-1) 1) : js_J E d 172 28 [(2, 0), (0, x1), (0, x2), (2, 8 + b)] [] σ = js_t E (σ (-1) 0) (js_ne σ 18) :=
  j_throw q_172_28 (js_No qy_172 qn_0_109) (by decide) rfl rfl (Nat.le_of_ble_eq_true rfl) hd hn hn1
-- 173: VitalTwin.steps (I)I
theorem b_173_0 {E : js_E} {d : Nat} {σ : js_S} {x1 : Int} (hd : 6 ≤ d) (hn : 137 ≤ σ (-1) 0) (hn1 : 0 ≤ σ (-1) 1) : js_J E d 173 0 [(2, 0), (0, x1)] [] σ = (if js_w x1 < 1 then js_J E d 173 11 [(2, 0), (0, x1)] [] σ else (if 200000 < js_w x1 then js_J E d 173 11 [(2, 0), (0, x1)] [] σ else (if js_w (σ 56 2) = 0 then js_t E (σ (-1) 0) (js_ne σ 16) else js_J E d 173 46 [(2, 0), (0, x1)] [(0, x1), (2, 56)] σ))) :=
  (j_iload_n q_173_0 rfl).trans <| (j_iconst q_173_1).trans <| (j_cmpltB (t := 11) q_173_2 rfl ww_1).trans (js_ite (rfl) ((j_iload_n q_173_5 rfl).trans <| (j_ldc (v := (0, 200000)) q_173_6 (js_Co qy_173 qc_0_135)).trans <| (j_cmpleB (t := 21) q_173_8 rfl ww_200000).trans (js_ite (rfl) ((j_aload_n q_173_21 rfl).trans <| (j_get (ji := 1) (v := (2, 56)) q_173_22 (js_Fo qy_173 qf_0_46) js_o0 rfl rfl rfl rfl).trans <| (j_get (ji := 2) (v := (0, σ 56 2)) q_173_25 (js_Fo qy_173 qf_0_141) js_o56 rfl rfl rfl rfl).trans <| (j_ifne (t := 41) q_173_28 rfl).trans (js_ite (j_throw q_173_31 (js_No qy_173 qn_0_61) (by decide) rfl rfl (Nat.le_of_ble_eq_true rfl) hd hn hn1) ((j_aload_n q_173_41 rfl).trans <| (j_get (ji := 1) (v := (2, 56)) q_173_42 (js_Fo qy_173 qf_0_46) js_o0 rfl rfl rfl rfl).trans <| (j_iload_n q_173_45 rfl).trans <| rfl))))))
theorem b_173_11 {E : js_E} {d : Nat} {σ : js_S} {x1 : Int} (hd : 6 ≤ d) (hn : 137 ≤ σ (-1) 0) (hn1 : 0 ≤ σ (-1) 1) : js_J E d 173 11 [(2, 0), (0, x1)] [] σ = js_t E (σ (-1) 0) (js_ne σ 17) :=
  j_throw q_173_11 (js_No qy_173 qn_0_136) (by decide) rfl rfl (Nat.le_of_ble_eq_true rfl) hd hn hn1
theorem k_173_46 {E : js_E} {d : Nat} {σ σ2 : js_S} {x1 z1 : Int} {v : Int} (hd : 1 ≤ d) (hz : js_J E (d - 1) 174 0 [(2, 56), (0, z1), (9, 0)] [] σ = js_r E (0, v) σ2) : js_J E d 173 46 [(2, 0), (0, x1)] [(0, z1), (2, 56)] σ = js_J E d 173 49 [(2, 0), (0, x1)] [(0, v)] σ2 :=
  j_call (m := 1) (js_caV q_173_46 (js_Mo qy_173 qm_0_148)) (js_agV (av := [(0, z1)]) (st := []) rfl rfl js_o56 rfl) rfl rfl (by rw [ql_174]; exact Nat.le_of_ble_eq_true rfl) (Nat.le_of_ble_eq_true rfl) hd hz
theorem kt_173_46 {E : js_E} {d : Nat} {σ σ2 : js_S} {x1 z1 : Int} {w : Int} (hd : 1 ≤ d) (hz : js_J E (d - 1) 174 0 [(2, 56), (0, z1), (9, 0)] [] σ = js_t E w σ2) : js_J E d 173 46 [(2, 0), (0, x1)] [(0, z1), (2, 56)] σ = js_t E w σ2 :=
  j_callT (m := 1) (js_caV q_173_46 (js_Mo qy_173 qm_0_148)) (js_agV (av := [(0, z1)]) (st := []) rfl rfl js_o56 rfl) rfl rfl (by rw [ql_174]; exact Nat.le_of_ble_eq_true rfl) (Nat.le_of_ble_eq_true rfl) hd rfl hz
theorem b_173_49 {E : js_E} {d : Nat} {σ : js_S} {x1 z0 : Int} : js_J E d 173 49 [(2, 0), (0, x1)] [(0, z0)] σ = js_r E (0, z0) σ :=
  j_ireturn q_173_49 qr_173
