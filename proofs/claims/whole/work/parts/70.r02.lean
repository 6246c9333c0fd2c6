/-! part 70.r02: block equations of the reference's methods 203 to 212 (printed by wip/whole/tools/gen71.py) -/
theorem qy_205 : vt_O 205 = 12 := by decide +kernel
theorem qr_205 : vt_rc.getD 205 0 = 0 := by decide +kernel
theorem ql_205 : vt_ml.getD 205 0 = 4 := by decide +kernel
theorem qy_207 : vt_O 207 = 12 := by decide +kernel
theorem qr_207 : vt_rc.getD 207 0 = 0 := by decide +kernel
theorem ql_207 : vt_ml.getD 207 0 = 2 := by decide +kernel
theorem qy_211 : vt_O 211 = 12 := by decide +kernel
theorem qr_211 : vt_rc.getD 211 0 = 0 := by decide +kernel
theorem ql_211 : vt_ml.getD 211 0 = 2 := by decide +kernel
theorem qy_212 : vt_O 212 = 12 := by decide +kernel
theorem qr_212 : vt_rc.getD 212 0 = 1 := by decide +kernel
theorem ql_212 : vt_ml.getD 212 0 = 4 := by decide +kernel
theorem qy_218 : vt_O 218 = 12 := by decide +kernel
theorem qr_218 : vt_rc.getD 218 0 = 1 := by decide +kernel
theorem ql_218 : vt_ml.getD 218 0 = 8 := by decide +kernel
theorem qy_240 : vt_O 240 = 12 := by decide +kernel
theorem qr_240 : vt_rc.getD 240 0 = 0 := by decide +kernel
theorem ql_240 : vt_ml.getD 240 0 = 3 := by decide +kernel
theorem qy_209 : vt_O 209 = 12 := by decide +kernel
theorem qr_209 : vt_rc.getD 209 0 = 0 := by decide +kernel
theorem ql_209 : vt_ml.getD 209 0 = 2 := by decide +kernel
theorem qy_213 : vt_O 213 = 12 := by decide +kernel
theorem qr_213 : vt_rc.getD 213 0 = 1 := by decide +kernel
theorem ql_213 : vt_ml.getD 213 0 = 2 := by decide +kernel
theorem q_203_0 : js_I 203 0 = some (.aload_n 0, 1) := by decide +kernel
theorem q_203_1 : js_I 203 1 = some (.aload_n 0, 1) := by decide +kernel
theorem q_203_2 : js_I 203 2 = some (.getfield 35, 3) := by decide +kernel
theorem q_203_5 : js_I 203 5 = some (.putfield 135, 3) := by decide +kernel
theorem q_203_8 : js_I 203 8 = some (.aload_n 0, 1) := by decide +kernel
theorem q_203_9 : js_I 203 9 = some (.getfield 25, 3) := by decide +kernel
theorem q_203_12 : js_I 203 12 = some (.bipush 45, 2) := by decide +kernel
theorem q_203_14 : js_I 203 14 = some (.if_icmp .ne 7, 3) := by decide +kernel
theorem q_203_17 : js_I 203 17 = some (.iconst 1, 1) := by decide +kernel
theorem q_203_18 : js_I 203 18 = some (.goto 4, 3) := by decide +kernel
theorem q_203_21 : js_I 203 21 = some (.iconst 0, 1) := by decide +kernel
theorem q_203_22 : js_I 203 22 = some (.istore_n 1, 1) := by decide +kernel
theorem q_203_23 : js_I 203 23 = some (.iload_n 1, 1) := by decide +kernel
theorem q_203_24 : js_I 203 24 = some (.ifCond .eq 7, 3) := by decide +kernel
theorem q_203_27 : js_I 203 27 = some (.aload_n 0, 1) := by decide +kernel
theorem q_203_28 : js_I 203 28 = some (.invokevirtual 68, 3) := by decide +kernel
theorem q_203_31 : js_I 203 31 = some (.aload_n 0, 1) := by decide +kernel
theorem q_203_32 : js_I 203 32 = some (.invokevirtual 96, 3) := by decide +kernel
theorem q_203_35 : js_I 203 35 = some (.istore_n 2, 1) := by decide +kernel
theorem q_203_36 : js_I 203 36 = some (.aload_n 0, 1) := by decide +kernel
theorem q_203_37 : js_I 203 37 = some (.getfield 25, 3) := by decide +kernel
theorem q_203_40 : js_I 203 40 = some (.iconst 3, 1) := by decide +kernel
theorem q_203_41 : js_I 203 41 = some (.if_icmp .ne 19, 3) := by decide +kernel
theorem q_203_44 : js_I 203 44 = some (.aload_n 0, 1) := by decide +kernel
theorem q_203_45 : js_I 203 45 = some (.iconst 0, 1) := by decide +kernel
theorem q_203_46 : js_I 203 46 = some (.putfield 138, 3) := by decide +kernel
theorem q_203_49 : js_I 203 49 = some (.aload_n 0, 1) := by decide +kernel
theorem q_203_50 : js_I 203 50 = some (.aload_n 0, 1) := by decide +kernel
theorem q_203_51 : js_I 203 51 = some (.getfield 53, 3) := by decide +kernel
theorem q_203_54 : js_I 203 54 = some (.putfield 141, 3) := by decide +kernel
theorem q_203_57 : js_I 203 57 = some (.goto 129, 3) := by decide +kernel
theorem q_203_60 : js_I 203 60 = some (.iload_n 1, 1) := by decide +kernel
theorem q_203_61 : js_I 203 61 = some (.ifCond .ne 50, 3) := by decide +kernel
theorem q_203_64 : js_I 203 64 = some (.aload_n 0, 1) := by decide +kernel
theorem q_203_65 : js_I 203 65 = some (.getfield 25, 3) := by decide +kernel
theorem q_203_68 : js_I 203 68 = some (.sipush 316, 3) := by decide +kernel
theorem q_203_71 : js_I 203 71 = some (.if_icmp .eq 13, 3) := by decide +kernel
theorem q_203_74 : js_I 203 74 = some (.aload_n 0, 1) := by decide +kernel
theorem q_203_75 : js_I 203 75 = some (.getfield 25, 3) := by decide +kernel
theorem q_203_78 : js_I 203 78 = some (.sipush 317, 3) := by decide +kernel
theorem q_203_81 : js_I 203 81 = some (.if_icmp .ne 30, 3) := by decide +kernel
theorem q_203_84 : js_I 203 84 = some (.aload_n 0, 1) := by decide +kernel
theorem q_203_85 : js_I 203 85 = some (.iconst 1, 1) := by decide +kernel
theorem q_203_86 : js_I 203 86 = some (.putfield 138, 3) := by decide +kernel
theorem q_203_89 : js_I 203 89 = some (.aload_n 0, 1) := by decide +kernel
theorem q_203_90 : js_I 203 90 = some (.aload_n 0, 1) := by decide +kernel
theorem q_203_91 : js_I 203 91 = some (.getfield 25, 3) := by decide +kernel
theorem q_203_94 : js_I 203 94 = some (.sipush 316, 3) := by decide +kernel
theorem q_203_97 : js_I 203 97 = some (.if_icmp .ne 7, 3) := by decide +kernel
theorem q_203_100 : js_I 203 100 = some (.iconst 1, 1) := by decide +kernel
theorem q_203_101 : js_I 203 101 = some (.goto 4, 3) := by decide +kernel
theorem q_203_104 : js_I 203 104 = some (.iconst 0, 1) := by decide +kernel
theorem q_203_105 : js_I 203 105 = some (.putfield 141, 3) := by decide +kernel
theorem q_203_108 : js_I 203 108 = some (.goto 78, 3) := by decide +kernel
theorem q_203_111 : js_I 203 111 = some (.aload_n 0, 1) := by decide +kernel
theorem q_203_112 : js_I 203 112 = some (.getfield 25, 3) := by decide +kernel
theorem q_203_115 : js_I 203 115 = some (.iconst 2, 1) := by decide +kernel
theorem q_203_116 : js_I 203 116 = some (.if_icmp .ne 60, 3) := by decide +kernel
theorem q_203_119 : js_I 203 119 = some (.iload_n 2, 1) := by decide +kernel
theorem q_203_120 : js_I 203 120 = some (.ifCond .lt 23, 3) := by decide +kernel
theorem q_203_123 : js_I 203 123 = some (.aload_n 0, 1) := by decide +kernel
theorem q_203_124 : js_I 203 124 = some (.getfield 99, 3) := by decide +kernel
theorem q_203_127 : js_I 203 127 = some (.iload_n 2, 1) := by decide +kernel
theorem q_203_128 : js_I 203 128 = some (.iaload, 1) := by decide +kernel
theorem q_203_129 : js_I 203 129 = some (.ifCond .eq 24, 3) := by decide +kernel
theorem q_203_132 : js_I 203 132 = some (.aload_n 0, 1) := by decide +kernel
theorem q_203_133 : js_I 203 133 = some (.getfield 99, 3) := by decide +kernel
theorem q_203_136 : js_I 203 136 = some (.iload_n 2, 1) := by decide +kernel
theorem q_203_137 : js_I 203 137 = some (.iaload, 1) := by decide +kernel
theorem q_203_138 : js_I 203 138 = some (.bipush 9, 2) := by decide +kernel
theorem q_203_140 : js_I 203 140 = some (.if_icmp .eq 13, 3) := by decide +kernel
theorem q_203_176 : js_I 203 176 = some (.aload_n 0, 1) := by decide +kernel
theorem q_203_177 : js_I 203 177 = some (.iconst 1, 1) := by decide +kernel
theorem q_203_178 : js_I 203 178 = some (.aload_n 0, 1) := by decide +kernel
theorem q_203_179 : js_I 203 179 = some (.getfield 35, 3) := by decide +kernel
theorem q_203_182 : js_I 203 182 = some (.invokevirtual 65, 3) := by decide +kernel
theorem q_203_143 : js_I 203 143 = some (.aload_n 0, 1) := by decide +kernel
theorem q_203_144 : js_I 203 144 = some (.iconst 3, 1) := by decide +kernel
theorem q_203_145 : js_I 203 145 = some (.aload_n 0, 1) := by decide +kernel
theorem q_203_146 : js_I 203 146 = some (.getfield 35, 3) := by decide +kernel
theorem q_203_149 : js_I 203 149 = some (.invokevirtual 65, 3) := by decide +kernel
theorem q_203_152 : js_I 203 152 = some (.return_, 1) := by decide +kernel
theorem q_203_153 : js_I 203 153 = some (.aload_n 0, 1) := by decide +kernel
theorem q_203_154 : js_I 203 154 = some (.aload_n 0, 1) := by decide +kernel
theorem q_203_155 : js_I 203 155 = some (.getfield 102, 3) := by decide +kernel
theorem q_203_158 : js_I 203 158 = some (.iload_n 2, 1) := by decide +kernel
theorem q_203_159 : js_I 203 159 = some (.iaload, 1) := by decide +kernel
theorem q_203_160 : js_I 203 160 = some (.putfield 138, 3) := by decide +kernel
theorem q_203_163 : js_I 203 163 = some (.aload_n 0, 1) := by decide +kernel
theorem q_203_164 : js_I 203 164 = some (.aload_n 0, 1) := by decide +kernel
theorem q_203_165 : js_I 203 165 = some (.getfield 126, 3) := by decide +kernel
theorem q_203_168 : js_I 203 168 = some (.iload_n 2, 1) := by decide +kernel
theorem q_203_169 : js_I 203 169 = some (.iaload, 1) := by decide +kernel
theorem q_203_170 : js_I 203 170 = some (.putfield 141, 3) := by decide +kernel
theorem q_203_173 : js_I 203 173 = some (.goto 13, 3) := by decide +kernel
theorem q_203_185 : js_I 203 185 = some (.return_, 1) := by decide +kernel
theorem q_203_186 : js_I 203 186 = some (.iload_n 1, 1) := by decide +kernel
theorem q_203_187 : js_I 203 187 = some (.ifCond .eq 19, 3) := by decide +kernel
theorem q_203_190 : js_I 203 190 = some (.aload_n 0, 1) := by decide +kernel
theorem q_203_191 : js_I 203 191 = some (.getfield 138, 3) := by decide +kernel
theorem q_203_194 : js_I 203 194 = some (.ifCond .eq 12, 3) := by decide +kernel
theorem q_203_197 : js_I 203 197 = some (.aload_n 0, 1) := by decide +kernel
theorem q_203_198 : js_I 203 198 = some (.iconst 5, 1) := by decide +kernel
theorem q_203_199 : js_I 203 199 = some (.aload_n 0, 1) := by decide +kernel
theorem q_203_200 : js_I 203 200 = some (.getfield 135, 3) := by decide +kernel
theorem q_203_203 : js_I 203 203 = some (.invokevirtual 65, 3) := by decide +kernel
theorem q_203_206 : js_I 203 206 = some (.iload_n 1, 1) := by decide +kernel
theorem q_203_207 : js_I 203 207 = some (.ifCond .eq 12, 3) := by decide +kernel
theorem q_203_219 : js_I 203 219 = some (.return_, 1) := by decide +kernel
theorem q_203_210 : js_I 203 210 = some (.aload_n 0, 1) := by decide +kernel
theorem q_203_211 : js_I 203 211 = some (.aload_n 0, 1) := by decide +kernel
theorem q_203_212 : js_I 203 212 = some (.getfield 141, 3) := by decide +kernel
theorem q_203_215 : js_I 203 215 = some (.ineg, 1) := by decide +kernel
theorem q_203_216 : js_I 203 216 = some (.putfield 141, 3) := by decide +kernel
theorem q_204_0 : js_I 204 0 = some (.aload_n 0, 1) := by decide +kernel
theorem q_204_1 : js_I 204 1 = some (.bipush 8, 2) := by decide +kernel
theorem q_204_3 : js_I 204 3 = some (.iconst (-1), 1) := by decide +kernel
theorem q_204_4 : js_I 204 4 = some (.invokevirtual 314, 3) := by decide +kernel
theorem q_204_7 : js_I 204 7 = some (.istore_n 1, 1) := by decide +kernel
theorem q_204_8 : js_I 204 8 = some (.aload_n 0, 1) := by decide +kernel
theorem q_204_9 : js_I 204 9 = some (.getfield 22, 3) := by decide +kernel
theorem q_204_12 : js_I 204 12 = some (.ifCond .le 4, 3) := by decide +kernel
theorem q_204_15 : js_I 204 15 = some (.return_, 1) := by decide +kernel
theorem q_204_16 : js_I 204 16 = some (.aload_n 0, 1) := by decide +kernel
theorem q_204_17 : js_I 204 17 = some (.getfield 89, 3) := by decide +kernel
theorem q_204_20 : js_I 204 20 = some (.iload_n 1, 1) := by decide +kernel
theorem q_204_21 : js_I 204 21 = some (.iconst 1, 1) := by decide +kernel
theorem q_204_22 : js_I 204 22 = some (.bastore, 1) := by decide +kernel
theorem q_204_23 : js_I 204 23 = some (.aload_n 0, 1) := by decide +kernel
theorem q_204_24 : js_I 204 24 = some (.getfield 102, 3) := by decide +kernel
theorem q_204_27 : js_I 204 27 = some (.iload_n 1, 1) := by decide +kernel
theorem q_204_28 : js_I 204 28 = some (.iconst 3, 1) := by decide +kernel
theorem q_204_29 : js_I 204 29 = some (.iload_n 1, 1) := by decide +kernel
theorem q_204_30 : js_I 204 30 = some (.iadd, 1) := by decide +kernel
theorem q_204_31 : js_I 204 31 = some (.iastore, 1) := by decide +kernel
theorem q_204_32 : js_I 204 32 = some (.aload_n 0, 1) := by decide +kernel
theorem q_204_33 : js_I 204 33 = some (.bipush 61, 2) := by decide +kernel
theorem q_204_35 : js_I 204 35 = some (.invokevirtual 75, 3) := by decide +kernel
theorem q_204_38 : js_I 204 38 = some (.iconst 0, 1) := by decide +kernel
theorem q_204_39 : js_I 204 39 = some (.istore_n 2, 1) := by decide +kernel
theorem q_204_40 : js_I 204 40 = some (.iconst 1, 1) := by decide +kernel
theorem q_204_41 : js_I 204 41 = some (.istore_n 3, 1) := by decide +kernel
theorem q_204_42 : js_I 204 42 = some (.iload_n 3, 1) := by decide +kernel
theorem q_204_43 : js_I 204 43 = some (.ifCond .eq 125, 3) := by decide +kernel
theorem q_204_46 : js_I 204 46 = some (.aload_n 0, 1) := by decide +kernel
theorem q_204_47 : js_I 204 47 = some (.getfield 22, 3) := by decide +kernel
theorem q_204_50 : js_I 204 50 = some (.ifCond .ne 118, 3) := by decide +kernel
theorem q_204_53 : js_I 204 53 = some (.iload_n 2, 1) := by decide +kernel
theorem q_204_54 : js_I 204 54 = some (.bipush 64, 2) := by decide +kernel
theorem q_204_56 : js_I 204 56 = some (.if_icmp .ne 8, 3) := by decide +kernel
theorem q_204_59 : js_I 204 59 = some (.aload_n 0, 1) := by decide +kernel
theorem q_204_60 : js_I 204 60 = some (.iconst (-1), 1) := by decide +kernel
theorem q_204_61 : js_I 204 61 = some (.invokevirtual 480, 3) := by decide +kernel
theorem q_204_64 : js_I 204 64 = some (.aload_n 0, 1) := by decide +kernel
theorem q_204_65 : js_I 204 65 = some (.bipush 9, 2) := by decide +kernel
theorem q_204_67 : js_I 204 67 = some (.iconst (-1), 1) := by decide +kernel
theorem q_204_68 : js_I 204 68 = some (.invokevirtual 314, 3) := by decide +kernel
theorem q_204_71 : js_I 204 71 = some (.istore 4, 2) := by decide +kernel
theorem q_204_73 : js_I 204 73 = some (.aload_n 0, 1) := by decide +kernel
theorem q_204_74 : js_I 204 74 = some (.getfield 22, 3) := by decide +kernel
theorem q_204_77 : js_I 204 77 = some (.ifCond .le 4, 3) := by decide +kernel
theorem q_204_80 : js_I 204 80 = some (.return_, 1) := by decide +kernel
theorem q_204_81 : js_I 204 81 = some (.aload_n 0, 1) := by decide +kernel
theorem q_204_82 : js_I 204 82 = some (.getfield 102, 3) := by decide +kernel
theorem q_204_85 : js_I 204 85 = some (.iload 4, 2) := by decide +kernel
theorem q_204_87 : js_I 204 87 = some (.iconst 3, 1) := by decide +kernel
theorem q_204_88 : js_I 204 88 = some (.iload_n 1, 1) := by decide +kernel
theorem q_204_89 : js_I 204 89 = some (.iadd, 1) := by decide +kernel
theorem q_204_90 : js_I 204 90 = some (.iastore, 1) := by decide +kernel
theorem q_204_91 : js_I 204 91 = some (.aload_n 0, 1) := by decide +kernel
theorem q_204_92 : js_I 204 92 = some (.getfield 105, 3) := by decide +kernel
theorem q_204_95 : js_I 204 95 = some (.iload 4, 2) := by decide +kernel
theorem q_204_97 : js_I 204 97 = some (.iload_n 2, 1) := by decide +kernel
theorem q_204_98 : js_I 204 98 = some (.iastore, 1) := by decide +kernel
theorem q_204_99 : js_I 204 99 = some (.aload_n 0, 1) := by decide +kernel
theorem q_204_100 : js_I 204 100 = some (.getfield 108, 3) := by decide +kernel
theorem q_204_103 : js_I 204 103 = some (.iload 4, 2) := by decide +kernel
theorem q_204_105 : js_I 204 105 = some (.iload_n 2, 1) := by decide +kernel
theorem q_204_106 : js_I 204 106 = some (.iastore, 1) := by decide +kernel
theorem q_204_107 : js_I 204 107 = some (.aload_n 0, 1) := by decide +kernel
theorem q_204_108 : js_I 204 108 = some (.getfield 126, 3) := by decide +kernel
theorem q_204_111 : js_I 204 111 = some (.iload 4, 2) := by decide +kernel
theorem q_204_113 : js_I 204 113 = some (.iload_n 2, 1) := by decide +kernel
theorem q_204_114 : js_I 204 114 = some (.iastore, 1) := by decide +kernel
theorem q_204_115 : js_I 204 115 = some (.aload_n 0, 1) := by decide +kernel
theorem q_204_116 : js_I 204 116 = some (.getfield 89, 3) := by decide +kernel
theorem q_204_119 : js_I 204 119 = some (.iload 4, 2) := by decide +kernel
theorem q_204_121 : js_I 204 121 = some (.iconst 1, 1) := by decide +kernel
theorem q_204_122 : js_I 204 122 = some (.bastore, 1) := by decide +kernel
theorem q_204_123 : js_I 204 123 = some (.iinc 2 1, 3) := by decide +kernel
theorem q_204_126 : js_I 204 126 = some (.aload_n 0, 1) := by decide +kernel
theorem q_204_127 : js_I 204 127 = some (.getfield 114, 3) := by decide +kernel
theorem q_204_130 : js_I 204 130 = some (.iload_n 1, 1) := by decide +kernel
theorem q_204_131 : js_I 204 131 = some (.iload_n 2, 1) := by decide +kernel
theorem q_204_132 : js_I 204 132 = some (.iastore, 1) := by decide +kernel
theorem q_204_133 : js_I 204 133 = some (.aload_n 0, 1) := by decide +kernel
theorem q_204_134 : js_I 204 134 = some (.getfield 108, 3) := by decide +kernel
theorem q_204_137 : js_I 204 137 = some (.iload_n 1, 1) := by decide +kernel
theorem q_204_138 : js_I 204 138 = some (.iload_n 2, 1) := by decide +kernel
theorem q_204_139 : js_I 204 139 = some (.iconst 1, 1) := by decide +kernel
theorem q_204_140 : js_I 204 140 = some (.isub, 1) := by decide +kernel
theorem q_204_141 : js_I 204 141 = some (.iastore, 1) := by decide +kernel
theorem q_204_142 : js_I 204 142 = some (.aload_n 0, 1) := by decide +kernel
theorem q_204_143 : js_I 204 143 = some (.getfield 25, 3) := by decide +kernel
theorem q_204_146 : js_I 204 146 = some (.bipush 44, 2) := by decide +kernel
theorem q_204_148 : js_I 204 148 = some (.if_icmp .ne 7, 3) := by decide +kernel
theorem q_204_151 : js_I 204 151 = some (.iconst 1, 1) := by decide +kernel
theorem q_204_152 : js_I 204 152 = some (.goto 4, 3) := by decide +kernel
theorem q_204_155 : js_I 204 155 = some (.iconst 0, 1) := by decide +kernel
theorem q_204_156 : js_I 204 156 = some (.istore_n 3, 1) := by decide +kernel
theorem q_204_157 : js_I 204 157 = some (.iload_n 3, 1) := by decide +kernel
theorem q_204_158 : js_I 204 158 = some (.ifCond .eq 7, 3) := by decide +kernel
theorem q_204_161 : js_I 204 161 = some (.aload_n 0, 1) := by decide +kernel
theorem q_204_162 : js_I 204 162 = some (.invokevirtual 68, 3) := by decide +kernel
theorem q_204_165 : js_I 204 165 = some (.goto (-123), 3) := by decide +kernel
theorem q_204_168 : js_I 204 168 = some (.aload_n 0, 1) := by decide +kernel
theorem q_204_169 : js_I 204 169 = some (.bipush 59, 2) := by decide +kernel
theorem q_204_171 : js_I 204 171 = some (.invokevirtual 75, 3) := by decide +kernel
theorem q_204_174 : js_I 204 174 = some (.return_, 1) := by decide +kernel
theorem q_205_0 : js_I 205 0 = some (.aload_n 0, 1) := by decide +kernel
theorem q_205_1 : js_I 205 1 = some (.getfield 25, 3) := by decide +kernel
theorem q_205_4 : js_I 205 4 = some (.iconst 2, 1) := by decide +kernel
theorem q_205_5 : js_I 205 5 = some (.if_icmp .eq 13, 3) := by decide +kernel
theorem q_205_18 : js_I 205 18 = some (.aload_n 0, 1) := by decide +kernel
theorem q_205_19 : js_I 205 19 = some (.invokevirtual 96, 3) := by decide +kernel
theorem q_205_8 : js_I 205 8 = some (.aload_n 0, 1) := by decide +kernel
theorem q_205_9 : js_I 205 9 = some (.iconst 1, 1) := by decide +kernel
theorem q_205_10 : js_I 205 10 = some (.aload_n 0, 1) := by decide +kernel
theorem q_205_11 : js_I 205 11 = some (.getfield 35, 3) := by decide +kernel
theorem q_205_14 : js_I 205 14 = some (.invokevirtual 65, 3) := by decide +kernel
theorem q_205_17 : js_I 205 17 = some (.return_, 1) := by decide +kernel
theorem q_205_22 : js_I 205 22 = some (.ifCond .lt 7, 3) := by decide +kernel
theorem q_205_29 : js_I 205 29 = some (.iconst 0, 1) := by decide +kernel
theorem q_205_25 : js_I 205 25 = some (.iconst 1, 1) := by decide +kernel
theorem q_205_26 : js_I 205 26 = some (.goto 4, 3) := by decide +kernel
theorem q_205_30 : js_I 205 30 = some (.istore_n 2, 1) := by decide +kernel
theorem q_205_31 : js_I 205 31 = some (.iload_n 1, 1) := by decide +kernel
theorem q_205_32 : js_I 205 32 = some (.istore_n 3, 1) := by decide +kernel
theorem q_205_33 : js_I 205 33 = some (.iload_n 3, 1) := by decide +kernel
theorem q_205_34 : js_I 205 34 = some (.ifCond .lt 35, 3) := by decide +kernel
theorem q_205_37 : js_I 205 37 = some (.iload_n 3, 1) := by decide +kernel
theorem q_205_38 : js_I 205 38 = some (.aload_n 0, 1) := by decide +kernel
theorem q_205_39 : js_I 205 39 = some (.getfield 86, 3) := by decide +kernel
theorem q_205_42 : js_I 205 42 = some (.if_icmp .ge 27, 3) := by decide +kernel
theorem q_205_45 : js_I 205 45 = some (.iload_n 2, 1) := by decide +kernel
theorem q_205_46 : js_I 205 46 = some (.ifCond .ne 11, 3) := by decide +kernel
theorem q_205_49 : js_I 205 49 = some (.aload_n 0, 1) := by decide +kernel
theorem q_205_50 : js_I 205 50 = some (.iload_n 3, 1) := by decide +kernel
theorem q_205_51 : js_I 205 51 = some (.invokevirtual 93, 3) := by decide +kernel
theorem q_205_54 : js_I 205 54 = some (.ifCond .eq 7, 3) := by decide +kernel
theorem q_205_61 : js_I 205 61 = some (.iconst 0, 1) := by decide +kernel
theorem q_205_57 : js_I 205 57 = some (.iconst 1, 1) := by decide +kernel
theorem q_205_58 : js_I 205 58 = some (.goto 4, 3) := by decide +kernel
theorem q_205_62 : js_I 205 62 = some (.istore_n 2, 1) := by decide +kernel
theorem q_205_63 : js_I 205 63 = some (.iinc 3 1, 3) := by decide +kernel
theorem q_205_66 : js_I 205 66 = some (.goto (-33), 3) := by decide +kernel
theorem q_205_69 : js_I 205 69 = some (.aload_n 0, 1) := by decide +kernel
theorem q_205_70 : js_I 205 70 = some (.iload_n 2, 1) := by decide +kernel
theorem q_205_71 : js_I 205 71 = some (.ifCond .eq 7, 3) := by decide +kernel
theorem q_205_78 : js_I 205 78 = some (.bipush 10, 2) := by decide +kernel
theorem q_205_74 : js_I 205 74 = some (.iconst 2, 1) := by decide +kernel
theorem q_205_75 : js_I 205 75 = some (.goto 5, 3) := by decide +kernel
theorem q_205_80 : js_I 205 80 = some (.aload_n 0, 1) := by decide +kernel
theorem q_205_81 : js_I 205 81 = some (.getfield 35, 3) := by decide +kernel
theorem q_205_84 : js_I 205 84 = some (.invokevirtual 65, 3) := by decide +kernel
theorem q_205_87 : js_I 205 87 = some (.return_, 1) := by decide +kernel
theorem q_206_0 : js_I 206 0 = some (.aload_n 0, 1) := by decide +kernel
theorem q_206_1 : js_I 206 1 = some (.iconst 4, 1) := by decide +kernel
theorem q_206_2 : js_I 206 2 = some (.iconst (-1), 1) := by decide +kernel
theorem q_206_3 : js_I 206 3 = some (.invokevirtual 314, 3) := by decide +kernel
theorem q_206_6 : js_I 206 6 = some (.istore_n 1, 1) := by decide +kernel
theorem q_206_7 : js_I 206 7 = some (.aload_n 0, 1) := by decide +kernel
theorem q_206_8 : js_I 206 8 = some (.getfield 22, 3) := by decide +kernel
theorem q_206_11 : js_I 206 11 = some (.ifCond .le 4, 3) := by decide +kernel
theorem q_206_14 : js_I 206 14 = some (.return_, 1) := by decide +kernel
theorem q_206_15 : js_I 206 15 = some (.aload_n 0, 1) := by decide +kernel
theorem q_206_16 : js_I 206 16 = some (.iload_n 1, 1) := by decide +kernel
theorem q_206_17 : js_I 206 17 = some (.putfield 123, 3) := by decide +kernel
theorem q_206_20 : js_I 206 20 = some (.aload_n 0, 1) := by decide +kernel
theorem q_206_21 : js_I 206 21 = some (.iconst 0, 1) := by decide +kernel
theorem q_206_22 : js_I 206 22 = some (.putfield 284, 3) := by decide +kernel
theorem q_206_25 : js_I 206 25 = some (.iconst 0, 1) := by decide +kernel
theorem q_206_26 : js_I 206 26 = some (.istore_n 2, 1) := by decide +kernel
theorem q_206_27 : js_I 206 27 = some (.aload_n 0, 1) := by decide +kernel
theorem q_206_28 : js_I 206 28 = some (.bipush 40, 2) := by decide +kernel
theorem q_206_30 : js_I 206 30 = some (.invokevirtual 159, 3) := by decide +kernel
theorem q_206_33 : js_I 206 33 = some (.aload_n 0, 1) := by decide +kernel
theorem q_206_34 : js_I 206 34 = some (.getfield 22, 3) := by decide +kernel
theorem q_206_37 : js_I 206 37 = some (.ifCond .ne 99, 3) := by decide +kernel
theorem q_206_40 : js_I 206 40 = some (.aload_n 0, 1) := by decide +kernel
theorem q_206_41 : js_I 206 41 = some (.getfield 25, 3) := by decide +kernel
theorem q_206_44 : js_I 206 44 = some (.bipush 41, 2) := by decide +kernel
theorem q_206_46 : js_I 206 46 = some (.if_icmp .eq 90, 3) := by decide +kernel
theorem q_206_49 : js_I 206 49 = some (.iload_n 2, 1) := by decide +kernel
theorem q_206_50 : js_I 206 50 = some (.bipush 8, 2) := by decide +kernel
theorem q_206_52 : js_I 206 52 = some (.if_icmp .ne 10, 3) := by decide +kernel
theorem q_206_55 : js_I 206 55 = some (.aload_n 0, 1) := by decide +kernel
theorem q_206_56 : js_I 206 56 = some (.iload_n 1, 1) := by decide +kernel
theorem q_206_57 : js_I 206 57 = some (.iconst 1, 1) := by decide +kernel
theorem q_206_58 : js_I 206 58 = some (.iadd, 1) := by decide +kernel
theorem q_206_59 : js_I 206 59 = some (.invokevirtual 480, 3) := by decide +kernel
theorem q_206_62 : js_I 206 62 = some (.aload_n 0, 1) := by decide +kernel
theorem q_206_63 : js_I 206 63 = some (.iconst 5, 1) := by decide +kernel
theorem q_206_64 : js_I 206 64 = some (.iload_n 1, 1) := by decide +kernel
theorem q_206_65 : js_I 206 65 = some (.iconst 1, 1) := by decide +kernel
theorem q_206_66 : js_I 206 66 = some (.iadd, 1) := by decide +kernel
theorem q_206_67 : js_I 206 67 = some (.invokevirtual 314, 3) := by decide +kernel
theorem q_206_70 : js_I 206 70 = some (.istore_n 3, 1) := by decide +kernel
theorem q_206_71 : js_I 206 71 = some (.aload_n 0, 1) := by decide +kernel
theorem q_206_72 : js_I 206 72 = some (.bipush 58, 2) := by decide +kernel
theorem q_206_74 : js_I 206 74 = some (.invokevirtual 75, 3) := by decide +kernel
theorem q_206_77 : js_I 206 77 = some (.aload_n 0, 1) := by decide +kernel
theorem q_206_78 : js_I 206 78 = some (.invokevirtual 320, 3) := by decide +kernel
theorem q_206_81 : js_I 206 81 = some (.aload_n 0, 1) := by decide +kernel
theorem q_206_82 : js_I 206 82 = some (.getfield 22, 3) := by decide +kernel
theorem q_206_85 : js_I 206 85 = some (.ifCond .le 4, 3) := by decide +kernel
theorem q_206_88 : js_I 206 88 = some (.return_, 1) := by decide +kernel
theorem q_206_89 : js_I 206 89 = some (.aload_n 0, 1) := by decide +kernel
theorem q_206_90 : js_I 206 90 = some (.iload_n 3, 1) := by decide +kernel
theorem q_206_91 : js_I 206 91 = some (.invokevirtual 323, 3) := by decide +kernel
theorem q_206_94 : js_I 206 94 = some (.iinc 2 1, 3) := by decide +kernel
theorem q_206_97 : js_I 206 97 = some (.aload_n 0, 1) := by decide +kernel
theorem q_206_98 : js_I 206 98 = some (.getfield 25, 3) := by decide +kernel
theorem q_206_101 : js_I 206 101 = some (.bipush 41, 2) := by decide +kernel
theorem q_206_103 : js_I 206 103 = some (.if_icmp .ne 6, 3) := by decide +kernel
theorem q_206_106 : js_I 206 106 = some (.goto (-73), 3) := by decide +kernel
theorem q_206_109 : js_I 206 109 = some (.aload_n 0, 1) := by decide +kernel
theorem q_206_110 : js_I 206 110 = some (.bipush 44, 2) := by decide +kernel
theorem q_206_112 : js_I 206 112 = some (.invokevirtual 75, 3) := by decide +kernel
theorem q_206_115 : js_I 206 115 = some (.aload_n 0, 1) := by decide +kernel
theorem q_206_116 : js_I 206 116 = some (.getfield 25, 3) := by decide +kernel
theorem q_206_119 : js_I 206 119 = some (.bipush 41, 2) := by decide +kernel
theorem q_206_121 : js_I 206 121 = some (.if_icmp .ne 12, 3) := by decide +kernel
theorem q_206_124 : js_I 206 124 = some (.aload_n 0, 1) := by decide +kernel
theorem q_206_125 : js_I 206 125 = some (.iconst 1, 1) := by decide +kernel
theorem q_206_126 : js_I 206 126 = some (.aload_n 0, 1) := by decide +kernel
theorem q_206_127 : js_I 206 127 = some (.getfield 35, 3) := by decide +kernel
theorem q_206_130 : js_I 206 130 = some (.invokevirtual 65, 3) := by decide +kernel
theorem q_206_133 : js_I 206 133 = some (.goto (-100), 3) := by decide +kernel
theorem q_206_136 : js_I 206 136 = some (.aload_n 0, 1) := by decide +kernel
theorem q_206_137 : js_I 206 137 = some (.bipush 41, 2) := by decide +kernel
theorem q_206_139 : js_I 206 139 = some (.invokevirtual 162, 3) := by decide +kernel
theorem q_206_142 : js_I 206 142 = some (.aload_n 0, 1) := by decide +kernel
theorem q_206_143 : js_I 206 143 = some (.getfield 114, 3) := by decide +kernel
theorem q_206_146 : js_I 206 146 = some (.iload_n 1, 1) := by decide +kernel
theorem q_206_147 : js_I 206 147 = some (.iload_n 2, 1) := by decide +kernel
theorem q_206_148 : js_I 206 148 = some (.iastore, 1) := by decide +kernel
theorem q_206_149 : js_I 206 149 = some (.aload_n 0, 1) := by decide +kernel
theorem q_206_150 : js_I 206 150 = some (.getfield 102, 3) := by decide +kernel
theorem q_206_153 : js_I 206 153 = some (.iload_n 1, 1) := by decide +kernel
theorem q_206_154 : js_I 206 154 = some (.iconst 2, 1) := by decide +kernel
theorem q_206_155 : js_I 206 155 = some (.iastore, 1) := by decide +kernel
theorem q_206_156 : js_I 206 156 = some (.aload_n 0, 1) := by decide +kernel
theorem q_206_157 : js_I 206 157 = some (.getfield 25, 3) := by decide +kernel
theorem q_206_160 : js_I 206 160 = some (.bipush 58, 2) := by decide +kernel
theorem q_206_162 : js_I 206 162 = some (.if_icmp .ne 7, 3) := by decide +kernel
theorem q_206_165 : js_I 206 165 = some (.iconst 1, 1) := by decide +kernel
theorem q_206_166 : js_I 206 166 = some (.goto 4, 3) := by decide +kernel
theorem q_206_169 : js_I 206 169 = some (.iconst 0, 1) := by decide +kernel
theorem q_206_170 : js_I 206 170 = some (.istore_n 3, 1) := by decide +kernel
theorem q_206_171 : js_I 206 171 = some (.iload_n 3, 1) := by decide +kernel
theorem q_206_172 : js_I 206 172 = some (.ifCond .eq 23, 3) := by decide +kernel
theorem q_206_175 : js_I 206 175 = some (.aload_n 0, 1) := by decide +kernel
theorem q_206_176 : js_I 206 176 = some (.invokevirtual 68, 3) := by decide +kernel
theorem q_206_179 : js_I 206 179 = some (.aload_n 0, 1) := by decide +kernel
theorem q_206_180 : js_I 206 180 = some (.invokevirtual 320, 3) := by decide +kernel
theorem q_206_183 : js_I 206 183 = some (.aload_n 0, 1) := by decide +kernel
theorem q_206_184 : js_I 206 184 = some (.getfield 22, 3) := by decide +kernel
theorem q_206_187 : js_I 206 187 = some (.ifCond .ne 8, 3) := by decide +kernel
theorem q_206_190 : js_I 206 190 = some (.aload_n 0, 1) := by decide +kernel
theorem q_206_191 : js_I 206 191 = some (.iload_n 1, 1) := by decide +kernel
theorem q_206_192 : js_I 206 192 = some (.invokevirtual 323, 3) := by decide +kernel
theorem q_206_195 : js_I 206 195 = some (.aload_n 0, 1) := by decide +kernel
theorem q_206_196 : js_I 206 196 = some (.bipush 123, 2) := by decide +kernel
theorem q_206_198 : js_I 206 198 = some (.invokevirtual 159, 3) := by decide +kernel
theorem q_206_201 : js_I 206 201 = some (.iload_n 1, 1) := by decide +kernel
theorem q_206_202 : js_I 206 202 = some (.iconst 1, 1) := by decide +kernel
theorem q_206_203 : js_I 206 203 = some (.iadd, 1) := by decide +kernel
theorem q_206_204 : js_I 206 204 = some (.istore 4, 2) := by decide +kernel
theorem q_206_206 : js_I 206 206 = some (.iload 4, 2) := by decide +kernel
theorem q_206_208 : js_I 206 208 = some (.iload_n 1, 1) := by decide +kernel
theorem q_206_209 : js_I 206 209 = some (.iload_n 2, 1) := by decide +kernel
theorem q_206_210 : js_I 206 210 = some (.iadd, 1) := by decide +kernel
theorem q_206_211 : js_I 206 211 = some (.if_icmp .gt 24, 3) := by decide +kernel
theorem q_206_214 : js_I 206 214 = some (.aload_n 0, 1) := by decide +kernel
theorem q_206_215 : js_I 206 215 = some (.getfield 22, 3) := by decide +kernel
theorem q_206_218 : js_I 206 218 = some (.ifCond .ne 17, 3) := by decide +kernel
theorem q_206_221 : js_I 206 221 = some (.aload_n 0, 1) := by decide +kernel
theorem q_206_222 : js_I 206 222 = some (.getfield 89, 3) := by decide +kernel
theorem q_206_225 : js_I 206 225 = some (.iload 4, 2) := by decide +kernel
theorem q_206_227 : js_I 206 227 = some (.iconst 1, 1) := by decide +kernel
theorem q_206_228 : js_I 206 228 = some (.bastore, 1) := by decide +kernel
theorem q_206_229 : js_I 206 229 = some (.iinc 4 1, 3) := by decide +kernel
theorem q_206_232 : js_I 206 232 = some (.goto (-26), 3) := by decide +kernel
theorem q_206_235 : js_I 206 235 = some (.aload_n 0, 1) := by decide +kernel
theorem q_206_236 : js_I 206 236 = some (.getfield 337, 3) := by decide +kernel
theorem q_206_239 : js_I 206 239 = some (.iload_n 1, 1) := by decide +kernel
theorem q_206_240 : js_I 206 240 = some (.aload_n 0, 1) := by decide +kernel
theorem q_206_241 : js_I 206 241 = some (.invokevirtual 290, 3) := by decide +kernel
theorem q_206_244 : js_I 206 244 = some (.iastore, 1) := by decide +kernel
theorem q_206_245 : js_I 206 245 = some (.aload_n 0, 1) := by decide +kernel
theorem q_206_246 : js_I 206 246 = some (.getfield 340, 3) := by decide +kernel
theorem q_206_249 : js_I 206 249 = some (.iload_n 1, 1) := by decide +kernel
theorem q_206_250 : js_I 206 250 = some (.iconst (-1), 1) := by decide +kernel
theorem q_206_251 : js_I 206 251 = some (.iastore, 1) := by decide +kernel
theorem q_206_252 : js_I 206 252 = some (.iload_n 3, 1) := by decide +kernel
theorem q_206_253 : js_I 206 253 = some (.ifCond .eq 50, 3) := by decide +kernel
theorem q_206_256 : js_I 206 256 = some (.aload_n 0, 1) := by decide +kernel
theorem q_206_257 : js_I 206 257 = some (.sipush 313, 3) := by decide +kernel
theorem q_206_260 : js_I 206 260 = some (.invokevirtual 75, 3) := by decide +kernel
theorem q_206_263 : js_I 206 263 = some (.aload_n 0, 1) := by decide +kernel
theorem q_206_264 : js_I 206 264 = some (.getfield 102, 3) := by decide +kernel
theorem q_206_267 : js_I 206 267 = some (.iload_n 1, 1) := by decide +kernel
theorem q_206_268 : js_I 206 268 = some (.iaload, 1) := by decide +kernel
theorem q_206_269 : js_I 206 269 = some (.istore 4, 2) := by decide +kernel
theorem q_206_271 : js_I 206 271 = some (.aload_n 0, 1) := by decide +kernel
theorem q_206_272 : js_I 206 272 = some (.getfield 340, 3) := by decide +kernel
theorem q_206_275 : js_I 206 275 = some (.iload_n 1, 1) := by decide +kernel
theorem q_206_276 : js_I 206 276 = some (.aload_n 0, 1) := by decide +kernel
theorem q_206_277 : js_I 206 277 = some (.iload 4, 2) := by decide +kernel
theorem q_206_279 : js_I 206 279 = some (.aload_n 0, 1) := by decide +kernel
theorem q_206_280 : js_I 206 280 = some (.getfield 105, 3) := by decide +kernel
theorem q_206_283 : js_I 206 283 = some (.iload_n 1, 1) := by decide +kernel
theorem q_206_284 : js_I 206 284 = some (.iaload, 1) := by decide +kernel
theorem q_206_285 : js_I 206 285 = some (.i2l, 1) := by decide +kernel
theorem q_206_286 : js_I 206 286 = some (.aload_n 0, 1) := by decide +kernel
theorem q_206_287 : js_I 206 287 = some (.getfield 108, 3) := by decide +kernel
theorem q_206_290 : js_I 206 290 = some (.iload_n 1, 1) := by decide +kernel
theorem q_206_291 : js_I 206 291 = some (.iaload, 1) := by decide +kernel
theorem q_206_292 : js_I 206 292 = some (.i2l, 1) := by decide +kernel
theorem q_206_293 : js_I 206 293 = some (.invokevirtual 280, 3) := by decide +kernel
theorem q_206_296 : js_I 206 296 = some (.iastore, 1) := by decide +kernel
theorem q_206_297 : js_I 206 297 = some (.aload_n 0, 1) := by decide +kernel
theorem q_206_298 : js_I 206 298 = some (.bipush 59, 2) := by decide +kernel
theorem q_206_300 : js_I 206 300 = some (.invokevirtual 75, 3) := by decide +kernel
theorem q_206_303 : js_I 206 303 = some (.aload_n 0, 1) := by decide +kernel
theorem q_206_304 : js_I 206 304 = some (.bipush 125, 2) := by decide +kernel
theorem q_206_306 : js_I 206 306 = some (.invokevirtual 162, 3) := by decide +kernel
theorem q_206_309 : js_I 206 309 = some (.aload_n 0, 1) := by decide +kernel
theorem q_206_310 : js_I 206 310 = some (.getfield 22, 3) := by decide +kernel
theorem q_206_313 : js_I 206 313 = some (.ifCond .le 4, 3) := by decide +kernel
theorem q_206_316 : js_I 206 316 = some (.return_, 1) := by decide +kernel
theorem q_206_317 : js_I 206 317 = some (.aload_n 0, 1) := by decide +kernel
theorem q_206_318 : js_I 206 318 = some (.iload_n 1, 1) := by decide +kernel
theorem q_206_319 : js_I 206 319 = some (.iconst 1, 1) := by decide +kernel
theorem q_206_320 : js_I 206 320 = some (.iadd, 1) := by decide +kernel
theorem q_206_321 : js_I 206 321 = some (.invokevirtual 293, 3) := by decide +kernel
theorem q_206_324 : js_I 206 324 = some (.aload_n 0, 1) := by decide +kernel
theorem q_206_325 : js_I 206 325 = some (.getfield 89, 3) := by decide +kernel
theorem q_206_328 : js_I 206 328 = some (.iload_n 1, 1) := by decide +kernel
theorem q_206_329 : js_I 206 329 = some (.iconst 1, 1) := by decide +kernel
theorem q_206_330 : js_I 206 330 = some (.bastore, 1) := by decide +kernel
theorem q_206_331 : js_I 206 331 = some (.aload_n 0, 1) := by decide +kernel
theorem q_206_332 : js_I 206 332 = some (.getfield 132, 3) := by decide +kernel
theorem q_206_335 : js_I 206 335 = some (.iload_n 1, 1) := by decide +kernel
theorem q_206_336 : js_I 206 336 = some (.iconst 1, 1) := by decide +kernel
theorem q_206_337 : js_I 206 337 = some (.aload_n 0, 1) := by decide +kernel
theorem q_206_338 : js_I 206 338 = some (.getfield 284, 3) := by decide +kernel
theorem q_206_341 : js_I 206 341 = some (.iadd, 1) := by decide +kernel
theorem q_206_342 : js_I 206 342 = some (.iastore, 1) := by decide +kernel
theorem q_206_343 : js_I 206 343 = some (.aload_n 0, 1) := by decide +kernel
theorem q_206_344 : js_I 206 344 = some (.iconst (-1), 1) := by decide +kernel
theorem q_206_345 : js_I 206 345 = some (.putfield 123, 3) := by decide +kernel
theorem q_206_348 : js_I 206 348 = some (.return_, 1) := by decide +kernel
theorem q_207_0 : js_I 207 0 = some (.aload_n 0, 1) := by decide +kernel
theorem q_207_1 : js_I 207 1 = some (.getfield 25, 3) := by decide +kernel
theorem q_207_4 : js_I 207 4 = some (.iload_n 1, 1) := by decide +kernel
theorem q_207_5 : js_I 207 5 = some (.if_icmp .eq 15, 3) := by decide +kernel
theorem q_207_20 : js_I 207 20 = some (.aload_n 0, 1) := by decide +kernel
theorem q_207_21 : js_I 207 21 = some (.getfield 72, 3) := by decide +kernel
theorem q_207_24 : js_I 207 24 = some (.bipush 64, 2) := by decide +kernel
theorem q_207_26 : js_I 207 26 = some (.if_icmp .ne 13, 3) := by decide +kernel
theorem q_207_29 : js_I 207 29 = some (.aload_n 0, 1) := by decide +kernel
theorem q_207_30 : js_I 207 30 = some (.bipush 10, 2) := by decide +kernel
theorem q_207_32 : js_I 207 32 = some (.aload_n 0, 1) := by decide +kernel
theorem q_207_33 : js_I 207 33 = some (.getfield 35, 3) := by decide +kernel
theorem q_207_36 : js_I 207 36 = some (.invokevirtual 65, 3) := by decide +kernel
theorem q_207_8 : js_I 207 8 = some (.aload_n 0, 1) := by decide +kernel
theorem q_207_9 : js_I 207 9 = some (.iconst 1, 1) := by decide +kernel
theorem q_207_10 : js_I 207 10 = some (.aload_n 0, 1) := by decide +kernel
theorem q_207_11 : js_I 207 11 = some (.getfield 35, 3) := by decide +kernel
theorem q_207_14 : js_I 207 14 = some (.invokevirtual 65, 3) := by decide +kernel
theorem q_207_17 : js_I 207 17 = some (.goto 22, 3) := by decide +kernel
theorem q_207_39 : js_I 207 39 = some (.aload_n 0, 1) := by decide +kernel
theorem q_207_40 : js_I 207 40 = some (.dup, 1) := by decide +kernel
theorem q_207_41 : js_I 207 41 = some (.getfield 72, 3) := by decide +kernel
theorem q_207_44 : js_I 207 44 = some (.iconst 1, 1) := by decide +kernel
theorem q_207_45 : js_I 207 45 = some (.iadd, 1) := by decide +kernel
theorem q_207_46 : js_I 207 46 = some (.putfield 72, 3) := by decide +kernel
theorem q_207_49 : js_I 207 49 = some (.aload_n 0, 1) := by decide +kernel
theorem q_207_50 : js_I 207 50 = some (.invokevirtual 68, 3) := by decide +kernel
theorem q_207_53 : js_I 207 53 = some (.return_, 1) := by decide +kernel
theorem q_208_0 : js_I 208 0 = some (.aload_n 0, 1) := by decide +kernel
theorem q_208_1 : js_I 208 1 = some (.invokevirtual 96, 3) := by decide +kernel
theorem q_208_4 : js_I 208 4 = some (.istore_n 1, 1) := by decide +kernel
theorem q_208_5 : js_I 208 5 = some (.aload_n 0, 1) := by decide +kernel
theorem q_208_6 : js_I 208 6 = some (.getfield 25, 3) := by decide +kernel
theorem q_208_9 : js_I 208 9 = some (.sipush 315, 3) := by decide +kernel
theorem q_208_12 : js_I 208 12 = some (.if_icmp .ne 25, 3) := by decide +kernel
theorem q_208_15 : js_I 208 15 = some (.aload_n 0, 1) := by decide +kernel
theorem q_208_16 : js_I 208 16 = some (.iconst 1, 1) := by decide +kernel
theorem q_208_17 : js_I 208 17 = some (.putfield 147, 3) := by decide +kernel
theorem q_208_20 : js_I 208 20 = some (.aload_n 0, 1) := by decide +kernel
theorem q_208_21 : js_I 208 21 = some (.iconst 0, 1) := by decide +kernel
theorem q_208_22 : js_I 208 22 = some (.putfield 150, 3) := by decide +kernel
theorem q_208_25 : js_I 208 25 = some (.aload_n 0, 1) := by decide +kernel
theorem q_208_26 : js_I 208 26 = some (.iconst 1, 1) := by decide +kernel
theorem q_208_27 : js_I 208 27 = some (.putfield 153, 3) := by decide +kernel
theorem q_208_30 : js_I 208 30 = some (.aload_n 0, 1) := by decide +kernel
theorem q_208_31 : js_I 208 31 = some (.invokevirtual 68, 3) := by decide +kernel
theorem q_208_37 : js_I 208 37 = some (.iload_n 1, 1) := by decide +kernel
theorem q_208_38 : js_I 208 38 = some (.ifCond .lt 45, 3) := by decide +kernel
theorem q_208_41 : js_I 208 41 = some (.aload_n 0, 1) := by decide +kernel
theorem q_208_42 : js_I 208 42 = some (.getfield 99, 3) := by decide +kernel
theorem q_208_45 : js_I 208 45 = some (.iload_n 1, 1) := by decide +kernel
theorem q_208_46 : js_I 208 46 = some (.iaload, 1) := by decide +kernel
theorem q_208_47 : js_I 208 47 = some (.bipush 8, 2) := by decide +kernel
theorem q_208_49 : js_I 208 49 = some (.if_icmp .ne 34, 3) := by decide +kernel
theorem q_208_52 : js_I 208 52 = some (.aload_n 0, 1) := by decide +kernel
theorem q_208_53 : js_I 208 53 = some (.iconst 3, 1) := by decide +kernel
theorem q_208_54 : js_I 208 54 = some (.iload_n 1, 1) := by decide +kernel
theorem q_208_55 : js_I 208 55 = some (.iadd, 1) := by decide +kernel
theorem q_208_56 : js_I 208 56 = some (.putfield 147, 3) := by decide +kernel
theorem q_208_59 : js_I 208 59 = some (.aload_n 0, 1) := by decide +kernel
theorem q_208_60 : js_I 208 60 = some (.iconst 0, 1) := by decide +kernel
theorem q_208_61 : js_I 208 61 = some (.putfield 150, 3) := by decide +kernel
theorem q_208_64 : js_I 208 64 = some (.aload_n 0, 1) := by decide +kernel
theorem q_208_65 : js_I 208 65 = some (.aload_n 0, 1) := by decide +kernel
theorem q_208_66 : js_I 208 66 = some (.getfield 114, 3) := by decide +kernel
theorem q_208_69 : js_I 208 69 = some (.iload_n 1, 1) := by decide +kernel
theorem q_208_70 : js_I 208 70 = some (.iaload, 1) := by decide +kernel
theorem q_208_71 : js_I 208 71 = some (.iconst 1, 1) := by decide +kernel
theorem q_208_72 : js_I 208 72 = some (.isub, 1) := by decide +kernel
theorem q_208_73 : js_I 208 73 = some (.putfield 153, 3) := by decide +kernel
theorem q_208_76 : js_I 208 76 = some (.aload_n 0, 1) := by decide +kernel
theorem q_208_77 : js_I 208 77 = some (.invokevirtual 68, 3) := by decide +kernel
theorem q_208_34 : js_I 208 34 = some (.goto 122, 3) := by decide +kernel
theorem q_208_80 : js_I 208 80 = some (.goto 76, 3) := by decide +kernel
theorem q_208_83 : js_I 208 83 = some (.aload_n 0, 1) := by decide +kernel
theorem q_208_84 : js_I 208 84 = some (.iconst 0, 1) := by decide +kernel
theorem q_208_85 : js_I 208 85 = some (.invokevirtual 156, 3) := by decide +kernel
theorem q_208_88 : js_I 208 88 = some (.aload_n 0, 1) := by decide +kernel
theorem q_208_89 : js_I 208 89 = some (.aload_n 0, 1) := by decide +kernel
theorem q_208_90 : js_I 208 90 = some (.getfield 141, 3) := by decide +kernel
theorem q_208_93 : js_I 208 93 = some (.putfield 150, 3) := by decide +kernel
theorem q_208_96 : js_I 208 96 = some (.aload_n 0, 1) := by decide +kernel
theorem q_208_97 : js_I 208 97 = some (.invokevirtual 68, 3) := by decide +kernel
theorem q_208_100 : js_I 208 100 = some (.aload_n 0, 1) := by decide +kernel
theorem q_208_101 : js_I 208 101 = some (.sipush 200, 3) := by decide +kernel
theorem q_208_104 : js_I 208 104 = some (.invokevirtual 75, 3) := by decide +kernel
theorem q_208_107 : js_I 208 107 = some (.aload_n 0, 1) := by decide +kernel
theorem q_208_108 : js_I 208 108 = some (.iconst 0, 1) := by decide +kernel
theorem q_208_109 : js_I 208 109 = some (.invokevirtual 156, 3) := by decide +kernel
theorem q_208_112 : js_I 208 112 = some (.aload_n 0, 1) := by decide +kernel
theorem q_208_113 : js_I 208 113 = some (.getfield 22, 3) := by decide +kernel
theorem q_208_116 : js_I 208 116 = some (.ifCond .ne 23, 3) := by decide +kernel
theorem q_208_119 : js_I 208 119 = some (.aload_n 0, 1) := by decide +kernel
theorem q_208_120 : js_I 208 120 = some (.getfield 141, 3) := by decide +kernel
theorem q_208_123 : js_I 208 123 = some (.aload_n 0, 1) := by decide +kernel
theorem q_208_124 : js_I 208 124 = some (.getfield 150, 3) := by decide +kernel
theorem q_208_127 : js_I 208 127 = some (.if_icmp .ge 12, 3) := by decide +kernel
theorem q_208_130 : js_I 208 130 = some (.aload_n 0, 1) := by decide +kernel
theorem q_208_131 : js_I 208 131 = some (.iconst 4, 1) := by decide +kernel
theorem q_208_132 : js_I 208 132 = some (.aload_n 0, 1) := by decide +kernel
theorem q_208_133 : js_I 208 133 = some (.getfield 135, 3) := by decide +kernel
theorem q_208_136 : js_I 208 136 = some (.invokevirtual 65, 3) := by decide +kernel
theorem q_208_139 : js_I 208 139 = some (.aload_n 0, 1) := by decide +kernel
theorem q_208_140 : js_I 208 140 = some (.aload_n 0, 1) := by decide +kernel
theorem q_208_141 : js_I 208 141 = some (.getfield 141, 3) := by decide +kernel
theorem q_208_144 : js_I 208 144 = some (.putfield 153, 3) := by decide +kernel
theorem q_208_147 : js_I 208 147 = some (.aload_n 0, 1) := by decide +kernel
theorem q_208_148 : js_I 208 148 = some (.iconst 0, 1) := by decide +kernel
theorem q_208_149 : js_I 208 149 = some (.putfield 147, 3) := by decide +kernel
theorem q_208_152 : js_I 208 152 = some (.aload_n 0, 1) := by decide +kernel
theorem q_208_153 : js_I 208 153 = some (.invokevirtual 68, 3) := by decide +kernel
theorem q_208_156 : js_I 208 156 = some (.return_, 1) := by decide +kernel
theorem q_209_0 : js_I 209 0 = some (.aload_n 0, 1) := by decide +kernel
theorem q_209_1 : js_I 209 1 = some (.invokevirtual 144, 3) := by decide +kernel
theorem q_209_4 : js_I 209 4 = some (.aload_n 0, 1) := by decide +kernel
theorem q_209_5 : js_I 209 5 = some (.getfield 22, 3) := by decide +kernel
theorem q_209_8 : js_I 209 8 = some (.ifCond .ne 20, 3) := by decide +kernel
theorem q_209_11 : js_I 209 11 = some (.aload_n 0, 1) := by decide +kernel
theorem q_209_12 : js_I 209 12 = some (.getfield 138, 3) := by decide +kernel
theorem q_209_15 : js_I 209 15 = some (.iload_n 1, 1) := by decide +kernel
theorem q_209_16 : js_I 209 16 = some (.if_icmp .eq 12, 3) := by decide +kernel
theorem q_209_19 : js_I 209 19 = some (.aload_n 0, 1) := by decide +kernel
theorem q_209_20 : js_I 209 20 = some (.iconst 5, 1) := by decide +kernel
theorem q_209_21 : js_I 209 21 = some (.aload_n 0, 1) := by decide +kernel
theorem q_209_22 : js_I 209 22 = some (.getfield 135, 3) := by decide +kernel
theorem q_209_25 : js_I 209 25 = some (.invokevirtual 65, 3) := by decide +kernel
theorem q_209_28 : js_I 209 28 = some (.return_, 1) := by decide +kernel
theorem q_210_0 : js_I 210 0 = some (.aload_n 0, 1) := by decide +kernel
theorem q_210_1 : js_I 210 1 = some (.getfield 102, 3) := by decide +kernel
theorem q_210_4 : js_I 210 4 = some (.iload_n 1, 1) := by decide +kernel
theorem q_210_5 : js_I 210 5 = some (.aload_n 0, 1) := by decide +kernel
theorem q_210_6 : js_I 210 6 = some (.getfield 147, 3) := by decide +kernel
theorem q_210_9 : js_I 210 9 = some (.iastore, 1) := by decide +kernel
theorem q_210_10 : js_I 210 10 = some (.aload_n 0, 1) := by decide +kernel
theorem q_210_11 : js_I 210 11 = some (.getfield 105, 3) := by decide +kernel
theorem q_210_14 : js_I 210 14 = some (.iload_n 1, 1) := by decide +kernel
theorem q_210_15 : js_I 210 15 = some (.aload_n 0, 1) := by decide +kernel
theorem q_210_16 : js_I 210 16 = some (.getfield 150, 3) := by decide +kernel
theorem q_210_19 : js_I 210 19 = some (.iastore, 1) := by decide +kernel
theorem q_210_20 : js_I 210 20 = some (.aload_n 0, 1) := by decide +kernel
theorem q_210_21 : js_I 210 21 = some (.getfield 108, 3) := by decide +kernel
theorem q_210_24 : js_I 210 24 = some (.iload_n 1, 1) := by decide +kernel
theorem q_210_25 : js_I 210 25 = some (.aload_n 0, 1) := by decide +kernel
theorem q_210_26 : js_I 210 26 = some (.getfield 153, 3) := by decide +kernel
theorem q_210_29 : js_I 210 29 = some (.iastore, 1) := by decide +kernel
theorem q_210_30 : js_I 210 30 = some (.return_, 1) := by decide +kernel
theorem q_211_0 : js_I 211 0 = some (.aload_n 0, 1) := by decide +kernel
theorem q_211_1 : js_I 211 1 = some (.iload_n 1, 1) := by decide +kernel
theorem q_211_2 : js_I 211 2 = some (.invokevirtual 75, 3) := by decide +kernel
theorem q_211_5 : js_I 211 5 = some (.aload_n 0, 1) := by decide +kernel
theorem q_211_6 : js_I 211 6 = some (.dup, 1) := by decide +kernel
theorem q_211_7 : js_I 211 7 = some (.getfield 72, 3) := by decide +kernel
theorem q_211_10 : js_I 211 10 = some (.iconst 1, 1) := by decide +kernel
theorem q_211_11 : js_I 211 11 = some (.isub, 1) := by decide +kernel
theorem q_211_12 : js_I 211 12 = some (.putfield 72, 3) := by decide +kernel
theorem q_211_15 : js_I 211 15 = some (.return_, 1) := by decide +kernel
theorem q_212_0 : js_I 212 0 = some (.iconst (-1), 1) := by decide +kernel
theorem q_212_1 : js_I 212 1 = some (.istore_n 1, 1) := by decide +kernel
theorem q_212_2 : js_I 212 2 = some (.iconst (-1), 1) := by decide +kernel
theorem q_212_3 : js_I 212 3 = some (.istore_n 2, 1) := by decide +kernel
theorem q_212_4 : js_I 212 4 = some (.aload_n 0, 1) := by decide +kernel
theorem q_212_5 : js_I 212 5 = some (.getfield 22, 3) := by decide +kernel
theorem q_212_8 : js_I 212 8 = some (.ifCond .ne 64, 3) := by decide +kernel
theorem q_212_11 : js_I 212 11 = some (.aload_n 0, 1) := by decide +kernel
theorem q_212_12 : js_I 212 12 = some (.getfield 25, 3) := by decide +kernel
theorem q_212_15 : js_I 212 15 = some (.bipush 125, 2) := by decide +kernel
theorem q_212_17 : js_I 212 17 = some (.if_icmp .eq 55, 3) := by decide +kernel
theorem q_212_72 : js_I 212 72 = some (.iload_n 1, 1) := by decide +kernel
theorem q_212_73 : js_I 212 73 = some (.ireturn, 1) := by decide +kernel
theorem q_212_20 : js_I 212 20 = some (.aload_n 0, 1) := by decide +kernel
theorem q_212_21 : js_I 212 21 = some (.getfield 25, 3) := by decide +kernel
theorem q_212_24 : js_I 212 24 = some (.sipush 313, 3) := by decide +kernel
theorem q_212_27 : js_I 212 27 = some (.if_icmp .eq 45, 3) := by decide +kernel
theorem q_212_30 : js_I 212 30 = some (.aload_n 0, 1) := by decide +kernel
theorem q_212_31 : js_I 212 31 = some (.invokevirtual 287, 3) := by decide +kernel
theorem q_212_34 : js_I 212 34 = some (.istore_n 3, 1) := by decide +kernel
theorem q_212_35 : js_I 212 35 = some (.aload_n 0, 1) := by decide +kernel
theorem q_212_36 : js_I 212 36 = some (.getfield 22, 3) := by decide +kernel
theorem q_212_39 : js_I 212 39 = some (.ifCond .le 5, 3) := by decide +kernel
theorem q_212_42 : js_I 212 42 = some (.iconst (-1), 1) := by decide +kernel
theorem q_212_43 : js_I 212 43 = some (.ireturn, 1) := by decide +kernel
theorem q_212_44 : js_I 212 44 = some (.iload_n 3, 1) := by decide +kernel
theorem q_212_45 : js_I 212 45 = some (.ifCond .ge 6, 3) := by decide +kernel
theorem q_212_48 : js_I 212 48 = some (.goto (-44), 3) := by decide +kernel
theorem q_212_51 : js_I 212 51 = some (.iload_n 2, 1) := by decide +kernel
theorem q_212_52 : js_I 212 52 = some (.ifCond .ge 8, 3) := by decide +kernel
theorem q_212_55 : js_I 212 55 = some (.iload_n 3, 1) := by decide +kernel
theorem q_212_56 : js_I 212 56 = some (.istore_n 1, 1) := by decide +kernel
theorem q_212_57 : js_I 212 57 = some (.goto 10, 3) := by decide +kernel
theorem q_212_60 : js_I 212 60 = some (.aload_n 0, 1) := by decide +kernel
theorem q_212_61 : js_I 212 61 = some (.getfield 190, 3) := by decide +kernel
theorem q_212_64 : js_I 212 64 = some (.iload_n 2, 1) := by decide +kernel
theorem q_212_65 : js_I 212 65 = some (.iload_n 3, 1) := by decide +kernel
theorem q_212_66 : js_I 212 66 = some (.iastore, 1) := by decide +kernel
theorem q_212_67 : js_I 212 67 = some (.iload_n 3, 1) := by decide +kernel
theorem q_212_68 : js_I 212 68 = some (.istore_n 2, 1) := by decide +kernel
theorem q_212_69 : js_I 212 69 = some (.goto (-65), 3) := by decide +kernel
theorem qf_12_135 : ip_lk (vt_FL.getD 12 []) 135 = some (12, 29) := by decide +kernel
theorem qf_12_337 : ip_lk (vt_FL.getD 12 []) 337 = some (12, 56) := by decide +kernel
theorem qf_12_340 : ip_lk (vt_FL.getD 12 []) 340 = some (12, 57) := by decide +kernel
theorem qf_12_147 : ip_lk (vt_FL.getD 12 []) 147 = some (12, 30) := by decide +kernel
theorem qf_12_150 : ip_lk (vt_FL.getD 12 []) 150 = some (12, 31) := by decide +kernel
theorem qf_12_153 : ip_lk (vt_FL.getD 12 []) 153 = some (12, 32) := by decide +kernel
theorem qf_12_190 : ip_lk (vt_FL.getD 12 []) 190 = some (12, 41) := by decide +kernel
theorem qm_12_480 : ip_lk (vt_ML.getD 12 []) 480 = some (205, 1, 1, 12) := by decide +kernel
theorem qm_12_159 : ip_lk (vt_ML.getD 12 []) 159 = some (207, 1, 1, 12) := by decide +kernel
theorem qm_12_162 : ip_lk (vt_ML.getD 12 []) 162 = some (211, 1, 1, 12) := by decide +kernel
theorem qm_12_290 : ip_lk (vt_ML.getD 12 []) 290 = some (212, 0, 1, 12) := by decide +kernel
theorem qm_12_280 : ip_lk (vt_ML.getD 12 []) 280 = some (218, 3, 1, 12) := by decide +kernel
theorem qm_12_293 : ip_lk (vt_ML.getD 12 []) 293 = some (240, 1, 1, 12) := by decide +kernel
theorem qm_12_156 : ip_lk (vt_ML.getD 12 []) 156 = some (209, 1, 1, 12) := by decide +kernel
theorem qm_12_287 : ip_lk (vt_ML.getD 12 []) 287 = some (213, 0, 1, 12) := by decide +kernel
theorem ww_3 : js_w 3 = 3 := by decide +kernel
theorem ww_316 : js_w 316 = 316 := by decide +kernel
theorem ww_317 : js_w 317 = 317 := by decide +kernel
theorem ww_9 : js_w 9 = 9 := by decide +kernel
theorem ww_64 : js_w 64 = 64 := by decide +kernel
theorem ww_315 : js_w 315 = 315 := by decide +kernel
theorem ww_313 : js_w 313 = 313 := by decide +kernel
-- 203: VitalTwinModel.constant ()V
theorem b_203_0 {E : js_E} {d : Nat} {σ : js_S} : js_J E d 203 0 [(2, 83), (9, 0), (9, 0)] [] σ = (if js_w (σ 83 5) = 45 then js_J E d 203 22 [(2, 83), (9, 0), (9, 0)] [(0, 1)] (js_up σ 83 29 (σ 83 6)) else js_J E d 203 22 [(2, 83), (9, 0), (9, 0)] [(0, 0)] (js_up σ 83 29 (σ 83 6))) :=
  (j_aload_n q_203_0 rfl).trans <| (j_aload_n q_203_1 rfl).trans <| (j_get (ji := 6) (v := (0, σ 83 6)) q_203_2 (js_Fo qy_203 qf_12_35) js_o83 rfl rfl rfl rfl).trans <| (j_putI (ji := 29) q_203_5 (js_Fo qy_203 qf_12_135) rfl js_o83 rfl rfl rfl).trans <| (j_aload_n q_203_8 rfl).trans <| (j_get (ji := 5) (v := (0, σ 83 5)) q_203_9 (js_Fo qy_203 qf_12_25) js_o83 rfl rfl rfl (congrArg (Prod.mk 0) ((js_up_ni _ (by decide))))).trans <| (j_bi q_203_12 rfl).trans <| (j_cmpneB (t := 21) q_203_14 rfl ww_45).trans (js_ite ((j_iconst q_203_17).trans <| (j_goto (t := 22) q_203_18 rfl).trans <| rfl) ((j_iconst q_203_21).trans <| rfl))
theorem b_203_22 {E : js_E} {d : Nat} {σ : js_S} {z0 : Int} : js_J E d 203 22 [(2, 83), (9, 0), (9, 0)] [(0, z0)] σ = (if js_w z0 = 0 then js_J E d 203 31 [(2, 83), (0, z0), (9, 0)] [] σ else js_J E d 203 28 [(2, 83), (0, z0), (9, 0)] [(2, 83)] σ) :=
  (j_istore_n (l2 := [(2, 83), (0, z0), (9, 0)]) q_203_22 rfl (Nat.le_of_ble_eq_true rfl)).trans <| (j_iload_n q_203_23 rfl).trans <| (j_ifeq (t := 31) q_203_24 rfl).trans (js_ite (rfl) ((j_aload_n q_203_27 rfl).trans <| rfl))
theorem k_203_28 {E : js_E} {d : Nat} {σ σ2 : js_S} {x1 : Int} (hd : 1 ≤ d) (hz : js_J E (d - 1) 191 0 [(2, 83), (9, 0), (9, 0), (9, 0), (9, 0), (9, 0)] [] σ = js_r0 E σ2) : js_J E d 203 28 [(2, 83), (0, x1), (9, 0)] [(2, 83)] σ = js_J E d 203 31 [(2, 83), (0, x1), (9, 0)] [] σ2 :=
  j_call0 (m := 5) (js_caV q_203_28 (js_Mo qy_203 qm_12_68)) (js_agV (av := []) (st := []) rfl rfl js_o83 rfl) rfl rfl (by rw [ql_191]; exact Nat.le_of_ble_eq_true rfl) (Nat.le_of_ble_eq_true rfl) hd hz
theorem b_203_31 {E : js_E} {d : Nat} {σ : js_S} {x1 : Int} : js_J E d 203 31 [(2, 83), (0, x1), (9, 0)] [] σ = js_J E d 203 32 [(2, 83), (0, x1), (9, 0)] [(2, 83)] σ :=
  (j_aload_n q_203_31 rfl).trans <| rfl
theorem k_203_32 {E : js_E} {d : Nat} {σ σ2 : js_S} {x1 : Int} {v : Int} (hd : 1 ≤ d) (hz : js_J E (d - 1) 200 0 [(2, 83), (9, 0)] [] σ = js_r E (0, v) σ2) : js_J E d 203 32 [(2, 83), (0, x1), (9, 0)] [(2, 83)] σ = js_J E d 203 35 [(2, 83), (0, x1), (9, 0)] [(0, v)] σ2 :=
  j_call (m := 1) (js_caV q_203_32 (js_Mo qy_203 qm_12_96)) (js_agV (av := []) (st := []) rfl rfl js_o83 rfl) rfl rfl (by rw [ql_200]; exact Nat.le_of_ble_eq_true rfl) (Nat.le_of_ble_eq_true rfl) hd hz
theorem b_203_35 {E : js_E} {d : Nat} {σ : js_S} {x1 z0 : Int} : js_J E d 203 35 [(2, 83), (0, x1), (9, 0)] [(0, z0)] σ = (if js_w (σ 83 5) = 3 then js_J E d 203 186 [(2, 83), (0, x1), (0, z0)] [] (js_up (js_up σ 83 27 0) 83 28 (σ 83 8)) else (if js_w x1 = 0 then (if js_w (σ 83 5) = 316 then js_J E d 203 84 [(2, 83), (0, x1), (0, z0)] [] σ else (if js_w (σ 83 5) = 317 then js_J E d 203 84 [(2, 83), (0, x1), (0, z0)] [] σ else js_J E d 203 111 [(2, 83), (0, x1), (0, z0)] [] σ)) else js_J E d 203 111 [(2, 83), (0, x1), (0, z0)] [] σ)) :=
  (j_istore_n (l2 := [(2, 83), (0, x1), (0, z0)]) q_203_35 rfl (Nat.le_of_ble_eq_true rfl)).trans <| (j_aload_n q_203_36 rfl).trans <| (j_get (ji := 5) (v := (0, σ 83 5)) q_203_37 (js_Fo qy_203 qf_12_25) js_o83 rfl rfl rfl rfl).trans <| (j_iconst q_203_40).trans <| (j_cmpneB (t := 60) q_203_41 rfl ww_3).trans (js_ite ((j_aload_n q_203_44 rfl).trans <| (j_iconst q_203_45).trans <| (j_putI (ji := 27) q_203_46 (js_Fo qy_203 qf_12_138) rfl js_o83 rfl rfl rfl).trans <| (j_aload_n q_203_49 rfl).trans <| (j_aload_n q_203_50 rfl).trans <| (j_get (ji := 8) (v := (0, σ 83 8)) q_203_51 (js_Fo qy_203 qf_12_53) js_o83 rfl rfl rfl (congrArg (Prod.mk 0) ((js_up_ni _ (by decide))))).trans <| (j_putI (ji := 28) q_203_54 (js_Fo qy_203 qf_12_141) rfl js_o83 rfl rfl rfl).trans <| (j_goto (t := 186) q_203_57 rfl).trans <| rfl) ((j_iload_n q_203_60 rfl).trans <| (j_ifne (t := 111) q_203_61 rfl).trans (js_ite ((j_aload_n q_203_64 rfl).trans <| (j_get (ji := 5) (v := (0, σ 83 5)) q_203_65 (js_Fo qy_203 qf_12_25) js_o83 rfl rfl rfl rfl).trans <| (j_si q_203_68 rfl).trans <| (j_cmpeqB (t := 84) q_203_71 rfl ww_316).trans (js_ite (rfl) ((j_aload_n q_203_74 rfl).trans <| (j_get (ji := 5) (v := (0, σ 83 5)) q_203_75 (js_Fo qy_203 qf_12_25) js_o83 rfl rfl rfl rfl).trans <| (j_si q_203_78 rfl).trans <| (j_cmpneB (t := 111) q_203_81 rfl ww_317).trans (js_ite (rfl) (rfl))))) (rfl))))
theorem b_203_84 {E : js_E} {d : Nat} {σ : js_S} {x1 x2 : Int} : js_J E d 203 84 [(2, 83), (0, x1), (0, x2)] [] σ = (if js_w (σ 83 5) = 316 then js_J E d 203 105 [(2, 83), (0, x1), (0, x2)] [(0, 1), (2, 83)] (js_up σ 83 27 1) else js_J E d 203 105 [(2, 83), (0, x1), (0, x2)] [(0, 0), (2, 83)] (js_up σ 83 27 1)) :=
  (j_aload_n q_203_84 rfl).trans <| (j_iconst q_203_85).trans <| (j_putI (ji := 27) q_203_86 (js_Fo qy_203 qf_12_138) rfl js_o83 rfl rfl rfl).trans <| (j_aload_n q_203_89 rfl).trans <| (j_aload_n q_203_90 rfl).trans <| (j_get (ji := 5) (v := (0, σ 83 5)) q_203_91 (js_Fo qy_203 qf_12_25) js_o83 rfl rfl rfl (congrArg (Prod.mk 0) ((js_up_ni _ (by decide))))).trans <| (j_si q_203_94 rfl).trans <| (j_cmpneB (t := 104) q_203_97 rfl ww_316).trans (js_ite ((j_iconst q_203_100).trans <| (j_goto (t := 105) q_203_101 rfl).trans <| rfl) ((j_iconst q_203_104).trans <| rfl))
theorem b_203_105 {E : js_E} {d : Nat} {σ : js_S} {x1 x2 z1 : Int} : js_J E d 203 105 [(2, 83), (0, x1), (0, x2)] [(0, z1), (2, 83)] σ = js_J E d 203 186 [(2, 83), (0, x1), (0, x2)] [] (js_up σ 83 28 z1) :=
  (j_putI (ji := 28) q_203_105 (js_Fo qy_203 qf_12_141) rfl js_o83 rfl rfl rfl).trans <| (j_goto (t := 186) q_203_108 rfl).trans <| rfl
theorem b_203_111 {E : js_E} {d : Nat} {σ : js_S} {x1 x2 : Int} : js_J E d 203 111 [(2, 83), (0, x1), (0, x2)] [] σ = (if js_w (σ 83 5) = 2 then (if js_w x2 < 0 then js_J E d 203 143 [(2, 83), (0, x1), (0, x2)] [] σ else (if 0 ≤ js_w x2 ∧ js_w x2 < 400 then (if js_w (σ 86 (js_w x2)) = 0 then js_J E d 203 153 [(2, 83), (0, x1), (0, x2)] [] σ else (if js_w (σ 86 (js_w x2)) = 9 then js_J E d 203 153 [(2, 83), (0, x1), (0, x2)] [] σ else js_J E d 203 143 [(2, 83), (0, x1), (0, x2)] [] σ)) else none)) else js_J E d 203 182 [(2, 83), (0, x1), (0, x2)] [(0, σ 83 6), (0, 1), (2, 83)] σ) :=
  (j_aload_n q_203_111 rfl).trans <| (j_get (ji := 5) (v := (0, σ 83 5)) q_203_112 (js_Fo qy_203 qf_12_25) js_o83 rfl rfl rfl rfl).trans <| (j_iconst q_203_115).trans <| (j_cmpneB (t := 176) q_203_116 rfl ww_2).trans (js_ite ((j_iload_n q_203_119 rfl).trans <| (j_iflt (t := 143) q_203_120 rfl).trans (js_ite (rfl) ((j_aload_n q_203_123 rfl).trans <| (j_get (ji := 12) (v := (2, 86)) q_203_124 (js_Fo qy_203 qf_12_99) js_o83 rfl rfl rfl rfl).trans <| (j_iload_n q_203_127 rfl).trans <| (j_iaload q_203_128 js_o86).trans <| js_itp fun g0 => (j_ifeq (t := 153) q_203_129 rfl).trans (js_ite (rfl) ((j_aload_n q_203_132 rfl).trans <| (j_get (ji := 12) (v := (2, 86)) q_203_133 (js_Fo qy_203 qf_12_99) js_o83 rfl rfl rfl rfl).trans <| (j_iload_n q_203_136 rfl).trans <| (j_iaload q_203_137 js_o86).trans <| (if_pos g0).trans <| (j_bi q_203_138 rfl).trans <| (j_cmpeqB (t := 153) q_203_140 rfl ww_9).trans (js_ite (rfl) (rfl))))))) ((j_aload_n q_203_176 rfl).trans <| (j_iconst q_203_177).trans <| (j_aload_n q_203_178 rfl).trans <| (j_get (ji := 6) (v := (0, σ 83 6)) q_203_179 (js_Fo qy_203 qf_12_35) js_o83 rfl rfl rfl rfl).trans <| rfl))
theorem b_203_143 {E : js_E} {d : Nat} {σ : js_S} {x1 x2 : Int} : js_J E d 203 143 [(2, 83), (0, x1), (0, x2)] [] σ = js_J E d 203 149 [(2, 83), (0, x1), (0, x2)] [(0, σ 83 6), (0, 3), (2, 83)] σ :=
  (j_aload_n q_203_143 rfl).trans <| (j_iconst q_203_144).trans <| (j_aload_n q_203_145 rfl).trans <| (j_get (ji := 6) (v := (0, σ 83 6)) q_203_146 (js_Fo qy_203 qf_12_35) js_o83 rfl rfl rfl rfl).trans <| rfl
theorem k_203_149 {E : js_E} {d : Nat} {σ σ2 : js_S} {x1 x2 z1 z2 : Int} (hd : 1 ≤ d) (hz : js_J E (d - 1) 199 0 [(2, 83), (0, z1), (0, z2)] [] σ = js_r0 E σ2) : js_J E d 203 149 [(2, 83), (0, x1), (0, x2)] [(0, z2), (0, z1), (2, 83)] σ = js_J E d 203 152 [(2, 83), (0, x1), (0, x2)] [] σ2 :=
  j_call0 (m := 0) (js_caV q_203_149 (js_Mo qy_203 qm_12_65)) (js_agV (av := [(0, z1), (0, z2)]) (st := []) rfl rfl js_o83 rfl) rfl rfl (by rw [ql_199]; exact Nat.le_of_ble_eq_true rfl) (Nat.le_of_ble_eq_true rfl) hd hz
theorem b_203_152 {E : js_E} {d : Nat} {σ : js_S} {x1 x2 : Int} : js_J E d 203 152 [(2, 83), (0, x1), (0, x2)] [] σ = js_r0 E σ :=
  j_return q_203_152 qr_203
theorem b_203_153 {E : js_E} {d : Nat} {σ : js_S} {x1 x2 : Int} : js_J E d 203 153 [(2, 83), (0, x1), (0, x2)] [] σ = (if 0 ≤ js_w x2 ∧ js_w x2 < 400 then js_J E d 203 186 [(2, 83), (0, x1), (0, x2)] [] (js_up (js_up σ 83 27 (σ 87 (js_w x2))) 83 28 (σ 94 (js_w x2))) else none) :=
  (j_aload_n q_203_153 rfl).trans <| (j_aload_n q_203_154 rfl).trans <| (j_get (ji := 13) (v := (2, 87)) q_203_155 (js_Fo qy_203 qf_12_102) js_o83 rfl rfl rfl rfl).trans <| (j_iload_n q_203_158 rfl).trans <| (j_iaload q_203_159 js_o87).trans <| js_itp fun g0 => (j_putI (ji := 27) q_203_160 (js_Fo qy_203 qf_12_138) rfl js_o83 rfl rfl rfl).trans <| (j_aload_n q_203_163 rfl).trans <| (j_aload_n q_203_164 rfl).trans <| (j_get (ji := 20) (v := (2, 94)) q_203_165 (js_Fo qy_203 qf_12_126) js_o83 rfl rfl rfl rfl).trans <| (j_iload_n q_203_168 rfl).trans <| (j_ialoadv q_203_169 js_o94 ((js_up_na _ (by decide)))).trans <| (if_pos g0).trans <| (j_putI (ji := 28) q_203_170 (js_Fo qy_203 qf_12_141) rfl js_o83 rfl rfl rfl).trans <| (j_goto (t := 186) q_203_173 rfl).trans <| rfl
theorem k_203_182 {E : js_E} {d : Nat} {σ σ2 : js_S} {x1 x2 z1 z2 : Int} (hd : 1 ≤ d) (hz : js_J E (d - 1) 199 0 [(2, 83), (0, z1), (0, z2)] [] σ = js_r0 E σ2) : js_J E d 203 182 [(2, 83), (0, x1), (0, x2)] [(0, z2), (0, z1), (2, 83)] σ = js_J E d 203 185 [(2, 83), (0, x1), (0, x2)] [] σ2 :=
  j_call0 (m := 0) (js_caV q_203_182 (js_Mo qy_203 qm_12_65)) (js_agV (av := [(0, z1), (0, z2)]) (st := []) rfl rfl js_o83 rfl) rfl rfl (by rw [ql_199]; exact Nat.le_of_ble_eq_true rfl) (Nat.le_of_ble_eq_true rfl) hd hz
theorem b_203_185 {E : js_E} {d : Nat} {σ : js_S} {x1 x2 : Int} : js_J E d 203 185 [(2, 83), (0, x1), (0, x2)] [] σ = js_r0 E σ :=
  j_return q_203_185 qr_203
theorem b_203_186 {E : js_E} {d : Nat} {σ : js_S} {x1 x2 : Int} : js_J E d 203 186 [(2, 83), (0, x1), (0, x2)] [] σ = (if js_w x1 = 0 then js_J E d 203 206 [(2, 83), (0, x1), (0, x2)] [] σ else (if js_w (σ 83 27) = 0 then js_J E d 203 206 [(2, 83), (0, x1), (0, x2)] [] σ else js_J E d 203 203 [(2, 83), (0, x1), (0, x2)] [(0, σ 83 29), (0, 5), (2, 83)] σ)) :=
  (j_iload_n q_203_186 rfl).trans <| (j_ifeq (t := 206) q_203_187 rfl).trans (js_ite (rfl) ((j_aload_n q_203_190 rfl).trans <| (j_get (ji := 27) (v := (0, σ 83 27)) q_203_191 (js_Fo qy_203 qf_12_138) js_o83 rfl rfl rfl rfl).trans <| (j_ifeq (t := 206) q_203_194 rfl).trans (js_ite (rfl) ((j_aload_n q_203_197 rfl).trans <| (j_iconst q_203_198).trans <| (j_aload_n q_203_199 rfl).trans <| (j_get (ji := 29) (v := (0, σ 83 29)) q_203_200 (js_Fo qy_203 qf_12_135) js_o83 rfl rfl rfl rfl).trans <| rfl))))
theorem k_203_203 {E : js_E} {d : Nat} {σ σ2 : js_S} {x1 x2 z1 z2 : Int} (hd : 1 ≤ d) (hz : js_J E (d - 1) 199 0 [(2, 83), (0, z1), (0, z2)] [] σ = js_r0 E σ2) : js_J E d 203 203 [(2, 83), (0, x1), (0, x2)] [(0, z2), (0, z1), (2, 83)] σ = js_J E d 203 206 [(2, 83), (0, x1), (0, x2)] [] σ2 :=
  j_call0 (m := 0) (js_caV q_203_203 (js_Mo qy_203 qm_12_65)) (js_agV (av := [(0, z1), (0, z2)]) (st := []) rfl rfl js_o83 rfl) rfl rfl (by rw [ql_199]; exact Nat.le_of_ble_eq_true rfl) (Nat.le_of_ble_eq_true rfl) hd hz
theorem b_203_206 {E : js_E} {d : Nat} {σ : js_S} {x1 x2 : Int} : js_J E d 203 206 [(2, 83), (0, x1), (0, x2)] [] σ = (if js_w x1 = 0 then js_r0 E σ else js_r0 E (js_up σ 83 28 (-(σ 83 28)))) :=
  (j_iload_n q_203_206 rfl).trans <| (j_ifeq (t := 219) q_203_207 rfl).trans (js_ite (j_return q_203_219 qr_203) ((j_aload_n q_203_210 rfl).trans <| (j_aload_n q_203_211 rfl).trans <| (j_get (ji := 28) (v := (0, σ 83 28)) q_203_212 (js_Fo qy_203 qf_12_141) js_o83 rfl rfl rfl rfl).trans <| (j_ineg q_203_215).trans <| (j_putI (ji := 28) q_203_216 (js_Fo qy_203 qf_12_141) rfl js_o83 rfl rfl rfl).trans <| j_return q_203_219 qr_203))
-- 204: VitalTwinModel.members ()V
theorem b_204_0 {E : js_E} {d : Nat} {σ : js_S} : js_J E d 204 0 [(2, 83), (9, 0), (9, 0), (9, 0), (9, 0)] [] σ = js_J E d 204 4 [(2, 83), (9, 0), (9, 0), (9, 0), (9, 0)] [(0, (-1)), (0, 8), (2, 83)] σ :=
  (j_aload_n q_204_0 rfl).trans <| (j_bi q_204_1 rfl).trans <| (j_iconst q_204_3).trans <| rfl
theorem k_204_4 {E : js_E} {d : Nat} {σ σ2 : js_S} {z1 z2 : Int} {v : Int} (hd : 1 ≤ d) (hz : js_J E (d - 1) 198 0 [(2, 83), (0, z1), (0, z2), (9, 0), (9, 0)] [] σ = js_r E (0, v) σ2) : js_J E d 204 4 [(2, 83), (9, 0), (9, 0), (9, 0), (9, 0)] [(0, z2), (0, z1), (2, 83)] σ = js_J E d 204 7 [(2, 83), (9, 0), (9, 0), (9, 0), (9, 0)] [(0, v)] σ2 :=
  j_call (m := 2) (js_caV q_204_4 (js_Mo qy_204 qm_12_314)) (js_agV (av := [(0, z1), (0, z2)]) (st := []) rfl rfl js_o83 rfl) rfl rfl (by rw [ql_198]; exact Nat.le_of_ble_eq_true rfl) (Nat.le_of_ble_eq_true rfl) hd hz
theorem b_204_7 {E : js_E} {d : Nat} {σ : js_S} {z0 : Int} : js_J E d 204 7 [(2, 83), (9, 0), (9, 0), (9, 0), (9, 0)] [(0, z0)] σ = (if 0 < js_w (σ 83 9) then js_r0 E σ else (if 0 ≤ js_w z0 ∧ js_w z0 < 400 then js_J E d 204 35 [(2, 83), (0, z0), (9, 0), (9, 0), (9, 0)] [(0, 61), (2, 83)] (js_up (js_up σ 99 (js_w z0) (js_iand 1 1)) 87 (js_w z0) (3 + z0)) else none)) :=
  (j_istore_n (l2 := [(2, 83), (0, z0), (9, 0), (9, 0), (9, 0)]) q_204_7 rfl (Nat.le_of_ble_eq_true rfl)).trans <| (j_aload_n q_204_8 rfl).trans <| (j_get (ji := 9) (v := (0, σ 83 9)) q_204_9 (js_Fo qy_204 qf_12_22) js_o83 rfl rfl rfl rfl).trans <| (j_ifle (t := 16) q_204_12 rfl).trans (js_ite (j_return q_204_15 qr_204) ((j_aload_n q_204_16 rfl).trans <| (j_get (ji := 25) (v := (2, 99)) q_204_17 (js_Fo qy_204 qf_12_89) js_o83 rfl rfl rfl rfl).trans <| (j_iload_n q_204_20 rfl).trans <| (j_iconst q_204_21).trans <| (j_zastore q_204_22 js_o99).trans <| js_itp fun g0 => (j_aload_n q_204_23 rfl).trans <| (j_get (ji := 13) (v := (2, 87)) q_204_24 (js_Fo qy_204 qf_12_102) js_o83 rfl rfl rfl rfl).trans <| (j_iload_n q_204_27 rfl).trans <| (j_iconst q_204_28).trans <| (j_iload_n q_204_29 rfl).trans <| (j_iadd q_204_30).trans <| (j_iastore q_204_31 js_o87).trans <| (if_pos g0).trans <| (j_aload_n q_204_32 rfl).trans <| (j_bi q_204_33 rfl).trans <| rfl))
theorem k_204_35 {E : js_E} {d : Nat} {σ σ2 : js_S} {x1 z1 : Int} (hd : 1 ≤ d) (hz : js_J E (d - 1) 202 0 [(2, 83), (0, z1)] [] σ = js_r0 E σ2) : js_J E d 204 35 [(2, 83), (0, x1), (9, 0), (9, 0), (9, 0)] [(0, z1), (2, 83)] σ = js_J E d 204 38 [(2, 83), (0, x1), (9, 0), (9, 0), (9, 0)] [] σ2 :=
  j_call0 (m := 0) (js_caV q_204_35 (js_Mo qy_204 qm_12_75)) (js_agV (av := [(0, z1)]) (st := []) rfl rfl js_o83 rfl) rfl rfl (by rw [ql_202]; exact Nat.le_of_ble_eq_true rfl) (Nat.le_of_ble_eq_true rfl) hd hz
theorem b_204_38 {E : js_E} {d : Nat} {σ : js_S} {x1 : Int} : js_J E d 204 38 [(2, 83), (0, x1), (9, 0), (9, 0), (9, 0)] [] σ = js_J E d 204 42 [(2, 83), (0, x1), (0, 0), (0, 1), (9, 0)] [] σ :=
  (j_iconst q_204_38).trans <| (j_istore_n (l2 := [(2, 83), (0, x1), (0, 0), (9, 0), (9, 0)]) q_204_39 rfl (Nat.le_of_ble_eq_true rfl)).trans <| (j_iconst q_204_40).trans <| (j_istore_n (l2 := [(2, 83), (0, x1), (0, 0), (0, 1), (9, 0)]) q_204_41 rfl (Nat.le_of_ble_eq_true rfl)).trans <| rfl
theorem b_204_42 {E : js_E} {d : Nat} {σ : js_S} {x1 x2 x3 : Int} {ux4 : js_v} : js_J E d 204 42 [(2, 83), (0, x1), (0, x2), (0, x3), ux4] [] σ = (if js_w x3 = 0 then js_J E d 204 168 [(2, 83), (0, x1), (0, x2), (0, x3), ux4] [] σ else (if js_w (σ 83 9) = 0 then (if js_w x2 = 64 then js_J E d 204 61 [(2, 83), (0, x1), (0, x2), (0, x3), ux4] [(0, (-1)), (2, 83)] σ else js_J E d 204 64 [(2, 83), (0, x1), (0, x2), (0, x3), ux4] [] σ) else js_J E d 204 168 [(2, 83), (0, x1), (0, x2), (0, x3), ux4] [] σ)) :=
  (j_iload_n q_204_42 rfl).trans <| (j_ifeq (t := 168) q_204_43 rfl).trans (js_ite (rfl) ((j_aload_n q_204_46 rfl).trans <| (j_get (ji := 9) (v := (0, σ 83 9)) q_204_47 (js_Fo qy_204 qf_12_22) js_o83 rfl rfl rfl rfl).trans <| (j_ifne (t := 168) q_204_50 rfl).trans (js_ite ((j_iload_n q_204_53 rfl).trans <| (j_bi q_204_54 rfl).trans <| (j_cmpneB (t := 64) q_204_56 rfl ww_64).trans (js_ite ((j_aload_n q_204_59 rfl).trans <| (j_iconst q_204_60).trans <| rfl) (rfl))) (rfl))))
theorem k_204_61 {E : js_E} {d : Nat} {σ σ2 : js_S} {x1 x2 x3 z1 : Int} {ux4 : js_v} (hd : 1 ≤ d) (hz : js_J E (d - 1) 205 0 [(2, 83), (0, z1), (9, 0), (9, 0)] [] σ = js_r0 E σ2) : js_J E d 204 61 [(2, 83), (0, x1), (0, x2), (0, x3), ux4] [(0, z1), (2, 83)] σ = js_J E d 204 64 [(2, 83), (0, x1), (0, x2), (0, x3), ux4] [] σ2 :=
  j_call0 (m := 2) (js_caV q_204_61 (js_Mo qy_204 qm_12_480)) (js_agV (av := [(0, z1)]) (st := []) rfl rfl js_o83 rfl) rfl rfl (by rw [ql_205]; exact Nat.le_of_ble_eq_true rfl) (Nat.le_of_ble_eq_true rfl) hd hz
theorem b_204_64 {E : js_E} {d : Nat} {σ : js_S} {x1 x2 x3 : Int} {ux4 : js_v} : js_J E d 204 64 [(2, 83), (0, x1), (0, x2), (0, x3), ux4] [] σ = js_J E d 204 68 [(2, 83), (0, x1), (0, x2), (0, x3), ux4] [(0, (-1)), (0, 9), (2, 83)] σ :=
  (j_aload_n q_204_64 rfl).trans <| (j_bi q_204_65 rfl).trans <| (j_iconst q_204_67).trans <| rfl
theorem k_204_68 {E : js_E} {d : Nat} {σ σ2 : js_S} {x1 x2 x3 z1 z2 : Int} {ux4 : js_v} {v : Int} (hd : 1 ≤ d) (hz : js_J E (d - 1) 198 0 [(2, 83), (0, z1), (0, z2), (9, 0), (9, 0)] [] σ = js_r E (0, v) σ2) : js_J E d 204 68 [(2, 83), (0, x1), (0, x2), (0, x3), ux4] [(0, z2), (0, z1), (2, 83)] σ = js_J E d 204 71 [(2, 83), (0, x1), (0, x2), (0, x3), ux4] [(0, v)] σ2 :=
  j_call (m := 2) (js_caV q_204_68 (js_Mo qy_204 qm_12_314)) (js_agV (av := [(0, z1), (0, z2)]) (st := []) rfl rfl js_o83 rfl) rfl rfl (by rw [ql_198]; exact Nat.le_of_ble_eq_true rfl) (Nat.le_of_ble_eq_true rfl) hd hz
theorem b_204_71 {E : js_E} {d : Nat} {σ : js_S} {x1 x2 x3 z0 : Int} {ux4 : js_v} : js_J E d 204 71 [(2, 83), (0, x1), (0, x2), (0, x3), ux4] [(0, z0)] σ = (if 0 < js_w (σ 83 9) then js_r0 E σ else (if 0 ≤ js_w z0 ∧ js_w z0 < 400 then (if 0 ≤ js_w x1 ∧ js_w x1 < 400 then (if js_w (σ 83 5) = 44 then js_J E d 204 156 [(2, 83), (0, x1), (0, x2 + 1), (0, x3), (0, z0)] [(0, 1)] (js_up (js_up (js_up (js_up (js_up (js_up (js_up σ 87 (js_w z0) (3 + x1)) 88 (js_w z0) x2) 89 (js_w z0) x2) 94 (js_w z0) x2) 99 (js_w z0) (js_iand 1 1)) 91 (js_w x1) (x2 + 1)) 89 (js_w x1) ((x2 + 1) - 1)) else js_J E d 204 156 [(2, 83), (0, x1), (0, x2 + 1), (0, x3), (0, z0)] [(0, 0)] (js_up (js_up (js_up (js_up (js_up (js_up (js_up σ 87 (js_w z0) (3 + x1)) 88 (js_w z0) x2) 89 (js_w z0) x2) 94 (js_w z0) x2) 99 (js_w z0) (js_iand 1 1)) 91 (js_w x1) (x2 + 1)) 89 (js_w x1) ((x2 + 1) - 1))) else none) else none)) :=
  (j_istore (l2 := [(2, 83), (0, x1), (0, x2), (0, x3), (0, z0)]) q_204_71 rfl (Nat.le_of_ble_eq_true rfl)).trans <| (j_aload_n q_204_73 rfl).trans <| (j_get (ji := 9) (v := (0, σ 83 9)) q_204_74 (js_Fo qy_204 qf_12_22) js_o83 rfl rfl rfl rfl).trans <| (j_ifle (t := 81) q_204_77 rfl).trans (js_ite (j_return q_204_80 qr_204) ((j_aload_n q_204_81 rfl).trans <| (j_get (ji := 13) (v := (2, 87)) q_204_82 (js_Fo qy_204 qf_12_102) js_o83 rfl rfl rfl rfl).trans <| (j_iload q_204_85 rfl).trans <| (j_iconst q_204_87).trans <| (j_iload_n q_204_88 rfl).trans <| (j_iadd q_204_89).trans <| (j_iastore q_204_90 js_o87).trans <| js_itp fun g0 => (j_aload_n q_204_91 rfl).trans <| (j_get (ji := 14) (v := (2, 88)) q_204_92 (js_Fo qy_204 qf_12_105) js_o83 rfl rfl rfl rfl).trans <| (j_iload q_204_95 rfl).trans <| (j_iload_n q_204_97 rfl).trans <| (j_iastore q_204_98 js_o88).trans <| (if_pos g0).trans <| (j_aload_n q_204_99 rfl).trans <| (j_get (ji := 15) (v := (2, 89)) q_204_100 (js_Fo qy_204 qf_12_108) js_o83 rfl rfl rfl rfl).trans <| (j_iload q_204_103 rfl).trans <| (j_iload_n q_204_105 rfl).trans <| (j_iastore q_204_106 js_o89).trans <| (if_pos g0).trans <| (j_aload_n q_204_107 rfl).trans <| (j_get (ji := 20) (v := (2, 94)) q_204_108 (js_Fo qy_204 qf_12_126) js_o83 rfl rfl rfl rfl).trans <| (j_iload q_204_111 rfl).trans <| (j_iload_n q_204_113 rfl).trans <| (j_iastore q_204_114 js_o94).trans <| (if_pos g0).trans <| (j_aload_n q_204_115 rfl).trans <| (j_get (ji := 25) (v := (2, 99)) q_204_116 (js_Fo qy_204 qf_12_89) js_o83 rfl rfl rfl rfl).trans <| (j_iload q_204_119 rfl).trans <| (j_iconst q_204_121).trans <| (j_zastore q_204_122 js_o99).trans <| (if_pos g0).trans <| (j_iinc (l2 := [(2, 83), (0, x1), (0, x2 + 1), (0, x3), (0, z0)]) q_204_123 rfl rfl).trans <| (j_aload_n q_204_126 rfl).trans <| (j_get (ji := 17) (v := (2, 91)) q_204_127 (js_Fo qy_204 qf_12_114) js_o83 rfl rfl rfl rfl).trans <| (j_iload_n q_204_130 rfl).trans <| (j_iload_n q_204_131 rfl).trans <| (j_iastore q_204_132 js_o91).trans <| js_itp fun g1 => (j_aload_n q_204_133 rfl).trans <| (j_get (ji := 15) (v := (2, 89)) q_204_134 (js_Fo qy_204 qf_12_108) js_o83 rfl rfl rfl rfl).trans <| (j_iload_n q_204_137 rfl).trans <| (j_iload_n q_204_138 rfl).trans <| (j_iconst q_204_139).trans <| (j_isub q_204_140).trans <| (j_iastore q_204_141 js_o89).trans <| (if_pos g1).trans <| (j_aload_n q_204_142 rfl).trans <| (j_get (ji := 5) (v := (0, σ 83 5)) q_204_143 (js_Fo qy_204 qf_12_25) js_o83 rfl rfl rfl (congrArg (Prod.mk 0) ((js_up_na _ (by decide)).trans <| (js_up_na _ (by decide)).trans <| (js_up_na _ (by decide)).trans <| (js_up_na _ (by decide)).trans <| (js_up_na _ (by decide)).trans <| (js_up_na _ (by decide)).trans <| (js_up_na _ (by decide))))).trans <| (j_bi q_204_146 rfl).trans <| (j_cmpneB (t := 155) q_204_148 rfl ww_44).trans (js_ite ((j_iconst q_204_151).trans <| (j_goto (t := 156) q_204_152 rfl).trans <| rfl) ((j_iconst q_204_155).trans <| rfl))))
theorem b_204_156 {E : js_E} {d : Nat} {σ : js_S} {x1 x2 x3 x4 z0 : Int} : js_J E d 204 156 [(2, 83), (0, x1), (0, x2), (0, x3), (0, x4)] [(0, z0)] σ = (if js_w z0 = 0 then js_J E d 204 165 [(2, 83), (0, x1), (0, x2), (0, z0), (0, x4)] [] σ else js_J E d 204 162 [(2, 83), (0, x1), (0, x2), (0, z0), (0, x4)] [(2, 83)] σ) :=
  (j_istore_n (l2 := [(2, 83), (0, x1), (0, x2), (0, z0), (0, x4)]) q_204_156 rfl (Nat.le_of_ble_eq_true rfl)).trans <| (j_iload_n q_204_157 rfl).trans <| (j_ifeq (t := 165) q_204_158 rfl).trans (js_ite (rfl) ((j_aload_n q_204_161 rfl).trans <| rfl))
theorem k_204_162 {E : js_E} {d : Nat} {σ σ2 : js_S} {x1 x2 x3 x4 : Int} (hd : 1 ≤ d) (hz : js_J E (d - 1) 191 0 [(2, 83), (9, 0), (9, 0), (9, 0), (9, 0), (9, 0)] [] σ = js_r0 E σ2) : js_J E d 204 162 [(2, 83), (0, x1), (0, x2), (0, x3), (0, x4)] [(2, 83)] σ = js_J E d 204 165 [(2, 83), (0, x1), (0, x2), (0, x3), (0, x4)] [] σ2 :=
  j_call0 (m := 5) (js_caV q_204_162 (js_Mo qy_204 qm_12_68)) (js_agV (av := []) (st := []) rfl rfl js_o83 rfl) rfl rfl (by rw [ql_191]; exact Nat.le_of_ble_eq_true rfl) (Nat.le_of_ble_eq_true rfl) hd hz
theorem b_204_165 {E : js_E} {d : Nat} {σ : js_S} {x1 x2 x3 x4 : Int} : js_J E d 204 165 [(2, 83), (0, x1), (0, x2), (0, x3), (0, x4)] [] σ = js_J E d 204 42 [(2, 83), (0, x1), (0, x2), (0, x3), (0, x4)] [] σ :=
  (j_goto (t := 42) q_204_165 rfl).trans <| rfl
theorem b_204_168 {E : js_E} {d : Nat} {σ : js_S} {x1 x2 x3 : Int} {ux4 : js_v} : js_J E d 204 168 [(2, 83), (0, x1), (0, x2), (0, x3), ux4] [] σ = js_J E d 204 171 [(2, 83), (0, x1), (0, x2), (0, x3), ux4] [(0, 59), (2, 83)] σ :=
  (j_aload_n q_204_168 rfl).trans <| (j_bi q_204_169 rfl).trans <| rfl
theorem k_204_171 {E : js_E} {d : Nat} {σ σ2 : js_S} {x1 x2 x3 z1 : Int} {ux4 : js_v} (hd : 1 ≤ d) (hz : js_J E (d - 1) 202 0 [(2, 83), (0, z1)] [] σ = js_r0 E σ2) : js_J E d 204 171 [(2, 83), (0, x1), (0, x2), (0, x3), ux4] [(0, z1), (2, 83)] σ = js_J E d 204 174 [(2, 83), (0, x1), (0, x2), (0, x3), ux4] [] σ2 :=
  j_call0 (m := 0) (js_caV q_204_171 (js_Mo qy_204 qm_12_75)) (js_agV (av := [(0, z1)]) (st := []) rfl rfl js_o83 rfl) rfl rfl (by rw [ql_202]; exact Nat.le_of_ble_eq_true rfl) (Nat.le_of_ble_eq_true rfl) hd hz
theorem b_204_174 {E : js_E} {d : Nat} {σ : js_S} {x1 x2 x3 : Int} {ux4 : js_v} : js_J E d 204 174 [(2, 83), (0, x1), (0, x2), (0, x3), ux4] [] σ = js_r0 E σ :=
  j_return q_204_174 qr_204
-- 205: VitalTwinModel.tooMany (I)V
theorem b_205_0 {E : js_E} {d : Nat} {σ : js_S} {x1 : Int} : js_J E d 205 0 [(2, 83), (0, x1), (9, 0), (9, 0)] [] σ = (if js_w (σ 83 5) = 2 then js_J E d 205 19 [(2, 83), (0, x1), (9, 0), (9, 0)] [(2, 83)] σ else js_J E d 205 14 [(2, 83), (0, x1), (9, 0), (9, 0)] [(0, σ 83 6), (0, 1), (2, 83)] σ) :=
  (j_aload_n q_205_0 rfl).trans <| (j_get (ji := 5) (v := (0, σ 83 5)) q_205_1 (js_Fo qy_205 qf_12_25) js_o83 rfl rfl rfl rfl).trans <| (j_iconst q_205_4).trans <| (j_cmpeqB (t := 18) q_205_5 rfl ww_2).trans (js_ite ((j_aload_n q_205_18 rfl).trans <| rfl) ((j_aload_n q_205_8 rfl).trans <| (j_iconst q_205_9).trans <| (j_aload_n q_205_10 rfl).trans <| (j_get (ji := 6) (v := (0, σ 83 6)) q_205_11 (js_Fo qy_205 qf_12_35) js_o83 rfl rfl rfl rfl).trans <| rfl))
theorem k_205_14 {E : js_E} {d : Nat} {σ σ2 : js_S} {x1 z1 z2 : Int} (hd : 1 ≤ d) (hz : js_J E (d - 1) 199 0 [(2, 83), (0, z1), (0, z2)] [] σ = js_r0 E σ2) : js_J E d 205 14 [(2, 83), (0, x1), (9, 0), (9, 0)] [(0, z2), (0, z1), (2, 83)] σ = js_J E d 205 17 [(2, 83), (0, x1), (9, 0), (9, 0)] [] σ2 :=
  j_call0 (m := 0) (js_caV q_205_14 (js_Mo qy_205 qm_12_65)) (js_agV (av := [(0, z1), (0, z2)]) (st := []) rfl rfl js_o83 rfl) rfl rfl (by rw [ql_199]; exact Nat.le_of_ble_eq_true rfl) (Nat.le_of_ble_eq_true rfl) hd hz
theorem b_205_17 {E : js_E} {d : Nat} {σ : js_S} {x1 : Int} : js_J E d 205 17 [(2, 83), (0, x1), (9, 0), (9, 0)] [] σ = js_r0 E σ :=
  j_return q_205_17 qr_205
theorem k_205_19 {E : js_E} {d : Nat} {σ σ2 : js_S} {x1 : Int} {v : Int} (hd : 1 ≤ d) (hz : js_J E (d - 1) 200 0 [(2, 83), (9, 0)] [] σ = js_r E (0, v) σ2) : js_J E d 205 19 [(2, 83), (0, x1), (9, 0), (9, 0)] [(2, 83)] σ = js_J E d 205 22 [(2, 83), (0, x1), (9, 0), (9, 0)] [(0, v)] σ2 :=
  j_call (m := 1) (js_caV q_205_19 (js_Mo qy_205 qm_12_96)) (js_agV (av := []) (st := []) rfl rfl js_o83 rfl) rfl rfl (by rw [ql_200]; exact Nat.le_of_ble_eq_true rfl) (Nat.le_of_ble_eq_true rfl) hd hz
theorem b_205_22 {E : js_E} {d : Nat} {σ : js_S} {x1 z0 : Int} : js_J E d 205 22 [(2, 83), (0, x1), (9, 0), (9, 0)] [(0, z0)] σ = (if js_w z0 < 0 then js_J E d 205 30 [(2, 83), (0, x1), (9, 0), (9, 0)] [(0, 0)] σ else js_J E d 205 30 [(2, 83), (0, x1), (9, 0), (9, 0)] [(0, 1)] σ) :=
  (j_iflt (t := 29) q_205_22 rfl).trans (js_ite ((j_iconst q_205_29).trans <| rfl) ((j_iconst q_205_25).trans <| (j_goto (t := 30) q_205_26 rfl).trans <| rfl))
theorem b_205_30 {E : js_E} {d : Nat} {σ : js_S} {x1 z0 : Int} : js_J E d 205 30 [(2, 83), (0, x1), (9, 0), (9, 0)] [(0, z0)] σ = js_J E d 205 33 [(2, 83), (0, x1), (0, z0), (0, x1)] [] σ :=
  (j_istore_n (l2 := [(2, 83), (0, x1), (0, z0), (9, 0)]) q_205_30 rfl (Nat.le_of_ble_eq_true rfl)).trans <| (j_iload_n q_205_31 rfl).trans <| (j_istore_n (l2 := [(2, 83), (0, x1), (0, z0), (0, x1)]) q_205_32 rfl (Nat.le_of_ble_eq_true rfl)).trans <| rfl
theorem b_205_33 {E : js_E} {d : Nat} {σ : js_S} {x1 x2 x3 : Int} : js_J E d 205 33 [(2, 83), (0, x1), (0, x2), (0, x3)] [] σ = (if js_w x3 < 0 then js_J E d 205 69 [(2, 83), (0, x1), (0, x2), (0, x3)] [] σ else (if js_w x3 < js_w (σ 83 11) then (if js_w x2 = 0 then js_J E d 205 51 [(2, 83), (0, x1), (0, x2), (0, x3)] [(0, x3), (2, 83)] σ else js_J E d 205 57 [(2, 83), (0, x1), (0, x2), (0, x3)] [] σ) else js_J E d 205 69 [(2, 83), (0, x1), (0, x2), (0, x3)] [] σ)) :=
  (j_iload_n q_205_33 rfl).trans <| (j_iflt (t := 69) q_205_34 rfl).trans (js_ite (rfl) ((j_iload_n q_205_37 rfl).trans <| (j_aload_n q_205_38 rfl).trans <| (j_get (ji := 11) (v := (0, σ 83 11)) q_205_39 (js_Fo qy_205 qf_12_86) js_o83 rfl rfl rfl rfl).trans <| (j_cmpge (t := 69) q_205_42 rfl).trans (js_ite ((j_iload_n q_205_45 rfl).trans <| (j_ifne (t := 57) q_205_46 rfl).trans (js_ite ((j_aload_n q_205_49 rfl).trans <| (j_iload_n q_205_50 rfl).trans <| rfl) (rfl))) (rfl))))
theorem k_205_51 {E : js_E} {d : Nat} {σ σ2 : js_S} {x1 x2 x3 z1 : Int} {v : Int} (hd : 1 ≤ d) (hz : js_J E (d - 1) 201 0 [(2, 83), (0, z1), (9, 0), (9, 0)] [] σ = js_r E (0, v) σ2) : js_J E d 205 51 [(2, 83), (0, x1), (0, x2), (0, x3)] [(0, z1), (2, 83)] σ = js_J E d 205 54 [(2, 83), (0, x1), (0, x2), (0, x3)] [(0, v)] σ2 :=
  j_call (m := 2) (js_caV q_205_51 (js_Mo qy_205 qm_12_93)) (js_agV (av := [(0, z1)]) (st := []) rfl rfl js_o83 rfl) rfl rfl (by rw [ql_201]; exact Nat.le_of_ble_eq_true rfl) (Nat.le_of_ble_eq_true rfl) hd hz
theorem b_205_54 {E : js_E} {d : Nat} {σ : js_S} {x1 x2 x3 z0 : Int} : js_J E d 205 54 [(2, 83), (0, x1), (0, x2), (0, x3)] [(0, z0)] σ = (if js_w z0 = 0 then js_J E d 205 62 [(2, 83), (0, x1), (0, x2), (0, x3)] [(0, 0)] σ else js_J E d 205 57 [(2, 83), (0, x1), (0, x2), (0, x3)] [] σ) :=
  (j_ifeq (t := 61) q_205_54 rfl).trans (js_ite ((j_iconst q_205_61).trans <| rfl) (rfl))
theorem b_205_57 {E : js_E} {d : Nat} {σ : js_S} {x1 x2 x3 : Int} : js_J E d 205 57 [(2, 83), (0, x1), (0, x2), (0, x3)] [] σ = js_J E d 205 62 [(2, 83), (0, x1), (0, x2), (0, x3)] [(0, 1)] σ :=
  (j_iconst q_205_57).trans <| (j_goto (t := 62) q_205_58 rfl).trans <| rfl
theorem b_205_62 {E : js_E} {d : Nat} {σ : js_S} {x1 x2 x3 z0 : Int} : js_J E d 205 62 [(2, 83), (0, x1), (0, x2), (0, x3)] [(0, z0)] σ = js_J E d 205 33 [(2, 83), (0, x1), (0, z0), (0, x3 + 1)] [] σ :=
  (j_istore_n (l2 := [(2, 83), (0, x1), (0, z0), (0, x3)]) q_205_62 rfl (Nat.le_of_ble_eq_true rfl)).trans <| (j_iinc (l2 := [(2, 83), (0, x1), (0, z0), (0, x3 + 1)]) q_205_63 rfl rfl).trans <| (j_goto (t := 33) q_205_66 rfl).trans <| rfl
theorem b_205_69 {E : js_E} {d : Nat} {σ : js_S} {x1 x2 x3 : Int} : js_J E d 205 69 [(2, 83), (0, x1), (0, x2), (0, x3)] [] σ = (if js_w x2 = 0 then js_J E d 205 80 [(2, 83), (0, x1), (0, x2), (0, x3)] [(0, 10), (2, 83)] σ else js_J E d 205 80 [(2, 83), (0, x1), (0, x2), (0, x3)] [(0, 2), (2, 83)] σ) :=
  (j_aload_n q_205_69 rfl).trans <| (j_iload_n q_205_70 rfl).trans <| (j_ifeq (t := 78) q_205_71 rfl).trans (js_ite ((j_bi q_205_78 rfl).trans <| rfl) ((j_iconst q_205_74).trans <| (j_goto (t := 80) q_205_75 rfl).trans <| rfl))
theorem b_205_80 {E : js_E} {d : Nat} {σ : js_S} {x1 x2 x3 z1 : Int} : js_J E d 205 80 [(2, 83), (0, x1), (0, x2), (0, x3)] [(0, z1), (2, 83)] σ = js_J E d 205 84 [(2, 83), (0, x1), (0, x2), (0, x3)] [(0, σ 83 6), (0, z1), (2, 83)] σ :=
  (j_aload_n q_205_80 rfl).trans <| (j_get (ji := 6) (v := (0, σ 83 6)) q_205_81 (js_Fo qy_205 qf_12_35) js_o83 rfl rfl rfl rfl).trans <| rfl
theorem k_205_84 {E : js_E} {d : Nat} {σ σ2 : js_S} {x1 x2 x3 z1 z2 : Int} (hd : 1 ≤ d) (hz : js_J E (d - 1) 199 0 [(2, 83), (0, z1), (0, z2)] [] σ = js_r0 E σ2) : js_J E d 205 84 [(2, 83), (0, x1), (0, x2), (0, x3)] [(0, z2), (0, z1), (2, 83)] σ = js_J E d 205 87 [(2, 83), (0, x1), (0, x2), (0, x3)] [] σ2 :=
  j_call0 (m := 0) (js_caV q_205_84 (js_Mo qy_205 qm_12_65)) (js_agV (av := [(0, z1), (0, z2)]) (st := []) rfl rfl js_o83 rfl) rfl rfl (by rw [ql_199]; exact Nat.le_of_ble_eq_true rfl) (Nat.le_of_ble_eq_true rfl) hd hz
theorem b_205_87 {E : js_E} {d : Nat} {σ : js_S} {x1 x2 x3 : Int} : js_J E d 205 87 [(2, 83), (0, x1), (0, x2), (0, x3)] [] σ = js_r0 E σ :=
  j_return q_205_87 qr_205
-- 206: VitalTwinModel.function ()V
theorem b_206_0 {E : js_E} {d : Nat} {σ : js_S} : js_J E d 206 0 [(2, 83), (9, 0), (9, 0), (9, 0), (9, 0)] [] σ = js_J E d 206 3 [(2, 83), (9, 0), (9, 0), (9, 0), (9, 0)] [(0, (-1)), (0, 4), (2, 83)] σ :=
  (j_aload_n q_206_0 rfl).trans <| (j_iconst q_206_1).trans <| (j_iconst q_206_2).trans <| rfl
theorem k_206_3 {E : js_E} {d : Nat} {σ σ2 : js_S} {z1 z2 : Int} {v : Int} (hd : 1 ≤ d) (hz : js_J E (d - 1) 198 0 [(2, 83), (0, z1), (0, z2), (9, 0), (9, 0)] [] σ = js_r E (0, v) σ2) : js_J E d 206 3 [(2, 83), (9, 0), (9, 0), (9, 0), (9, 0)] [(0, z2), (0, z1), (2, 83)] σ = js_J E d 206 6 [(2, 83), (9, 0), (9, 0), (9, 0), (9, 0)] [(0, v)] σ2 :=
  j_call (m := 2) (js_caV q_206_3 (js_Mo qy_206 qm_12_314)) (js_agV (av := [(0, z1), (0, z2)]) (st := []) rfl rfl js_o83 rfl) rfl rfl (by rw [ql_198]; exact Nat.le_of_ble_eq_true rfl) (Nat.le_of_ble_eq_true rfl) hd hz
theorem b_206_6 {E : js_E} {d : Nat} {σ : js_S} {z0 : Int} : js_J E d 206 6 [(2, 83), (9, 0), (9, 0), (9, 0), (9, 0)] [(0, z0)] σ = (if 0 < js_w (σ 83 9) then js_r0 E σ else js_J E d 206 30 [(2, 83), (0, z0), (0, 0), (9, 0), (9, 0)] [(0, 40), (2, 83)] (js_up (js_up σ 83 26 z0) 83 44 0)) :=
  (j_istore_n (l2 := [(2, 83), (0, z0), (9, 0), (9, 0), (9, 0)]) q_206_6 rfl (Nat.le_of_ble_eq_true rfl)).trans <| (j_aload_n q_206_7 rfl).trans <| (j_get (ji := 9) (v := (0, σ 83 9)) q_206_8 (js_Fo qy_206 qf_12_22) js_o83 rfl rfl rfl rfl).trans <| (j_ifle (t := 15) q_206_11 rfl).trans (js_ite (j_return q_206_14 qr_206) ((j_aload_n q_206_15 rfl).trans <| (j_iload_n q_206_16 rfl).trans <| (j_putI (ji := 26) q_206_17 (js_Fo qy_206 qf_12_123) rfl js_o83 rfl rfl rfl).trans <| (j_aload_n q_206_20 rfl).trans <| (j_iconst q_206_21).trans <| (j_putI (ji := 44) q_206_22 (js_Fo qy_206 qf_12_284) rfl js_o83 rfl rfl rfl).trans <| (j_iconst q_206_25).trans <| (j_istore_n (l2 := [(2, 83), (0, z0), (0, 0), (9, 0), (9, 0)]) q_206_26 rfl (Nat.le_of_ble_eq_true rfl)).trans <| (j_aload_n q_206_27 rfl).trans <| (j_bi q_206_28 rfl).trans <| rfl))
theorem k_206_30 {E : js_E} {d : Nat} {σ σ2 : js_S} {x1 x2 z1 : Int} (hd : 1 ≤ d) (hz : js_J E (d - 1) 207 0 [(2, 83), (0, z1)] [] σ = js_r0 E σ2) : js_J E d 206 30 [(2, 83), (0, x1), (0, x2), (9, 0), (9, 0)] [(0, z1), (2, 83)] σ = js_J E d 206 33 [(2, 83), (0, x1), (0, x2), (9, 0), (9, 0)] [] σ2 :=
  j_call0 (m := 0) (js_caV q_206_30 (js_Mo qy_206 qm_12_159)) (js_agV (av := [(0, z1)]) (st := []) rfl rfl js_o83 rfl) rfl rfl (by rw [ql_207]; exact Nat.le_of_ble_eq_true rfl) (Nat.le_of_ble_eq_true rfl) hd hz
theorem b_206_33 {E : js_E} {d : Nat} {σ : js_S} {x1 x2 : Int} {ux3 : js_v} : js_J E d 206 33 [(2, 83), (0, x1), (0, x2), ux3, (9, 0)] [] σ = (if js_w (σ 83 9) = 0 then (if js_w (σ 83 5) = 41 then js_J E d 206 136 [(2, 83), (0, x1), (0, x2), ux3, (9, 0)] [] σ else (if js_w x2 = 8 then js_J E d 206 59 [(2, 83), (0, x1), (0, x2), ux3, (9, 0)] [(0, x1 + 1), (2, 83)] σ else js_J E d 206 62 [(2, 83), (0, x1), (0, x2), ux3, (9, 0)] [] σ)) else js_J E d 206 136 [(2, 83), (0, x1), (0, x2), ux3, (9, 0)] [] σ) :=
  (j_aload_n q_206_33 rfl).trans <| (j_get (ji := 9) (v := (0, σ 83 9)) q_206_34 (js_Fo qy_206 qf_12_22) js_o83 rfl rfl rfl rfl).trans <| (j_ifne (t := 136) q_206_37 rfl).trans (js_ite ((j_aload_n q_206_40 rfl).trans <| (j_get (ji := 5) (v := (0, σ 83 5)) q_206_41 (js_Fo qy_206 qf_12_25) js_o83 rfl rfl rfl rfl).trans <| (j_bi q_206_44 rfl).trans <| (j_cmpeqB (t := 136) q_206_46 rfl ww_41).trans (js_ite (rfl) ((j_iload_n q_206_49 rfl).trans <| (j_bi q_206_50 rfl).trans <| (j_cmpneB (t := 62) q_206_52 rfl ww_8).trans (js_ite ((j_aload_n q_206_55 rfl).trans <| (j_iload_n q_206_56 rfl).trans <| (j_iconst q_206_57).trans <| (j_iadd q_206_58).trans <| rfl) (rfl))))) (rfl))
theorem k_206_59 {E : js_E} {d : Nat} {σ σ2 : js_S} {x1 x2 z1 : Int} {ux3 : js_v} (hd : 1 ≤ d) (hz : js_J E (d - 1) 205 0 [(2, 83), (0, z1), (9, 0), (9, 0)] [] σ = js_r0 E σ2) : js_J E d 206 59 [(2, 83), (0, x1), (0, x2), ux3, (9, 0)] [(0, z1), (2, 83)] σ = js_J E d 206 62 [(2, 83), (0, x1), (0, x2), ux3, (9, 0)] [] σ2 :=
  j_call0 (m := 2) (js_caV q_206_59 (js_Mo qy_206 qm_12_480)) (js_agV (av := [(0, z1)]) (st := []) rfl rfl js_o83 rfl) rfl rfl (by rw [ql_205]; exact Nat.le_of_ble_eq_true rfl) (Nat.le_of_ble_eq_true rfl) hd hz
theorem b_206_62 {E : js_E} {d : Nat} {σ : js_S} {x1 x2 : Int} {ux3 : js_v} : js_J E d 206 62 [(2, 83), (0, x1), (0, x2), ux3, (9, 0)] [] σ = js_J E d 206 67 [(2, 83), (0, x1), (0, x2), ux3, (9, 0)] [(0, x1 + 1), (0, 5), (2, 83)] σ :=
  (j_aload_n q_206_62 rfl).trans <| (j_iconst q_206_63).trans <| (j_iload_n q_206_64 rfl).trans <| (j_iconst q_206_65).trans <| (j_iadd q_206_66).trans <| rfl
theorem k_206_67 {E : js_E} {d : Nat} {σ σ2 : js_S} {x1 x2 z1 z2 : Int} {ux3 : js_v} {v : Int} (hd : 1 ≤ d) (hz : js_J E (d - 1) 198 0 [(2, 83), (0, z1), (0, z2), (9, 0), (9, 0)] [] σ = js_r E (0, v) σ2) : js_J E d 206 67 [(2, 83), (0, x1), (0, x2), ux3, (9, 0)] [(0, z2), (0, z1), (2, 83)] σ = js_J E d 206 70 [(2, 83), (0, x1), (0, x2), ux3, (9, 0)] [(0, v)] σ2 :=
  j_call (m := 2) (js_caV q_206_67 (js_Mo qy_206 qm_12_314)) (js_agV (av := [(0, z1), (0, z2)]) (st := []) rfl rfl js_o83 rfl) rfl rfl (by rw [ql_198]; exact Nat.le_of_ble_eq_true rfl) (Nat.le_of_ble_eq_true rfl) hd hz
theorem b_206_70 {E : js_E} {d : Nat} {σ : js_S} {x1 x2 z0 : Int} {ux3 : js_v} : js_J E d 206 70 [(2, 83), (0, x1), (0, x2), ux3, (9, 0)] [(0, z0)] σ = js_J E d 206 74 [(2, 83), (0, x1), (0, x2), (0, z0), (9, 0)] [(0, 58), (2, 83)] σ :=
  (j_istore_n (l2 := [(2, 83), (0, x1), (0, x2), (0, z0), (9, 0)]) q_206_70 rfl (Nat.le_of_ble_eq_true rfl)).trans <| (j_aload_n q_206_71 rfl).trans <| (j_bi q_206_72 rfl).trans <| rfl
theorem k_206_74 {E : js_E} {d : Nat} {σ σ2 : js_S} {x1 x2 x3 z1 : Int} (hd : 1 ≤ d) (hz : js_J E (d - 1) 202 0 [(2, 83), (0, z1)] [] σ = js_r0 E σ2) : js_J E d 206 74 [(2, 83), (0, x1), (0, x2), (0, x3), (9, 0)] [(0, z1), (2, 83)] σ = js_J E d 206 77 [(2, 83), (0, x1), (0, x2), (0, x3), (9, 0)] [] σ2 :=
  j_call0 (m := 0) (js_caV q_206_74 (js_Mo qy_206 qm_12_75)) (js_agV (av := [(0, z1)]) (st := []) rfl rfl js_o83 rfl) rfl rfl (by rw [ql_202]; exact Nat.le_of_ble_eq_true rfl) (Nat.le_of_ble_eq_true rfl) hd hz
theorem b_206_77 {E : js_E} {d : Nat} {σ : js_S} {x1 x2 x3 : Int} : js_J E d 206 77 [(2, 83), (0, x1), (0, x2), (0, x3), (9, 0)] [] σ = js_J E d 206 78 [(2, 83), (0, x1), (0, x2), (0, x3), (9, 0)] [(2, 83)] σ :=
  (j_aload_n q_206_77 rfl).trans <| rfl
theorem k_206_78 {E : js_E} {d : Nat} {σ σ2 : js_S} {x1 x2 x3 : Int} (hd : 1 ≤ d) (hz : js_J E (d - 1) 208 0 [(2, 83), (9, 0)] [] σ = js_r0 E σ2) : js_J E d 206 78 [(2, 83), (0, x1), (0, x2), (0, x3), (9, 0)] [(2, 83)] σ = js_J E d 206 81 [(2, 83), (0, x1), (0, x2), (0, x3), (9, 0)] [] σ2 :=
  j_call0 (m := 1) (js_caV q_206_78 (js_Mo qy_206 qm_12_320)) (js_agV (av := []) (st := []) rfl rfl js_o83 rfl) rfl rfl (by rw [ql_208]; exact Nat.le_of_ble_eq_true rfl) (Nat.le_of_ble_eq_true rfl) hd hz
theorem b_206_81 {E : js_E} {d : Nat} {σ : js_S} {x1 x2 x3 : Int} : js_J E d 206 81 [(2, 83), (0, x1), (0, x2), (0, x3), (9, 0)] [] σ = (if 0 < js_w (σ 83 9) then js_r0 E σ else js_J E d 206 91 [(2, 83), (0, x1), (0, x2), (0, x3), (9, 0)] [(0, x3), (2, 83)] σ) :=
  (j_aload_n q_206_81 rfl).trans <| (j_get (ji := 9) (v := (0, σ 83 9)) q_206_82 (js_Fo qy_206 qf_12_22) js_o83 rfl rfl rfl rfl).trans <| (j_ifle (t := 89) q_206_85 rfl).trans (js_ite (j_return q_206_88 qr_206) ((j_aload_n q_206_89 rfl).trans <| (j_iload_n q_206_90 rfl).trans <| rfl))
theorem k_206_91 {E : js_E} {d : Nat} {σ σ2 : js_S} {x1 x2 x3 z1 : Int} (hd : 1 ≤ d) (hz : js_J E (d - 1) 210 0 [(2, 83), (0, z1)] [] σ = js_r0 E σ2) : js_J E d 206 91 [(2, 83), (0, x1), (0, x2), (0, x3), (9, 0)] [(0, z1), (2, 83)] σ = js_J E d 206 94 [(2, 83), (0, x1), (0, x2), (0, x3), (9, 0)] [] σ2 :=
  j_call0 (m := 0) (js_caV q_206_91 (js_Mo qy_206 qm_12_323)) (js_agV (av := [(0, z1)]) (st := []) rfl rfl js_o83 rfl) rfl rfl (by rw [ql_210]; exact Nat.le_of_ble_eq_true rfl) (Nat.le_of_ble_eq_true rfl) hd hz
theorem b_206_94 {E : js_E} {d : Nat} {σ : js_S} {x1 x2 x3 : Int} : js_J E d 206 94 [(2, 83), (0, x1), (0, x2), (0, x3), (9, 0)] [] σ = (if js_w (σ 83 5) = 41 then js_J E d 206 33 [(2, 83), (0, x1), (0, x2 + 1), (0, x3), (9, 0)] [] σ else js_J E d 206 112 [(2, 83), (0, x1), (0, x2 + 1), (0, x3), (9, 0)] [(0, 44), (2, 83)] σ) :=
  (j_iinc (l2 := [(2, 83), (0, x1), (0, x2 + 1), (0, x3), (9, 0)]) q_206_94 rfl rfl).trans <| (j_aload_n q_206_97 rfl).trans <| (j_get (ji := 5) (v := (0, σ 83 5)) q_206_98 (js_Fo qy_206 qf_12_25) js_o83 rfl rfl rfl rfl).trans <| (j_bi q_206_101 rfl).trans <| (j_cmpneB (t := 109) q_206_103 rfl ww_41).trans (js_ite ((j_goto (t := 33) q_206_106 rfl).trans <| rfl) ((j_aload_n q_206_109 rfl).trans <| (j_bi q_206_110 rfl).trans <| rfl))
theorem k_206_112 {E : js_E} {d : Nat} {σ σ2 : js_S} {x1 x2 x3 z1 : Int} (hd : 1 ≤ d) (hz : js_J E (d - 1) 202 0 [(2, 83), (0, z1)] [] σ = js_r0 E σ2) : js_J E d 206 112 [(2, 83), (0, x1), (0, x2), (0, x3), (9, 0)] [(0, z1), (2, 83)] σ = js_J E d 206 115 [(2, 83), (0, x1), (0, x2), (0, x3), (9, 0)] [] σ2 :=
  j_call0 (m := 0) (js_caV q_206_112 (js_Mo qy_206 qm_12_75)) (js_agV (av := [(0, z1)]) (st := []) rfl rfl js_o83 rfl) rfl rfl (by rw [ql_202]; exact Nat.le_of_ble_eq_true rfl) (Nat.le_of_ble_eq_true rfl) hd hz
theorem b_206_115 {E : js_E} {d : Nat} {σ : js_S} {x1 x2 x3 : Int} : js_J E d 206 115 [(2, 83), (0, x1), (0, x2), (0, x3), (9, 0)] [] σ = (if js_w (σ 83 5) = 41 then js_J E d 206 130 [(2, 83), (0, x1), (0, x2), (0, x3), (9, 0)] [(0, σ 83 6), (0, 1), (2, 83)] σ else js_J E d 206 133 [(2, 83), (0, x1), (0, x2), (0, x3), (9, 0)] [] σ) :=
  (j_aload_n q_206_115 rfl).trans <| (j_get (ji := 5) (v := (0, σ 83 5)) q_206_116 (js_Fo qy_206 qf_12_25) js_o83 rfl rfl rfl rfl).trans <| (j_bi q_206_119 rfl).trans <| (j_cmpneB (t := 133) q_206_121 rfl ww_41).trans (js_ite ((j_aload_n q_206_124 rfl).trans <| (j_iconst q_206_125).trans <| (j_aload_n q_206_126 rfl).trans <| (j_get (ji := 6) (v := (0, σ 83 6)) q_206_127 (js_Fo qy_206 qf_12_35) js_o83 rfl rfl rfl rfl).trans <| rfl) (rfl))
theorem k_206_130 {E : js_E} {d : Nat} {σ σ2 : js_S} {x1 x2 x3 z1 z2 : Int} (hd : 1 ≤ d) (hz : js_J E (d - 1) 199 0 [(2, 83), (0, z1), (0, z2)] [] σ = js_r0 E σ2) : js_J E d 206 130 [(2, 83), (0, x1), (0, x2), (0, x3), (9, 0)] [(0, z2), (0, z1), (2, 83)] σ = js_J E d 206 133 [(2, 83), (0, x1), (0, x2), (0, x3), (9, 0)] [] σ2 :=
  j_call0 (m := 0) (js_caV q_206_130 (js_Mo qy_206 qm_12_65)) (js_agV (av := [(0, z1), (0, z2)]) (st := []) rfl rfl js_o83 rfl) rfl rfl (by rw [ql_199]; exact Nat.le_of_ble_eq_true rfl) (Nat.le_of_ble_eq_true rfl) hd hz
theorem b_206_133 {E : js_E} {d : Nat} {σ : js_S} {x1 x2 x3 : Int} : js_J E d 206 133 [(2, 83), (0, x1), (0, x2), (0, x3), (9, 0)] [] σ = js_J E d 206 33 [(2, 83), (0, x1), (0, x2), (0, x3), (9, 0)] [] σ :=
  (j_goto (t := 33) q_206_133 rfl).trans <| rfl
theorem b_206_136 {E : js_E} {d : Nat} {σ : js_S} {x1 x2 : Int} {ux3 : js_v} : js_J E d 206 136 [(2, 83), (0, x1), (0, x2), ux3, (9, 0)] [] σ = js_J E d 206 139 [(2, 83), (0, x1), (0, x2), ux3, (9, 0)] [(0, 41), (2, 83)] σ :=
  (j_aload_n q_206_136 rfl).trans <| (j_bi q_206_137 rfl).trans <| rfl
theorem k_206_139 {E : js_E} {d : Nat} {σ σ2 : js_S} {x1 x2 z1 : Int} {ux3 : js_v} (hd : 1 ≤ d) (hz : js_J E (d - 1) 211 0 [(2, 83), (0, z1)] [] σ = js_r0 E σ2) : js_J E d 206 139 [(2, 83), (0, x1), (0, x2), ux3, (9, 0)] [(0, z1), (2, 83)] σ = js_J E d 206 142 [(2, 83), (0, x1), (0, x2), ux3, (9, 0)] [] σ2 :=
  j_call0 (m := 0) (js_caV q_206_139 (js_Mo qy_206 qm_12_162)) (js_agV (av := [(0, z1)]) (st := []) rfl rfl js_o83 rfl) rfl rfl (by rw [ql_211]; exact Nat.le_of_ble_eq_true rfl) (Nat.le_of_ble_eq_true rfl) hd hz
theorem b_206_142 {E : js_E} {d : Nat} {σ : js_S} {x1 x2 : Int} {ux3 : js_v} : js_J E d 206 142 [(2, 83), (0, x1), (0, x2), ux3, (9, 0)] [] σ = (if 0 ≤ js_w x1 ∧ js_w x1 < 400 then (if js_w (σ 83 5) = 58 then js_J E d 206 170 [(2, 83), (0, x1), (0, x2), ux3, (9, 0)] [(0, 1)] (js_up (js_up σ 91 (js_w x1) x2) 87 (js_w x1) 2) else js_J E d 206 170 [(2, 83), (0, x1), (0, x2), ux3, (9, 0)] [(0, 0)] (js_up (js_up σ 91 (js_w x1) x2) 87 (js_w x1) 2)) else none) :=
  (j_aload_n q_206_142 rfl).trans <| (j_get (ji := 17) (v := (2, 91)) q_206_143 (js_Fo qy_206 qf_12_114) js_o83 rfl rfl rfl rfl).trans <| (j_iload_n q_206_146 rfl).trans <| (j_iload_n q_206_147 rfl).trans <| (j_iastore q_206_148 js_o91).trans <| js_itp fun g0 => (j_aload_n q_206_149 rfl).trans <| (j_get (ji := 13) (v := (2, 87)) q_206_150 (js_Fo qy_206 qf_12_102) js_o83 rfl rfl rfl rfl).trans <| (j_iload_n q_206_153 rfl).trans <| (j_iconst q_206_154).trans <| (j_iastore q_206_155 js_o87).trans <| (if_pos g0).trans <| (j_aload_n q_206_156 rfl).trans <| (j_get (ji := 5) (v := (0, σ 83 5)) q_206_157 (js_Fo qy_206 qf_12_25) js_o83 rfl rfl rfl (congrArg (Prod.mk 0) ((js_up_na _ (by decide)).trans <| (js_up_na _ (by decide))))).trans <| (j_bi q_206_160 rfl).trans <| (j_cmpneB (t := 169) q_206_162 rfl ww_58).trans (js_ite ((j_iconst q_206_165).trans <| (j_goto (t := 170) q_206_166 rfl).trans <| rfl) ((j_iconst q_206_169).trans <| rfl))
theorem b_206_170 {E : js_E} {d : Nat} {σ : js_S} {x1 x2 z0 : Int} {ux3 : js_v} : js_J E d 206 170 [(2, 83), (0, x1), (0, x2), ux3, (9, 0)] [(0, z0)] σ = (if js_w z0 = 0 then js_J E d 206 195 [(2, 83), (0, x1), (0, x2), (0, z0), (9, 0)] [] σ else js_J E d 206 176 [(2, 83), (0, x1), (0, x2), (0, z0), (9, 0)] [(2, 83)] σ) :=
  (j_istore_n (l2 := [(2, 83), (0, x1), (0, x2), (0, z0), (9, 0)]) q_206_170 rfl (Nat.le_of_ble_eq_true rfl)).trans <| (j_iload_n q_206_171 rfl).trans <| (j_ifeq (t := 195) q_206_172 rfl).trans (js_ite (rfl) ((j_aload_n q_206_175 rfl).trans <| rfl))
theorem k_206_176 {E : js_E} {d : Nat} {σ σ2 : js_S} {x1 x2 x3 : Int} (hd : 1 ≤ d) (hz : js_J E (d - 1) 191 0 [(2, 83), (9, 0), (9, 0), (9, 0), (9, 0), (9, 0)] [] σ = js_r0 E σ2) : js_J E d 206 176 [(2, 83), (0, x1), (0, x2), (0, x3), (9, 0)] [(2, 83)] σ = js_J E d 206 179 [(2, 83), (0, x1), (0, x2), (0, x3), (9, 0)] [] σ2 :=
  j_call0 (m := 5) (js_caV q_206_176 (js_Mo qy_206 qm_12_68)) (js_agV (av := []) (st := []) rfl rfl js_o83 rfl) rfl rfl (by rw [ql_191]; exact Nat.le_of_ble_eq_true rfl) (Nat.le_of_ble_eq_true rfl) hd hz
theorem b_206_179 {E : js_E} {d : Nat} {σ : js_S} {x1 x2 x3 : Int} : js_J E d 206 179 [(2, 83), (0, x1), (0, x2), (0, x3), (9, 0)] [] σ = js_J E d 206 180 [(2, 83), (0, x1), (0, x2), (0, x3), (9, 0)] [(2, 83)] σ :=
  (j_aload_n q_206_179 rfl).trans <| rfl
theorem k_206_180 {E : js_E} {d : Nat} {σ σ2 : js_S} {x1 x2 x3 : Int} (hd : 1 ≤ d) (hz : js_J E (d - 1) 208 0 [(2, 83), (9, 0)] [] σ = js_r0 E σ2) : js_J E d 206 180 [(2, 83), (0, x1), (0, x2), (0, x3), (9, 0)] [(2, 83)] σ = js_J E d 206 183 [(2, 83), (0, x1), (0, x2), (0, x3), (9, 0)] [] σ2 :=
  j_call0 (m := 1) (js_caV q_206_180 (js_Mo qy_206 qm_12_320)) (js_agV (av := []) (st := []) rfl rfl js_o83 rfl) rfl rfl (by rw [ql_208]; exact Nat.le_of_ble_eq_true rfl) (Nat.le_of_ble_eq_true rfl) hd hz
theorem b_206_183 {E : js_E} {d : Nat} {σ : js_S} {x1 x2 x3 : Int} : js_J E d 206 183 [(2, 83), (0, x1), (0, x2), (0, x3), (9, 0)] [] σ = (if js_w (σ 83 9) = 0 then js_J E d 206 192 [(2, 83), (0, x1), (0, x2), (0, x3), (9, 0)] [(0, x1), (2, 83)] σ else js_J E d 206 195 [(2, 83), (0, x1), (0, x2), (0, x3), (9, 0)] [] σ) :=
  (j_aload_n q_206_183 rfl).trans <| (j_get (ji := 9) (v := (0, σ 83 9)) q_206_184 (js_Fo qy_206 qf_12_22) js_o83 rfl rfl rfl rfl).trans <| (j_ifne (t := 195) q_206_187 rfl).trans (js_ite ((j_aload_n q_206_190 rfl).trans <| (j_iload_n q_206_191 rfl).trans <| rfl) (rfl))
theorem k_206_192 {E : js_E} {d : Nat} {σ σ2 : js_S} {x1 x2 x3 z1 : Int} (hd : 1 ≤ d) (hz : js_J E (d - 1) 210 0 [(2, 83), (0, z1)] [] σ = js_r0 E σ2) : js_J E d 206 192 [(2, 83), (0, x1), (0, x2), (0, x3), (9, 0)] [(0, z1), (2, 83)] σ = js_J E d 206 195 [(2, 83), (0, x1), (0, x2), (0, x3), (9, 0)] [] σ2 :=
  j_call0 (m := 0) (js_caV q_206_192 (js_Mo qy_206 qm_12_323)) (js_agV (av := [(0, z1)]) (st := []) rfl rfl js_o83 rfl) rfl rfl (by rw [ql_210]; exact Nat.le_of_ble_eq_true rfl) (Nat.le_of_ble_eq_true rfl) hd hz
theorem b_206_195 {E : js_E} {d : Nat} {σ : js_S} {x1 x2 x3 : Int} : js_J E d 206 195 [(2, 83), (0, x1), (0, x2), (0, x3), (9, 0)] [] σ = js_J E d 206 198 [(2, 83), (0, x1), (0, x2), (0, x3), (9, 0)] [(0, 123), (2, 83)] σ :=
  (j_aload_n q_206_195 rfl).trans <| (j_bi q_206_196 rfl).trans <| rfl
theorem k_206_198 {E : js_E} {d : Nat} {σ σ2 : js_S} {x1 x2 x3 z1 : Int} (hd : 1 ≤ d) (hz : js_J E (d - 1) 207 0 [(2, 83), (0, z1)] [] σ = js_r0 E σ2) : js_J E d 206 198 [(2, 83), (0, x1), (0, x2), (0, x3), (9, 0)] [(0, z1), (2, 83)] σ = js_J E d 206 201 [(2, 83), (0, x1), (0, x2), (0, x3), (9, 0)] [] σ2 :=
  j_call0 (m := 0) (js_caV q_206_198 (js_Mo qy_206 qm_12_159)) (js_agV (av := [(0, z1)]) (st := []) rfl rfl js_o83 rfl) rfl rfl (by rw [ql_207]; exact Nat.le_of_ble_eq_true rfl) (Nat.le_of_ble_eq_true rfl) hd hz
theorem b_206_201 {E : js_E} {d : Nat} {σ : js_S} {x1 x2 x3 : Int} : js_J E d 206 201 [(2, 83), (0, x1), (0, x2), (0, x3), (9, 0)] [] σ = js_J E d 206 206 [(2, 83), (0, x1), (0, x2), (0, x3), (0, x1 + 1)] [] σ :=
  (j_iload_n q_206_201 rfl).trans <| (j_iconst q_206_202).trans <| (j_iadd q_206_203).trans <| (j_istore (l2 := [(2, 83), (0, x1), (0, x2), (0, x3), (0, x1 + 1)]) q_206_204 rfl (Nat.le_of_ble_eq_true rfl)).trans <| rfl
theorem b_206_206 {E : js_E} {d : Nat} {σ : js_S} {x1 x2 x3 x4 : Int} : js_J E d 206 206 [(2, 83), (0, x1), (0, x2), (0, x3), (0, x4)] [] σ = (if js_w (x1 + x2) < js_w x4 then js_J E d 206 235 [(2, 83), (0, x1), (0, x2), (0, x3), (0, x4)] [] σ else (if js_w (σ 83 9) = 0 then (if 0 ≤ js_w x4 ∧ js_w x4 < 400 then js_J E d 206 206 [(2, 83), (0, x1), (0, x2), (0, x3), (0, x4 + 1)] [] (js_up σ 99 (js_w x4) (js_iand 1 1)) else none) else js_J E d 206 235 [(2, 83), (0, x1), (0, x2), (0, x3), (0, x4)] [] σ)) :=
  (j_iload q_206_206 rfl).trans <| (j_iload_n q_206_208 rfl).trans <| (j_iload_n q_206_209 rfl).trans <| (j_iadd q_206_210).trans <| (j_cmpgt (t := 235) q_206_211 rfl).trans (js_ite (rfl) ((j_aload_n q_206_214 rfl).trans <| (j_get (ji := 9) (v := (0, σ 83 9)) q_206_215 (js_Fo qy_206 qf_12_22) js_o83 rfl rfl rfl rfl).trans <| (j_ifne (t := 235) q_206_218 rfl).trans (js_ite ((j_aload_n q_206_221 rfl).trans <| (j_get (ji := 25) (v := (2, 99)) q_206_222 (js_Fo qy_206 qf_12_89) js_o83 rfl rfl rfl rfl).trans <| (j_iload q_206_225 rfl).trans <| (j_iconst q_206_227).trans <| (j_zastore q_206_228 js_o99).trans <| js_itp fun g0 => (j_iinc (l2 := [(2, 83), (0, x1), (0, x2), (0, x3), (0, x4 + 1)]) q_206_229 rfl rfl).trans <| (j_goto (t := 206) q_206_232 rfl).trans <| rfl) (rfl))))
theorem b_206_235 {E : js_E} {d : Nat} {σ : js_S} {x1 x2 x3 x4 : Int} : js_J E d 206 235 [(2, 83), (0, x1), (0, x2), (0, x3), (0, x4)] [] σ = js_J E d 206 241 [(2, 83), (0, x1), (0, x2), (0, x3), (0, x4)] [(2, 83), (0, x1), (2, 108)] σ :=
  (j_aload_n q_206_235 rfl).trans <| (j_get (ji := 56) (v := (2, 108)) q_206_236 (js_Fo qy_206 qf_12_337) js_o83 rfl rfl rfl rfl).trans <| (j_iload_n q_206_239 rfl).trans <| (j_aload_n q_206_240 rfl).trans <| rfl
theorem k_206_241 {E : js_E} {d : Nat} {σ σ2 : js_S} {x1 x2 x3 x4 z1 : Int} {v : Int} (hd : 1 ≤ d) (hz : js_J E (d - 1) 212 0 [(2, 83), (9, 0), (9, 0), (9, 0)] [] σ = js_r E (0, v) σ2) : js_J E d 206 241 [(2, 83), (0, x1), (0, x2), (0, x3), (0, x4)] [(2, 83), (0, z1), (2, 108)] σ = js_J E d 206 244 [(2, 83), (0, x1), (0, x2), (0, x3), (0, x4)] [(0, v), (0, z1), (2, 108)] σ2 :=
  j_call (m := 3) (js_caV q_206_241 (js_Mo qy_206 qm_12_290)) (js_agV (av := []) (st := [(0, z1), (2, 108)]) rfl rfl js_o83 rfl) rfl rfl (by rw [ql_212]; exact Nat.le_of_ble_eq_true rfl) (Nat.le_of_ble_eq_true rfl) hd hz
theorem b_206_244 {E : js_E} {d : Nat} {σ : js_S} {x1 x2 x3 x4 z1 z2 : Int} : js_J E d 206 244 [(2, 83), (0, x1), (0, x2), (0, x3), (0, x4)] [(0, z2), (0, z1), (2, 108)] σ = (if 0 ≤ js_w z1 ∧ js_w z1 < 400 then (if 0 ≤ js_w x1 ∧ js_w x1 < 400 then (if js_w x3 = 0 then js_J E d 206 303 [(2, 83), (0, x1), (0, x2), (0, x3), (0, x4)] [] (js_up (js_up σ 108 (js_w z1) z2) 109 (js_w x1) (-1)) else js_J E d 206 260 [(2, 83), (0, x1), (0, x2), (0, x3), (0, x4)] [(0, 313), (2, 83)] (js_up (js_up σ 108 (js_w z1) z2) 109 (js_w x1) (-1))) else none) else none) :=
  (j_iastore q_206_244 js_o108).trans <| js_itp fun g0 => (j_aload_n q_206_245 rfl).trans <| (j_get (ji := 57) (v := (2, 109)) q_206_246 (js_Fo qy_206 qf_12_340) js_o83 rfl rfl rfl rfl).trans <| (j_iload_n q_206_249 rfl).trans <| (j_iconst q_206_250).trans <| (j_iastore q_206_251 js_o109).trans <| js_itp fun g1 => (j_iload_n q_206_252 rfl).trans <| (j_ifeq (t := 303) q_206_253 rfl).trans (js_ite (rfl) ((j_aload_n q_206_256 rfl).trans <| (j_si q_206_257 rfl).trans <| rfl))
theorem k_206_260 {E : js_E} {d : Nat} {σ σ2 : js_S} {x1 x2 x3 x4 z1 : Int} (hd : 1 ≤ d) (hz : js_J E (d - 1) 202 0 [(2, 83), (0, z1)] [] σ = js_r0 E σ2) : js_J E d 206 260 [(2, 83), (0, x1), (0, x2), (0, x3), (0, x4)] [(0, z1), (2, 83)] σ = js_J E d 206 263 [(2, 83), (0, x1), (0, x2), (0, x3), (0, x4)] [] σ2 :=
  j_call0 (m := 0) (js_caV q_206_260 (js_Mo qy_206 qm_12_75)) (js_agV (av := [(0, z1)]) (st := []) rfl rfl js_o83 rfl) rfl rfl (by rw [ql_202]; exact Nat.le_of_ble_eq_true rfl) (Nat.le_of_ble_eq_true rfl) hd hz
theorem b_206_263 {E : js_E} {d : Nat} {σ : js_S} {x1 x2 x3 x4 : Int} : js_J E d 206 263 [(2, 83), (0, x1), (0, x2), (0, x3), (0, x4)] [] σ = (if 0 ≤ js_w x1 ∧ js_w x1 < 400 then js_J E d 206 293 [(2, 83), (0, x1), (0, x2), (0, x3), (0, σ 87 (js_w x1))] [(1, js_w (σ 89 (js_w x1))), (1, js_w (σ 88 (js_w x1))), (0, σ 87 (js_w x1)), (2, 83), (0, x1), (2, 109)] σ else none) :=
  (j_aload_n q_206_263 rfl).trans <| (j_get (ji := 13) (v := (2, 87)) q_206_264 (js_Fo qy_206 qf_12_102) js_o83 rfl rfl rfl rfl).trans <| (j_iload_n q_206_267 rfl).trans <| (j_iaload q_206_268 js_o87).trans <| js_itp fun g0 => (j_istore (l2 := [(2, 83), (0, x1), (0, x2), (0, x3), (0, σ 87 (js_w x1))]) q_206_269 rfl (Nat.le_of_ble_eq_true rfl)).trans <| (j_aload_n q_206_271 rfl).trans <| (j_get (ji := 57) (v := (2, 109)) q_206_272 (js_Fo qy_206 qf_12_340) js_o83 rfl rfl rfl rfl).trans <| (j_iload_n q_206_275 rfl).trans <| (j_aload_n q_206_276 rfl).trans <| (j_iload q_206_277 rfl).trans <| (j_aload_n q_206_279 rfl).trans <| (j_get (ji := 14) (v := (2, 88)) q_206_280 (js_Fo qy_206 qf_12_105) js_o83 rfl rfl rfl rfl).trans <| (j_iload_n q_206_283 rfl).trans <| (j_iaload q_206_284 js_o88).trans <| (if_pos g0).trans <| (j_i2l q_206_285).trans <| (j_aload_n q_206_286 rfl).trans <| (j_get (ji := 15) (v := (2, 89)) q_206_287 (js_Fo qy_206 qf_12_108) js_o83 rfl rfl rfl rfl).trans <| (j_iload_n q_206_290 rfl).trans <| (j_iaload q_206_291 js_o89).trans <| (if_pos g0).trans <| (j_i2l q_206_292).trans <| rfl
theorem k_206_293 {E : js_E} {d : Nat} {σ σ2 : js_S} {x1 x2 x3 x4 z1 z3 z4 z5 : Int} {v : Int} (hd : 1 ≤ d) (hz : js_J E (d - 1) 218 0 [(2, 83), (0, z3), (1, z4), (9, 0), (1, z5), (9, 0), (9, 0), (9, 0)] [] σ = js_r E (0, v) σ2) : js_J E d 206 293 [(2, 83), (0, x1), (0, x2), (0, x3), (0, x4)] [(1, z5), (1, z4), (0, z3), (2, 83), (0, z1), (2, 109)] σ = js_J E d 206 296 [(2, 83), (0, x1), (0, x2), (0, x3), (0, x4)] [(0, v), (0, z1), (2, 109)] σ2 :=
  j_call (m := 2) (js_caV q_206_293 (js_Mo qy_206 qm_12_280)) (js_agV (av := [(0, z3), (1, z4), (1, z5)]) (st := [(0, z1), (2, 109)]) rfl rfl js_o83 rfl) rfl rfl (by rw [ql_218]; exact Nat.le_of_ble_eq_true rfl) (Nat.le_of_ble_eq_true rfl) hd hz
theorem b_206_296 {E : js_E} {d : Nat} {σ : js_S} {x1 x2 x3 x4 z1 z2 : Int} : js_J E d 206 296 [(2, 83), (0, x1), (0, x2), (0, x3), (0, x4)] [(0, z2), (0, z1), (2, 109)] σ = (if 0 ≤ js_w z1 ∧ js_w z1 < 400 then js_J E d 206 300 [(2, 83), (0, x1), (0, x2), (0, x3), (0, x4)] [(0, 59), (2, 83)] (js_up σ 109 (js_w z1) z2) else none) :=
  (j_iastore q_206_296 js_o109).trans <| js_itp fun g0 => (j_aload_n q_206_297 rfl).trans <| (j_bi q_206_298 rfl).trans <| rfl
theorem k_206_300 {E : js_E} {d : Nat} {σ σ2 : js_S} {x1 x2 x3 x4 z1 : Int} (hd : 1 ≤ d) (hz : js_J E (d - 1) 202 0 [(2, 83), (0, z1)] [] σ = js_r0 E σ2) : js_J E d 206 300 [(2, 83), (0, x1), (0, x2), (0, x3), (0, x4)] [(0, z1), (2, 83)] σ = js_J E d 206 303 [(2, 83), (0, x1), (0, x2), (0, x3), (0, x4)] [] σ2 :=
  j_call0 (m := 0) (js_caV q_206_300 (js_Mo qy_206 qm_12_75)) (js_agV (av := [(0, z1)]) (st := []) rfl rfl js_o83 rfl) rfl rfl (by rw [ql_202]; exact Nat.le_of_ble_eq_true rfl) (Nat.le_of_ble_eq_true rfl) hd hz
theorem b_206_303 {E : js_E} {d : Nat} {σ : js_S} {x1 x2 x3 x4 : Int} : js_J E d 206 303 [(2, 83), (0, x1), (0, x2), (0, x3), (0, x4)] [] σ = js_J E d 206 306 [(2, 83), (0, x1), (0, x2), (0, x3), (0, x4)] [(0, 125), (2, 83)] σ :=
  (j_aload_n q_206_303 rfl).trans <| (j_bi q_206_304 rfl).trans <| rfl
theorem k_206_306 {E : js_E} {d : Nat} {σ σ2 : js_S} {x1 x2 x3 x4 z1 : Int} (hd : 1 ≤ d) (hz : js_J E (d - 1) 211 0 [(2, 83), (0, z1)] [] σ = js_r0 E σ2) : js_J E d 206 306 [(2, 83), (0, x1), (0, x2), (0, x3), (0, x4)] [(0, z1), (2, 83)] σ = js_J E d 206 309 [(2, 83), (0, x1), (0, x2), (0, x3), (0, x4)] [] σ2 :=
  j_call0 (m := 0) (js_caV q_206_306 (js_Mo qy_206 qm_12_162)) (js_agV (av := [(0, z1)]) (st := []) rfl rfl js_o83 rfl) rfl rfl (by rw [ql_211]; exact Nat.le_of_ble_eq_true rfl) (Nat.le_of_ble_eq_true rfl) hd hz
theorem b_206_309 {E : js_E} {d : Nat} {σ : js_S} {x1 x2 x3 x4 : Int} : js_J E d 206 309 [(2, 83), (0, x1), (0, x2), (0, x3), (0, x4)] [] σ = (if 0 < js_w (σ 83 9) then js_r0 E σ else js_J E d 206 321 [(2, 83), (0, x1), (0, x2), (0, x3), (0, x4)] [(0, x1 + 1), (2, 83)] σ) :=
  (j_aload_n q_206_309 rfl).trans <| (j_get (ji := 9) (v := (0, σ 83 9)) q_206_310 (js_Fo qy_206 qf_12_22) js_o83 rfl rfl rfl rfl).trans <| (j_ifle (t := 317) q_206_313 rfl).trans (js_ite (j_return q_206_316 qr_206) ((j_aload_n q_206_317 rfl).trans <| (j_iload_n q_206_318 rfl).trans <| (j_iconst q_206_319).trans <| (j_iadd q_206_320).trans <| rfl))
theorem k_206_321 {E : js_E} {d : Nat} {σ σ2 : js_S} {x1 x2 x3 x4 z1 : Int} (hd : 1 ≤ d) (hz : js_J E (d - 1) 240 0 [(2, 83), (0, z1), (9, 0)] [] σ = js_r0 E σ2) : js_J E d 206 321 [(2, 83), (0, x1), (0, x2), (0, x3), (0, x4)] [(0, z1), (2, 83)] σ = js_J E d 206 324 [(2, 83), (0, x1), (0, x2), (0, x3), (0, x4)] [] σ2 :=
  j_call0 (m := 1) (js_caV q_206_321 (js_Mo qy_206 qm_12_293)) (js_agV (av := [(0, z1)]) (st := []) rfl rfl js_o83 rfl) rfl rfl (by rw [ql_240]; exact Nat.le_of_ble_eq_true rfl) (Nat.le_of_ble_eq_true rfl) hd hz
theorem b_206_324 {E : js_E} {d : Nat} {σ : js_S} {x1 x2 x3 x4 : Int} : js_J E d 206 324 [(2, 83), (0, x1), (0, x2), (0, x3), (0, x4)] [] σ = (if 0 ≤ js_w x1 ∧ js_w x1 < 400 then js_r0 E (js_up (js_up (js_up σ 99 (js_w x1) (js_iand 1 1)) 96 (js_w x1) (1 + (σ 83 44))) 83 26 (-1)) else none) :=
  (j_aload_n q_206_324 rfl).trans <| (j_get (ji := 25) (v := (2, 99)) q_206_325 (js_Fo qy_206 qf_12_89) js_o83 rfl rfl rfl rfl).trans <| (j_iload_n q_206_328 rfl).trans <| (j_iconst q_206_329).trans <| (j_zastore q_206_330 js_o99).trans <| js_itp fun g0 => (j_aload_n q_206_331 rfl).trans <| (j_get (ji := 22) (v := (2, 96)) q_206_332 (js_Fo qy_206 qf_12_132) js_o83 rfl rfl rfl rfl).trans <| (j_iload_n q_206_335 rfl).trans <| (j_iconst q_206_336).trans <| (j_aload_n q_206_337 rfl).trans <| (j_get (ji := 44) (v := (0, σ 83 44)) q_206_338 (js_Fo qy_206 qf_12_284) js_o83 rfl rfl rfl (congrArg (Prod.mk 0) ((js_up_na _ (by decide))))).trans <| (j_iadd q_206_341).trans <| (j_iastore q_206_342 js_o96).trans <| (if_pos g0).trans <| (j_aload_n q_206_343 rfl).trans <| (j_iconst q_206_344).trans <| (j_putI (ji := 26) q_206_345 (js_Fo qy_206 qf_12_123) rfl js_o83 rfl rfl rfl).trans <| j_return q_206_348 qr_206
-- 207: VitalTwinModel.enter (I)V
theorem b_207_0 {E : js_E} {d : Nat} {σ : js_S} {x1 : Int} : js_J E d 207 0 [(2, 83), (0, x1)] [] σ = (if js_w (σ 83 5) = js_w x1 then (if js_w (σ 83 10) = 64 then js_J E d 207 36 [(2, 83), (0, x1)] [(0, σ 83 6), (0, 10), (2, 83)] σ else js_J E d 207 39 [(2, 83), (0, x1)] [] σ) else js_J E d 207 14 [(2, 83), (0, x1)] [(0, σ 83 6), (0, 1), (2, 83)] σ) :=
  (j_aload_n q_207_0 rfl).trans <| (j_get (ji := 5) (v := (0, σ 83 5)) q_207_1 (js_Fo qy_207 qf_12_25) js_o83 rfl rfl rfl rfl).trans <| (j_iload_n q_207_4 rfl).trans <| (j_cmpeq (t := 20) q_207_5 rfl).trans (js_ite ((j_aload_n q_207_20 rfl).trans <| (j_get (ji := 10) (v := (0, σ 83 10)) q_207_21 (js_Fo qy_207 qf_12_72) js_o83 rfl rfl rfl rfl).trans <| (j_bi q_207_24 rfl).trans <| (j_cmpneB (t := 39) q_207_26 rfl ww_64).trans (js_ite ((j_aload_n q_207_29 rfl).trans <| (j_bi q_207_30 rfl).trans <| (j_aload_n q_207_32 rfl).trans <| (j_get (ji := 6) (v := (0, σ 83 6)) q_207_33 (js_Fo qy_207 qf_12_35) js_o83 rfl rfl rfl rfl).trans <| rfl) (rfl))) ((j_aload_n q_207_8 rfl).trans <| (j_iconst q_207_9).trans <| (j_aload_n q_207_10 rfl).trans <| (j_get (ji := 6) (v := (0, σ 83 6)) q_207_11 (js_Fo qy_207 qf_12_35) js_o83 rfl rfl rfl rfl).trans <| rfl))
theorem k_207_14 {E : js_E} {d : Nat} {σ σ2 : js_S} {x1 z1 z2 : Int} (hd : 1 ≤ d) (hz : js_J E (d - 1) 199 0 [(2, 83), (0, z1), (0, z2)] [] σ = js_r0 E σ2) : js_J E d 207 14 [(2, 83), (0, x1)] [(0, z2), (0, z1), (2, 83)] σ = js_J E d 207 17 [(2, 83), (0, x1)] [] σ2 :=
  j_call0 (m := 0) (js_caV q_207_14 (js_Mo qy_207 qm_12_65)) (js_agV (av := [(0, z1), (0, z2)]) (st := []) rfl rfl js_o83 rfl) rfl rfl (by rw [ql_199]; exact Nat.le_of_ble_eq_true rfl) (Nat.le_of_ble_eq_true rfl) hd hz
theorem b_207_17 {E : js_E} {d : Nat} {σ : js_S} {x1 : Int} : js_J E d 207 17 [(2, 83), (0, x1)] [] σ = js_J E d 207 39 [(2, 83), (0, x1)] [] σ :=
  (j_goto (t := 39) q_207_17 rfl).trans <| rfl
theorem k_207_36 {E : js_E} {d : Nat} {σ σ2 : js_S} {x1 z1 z2 : Int} (hd : 1 ≤ d) (hz : js_J E (d - 1) 199 0 [(2, 83), (0, z1), (0, z2)] [] σ = js_r0 E σ2) : js_J E d 207 36 [(2, 83), (0, x1)] [(0, z2), (0, z1), (2, 83)] σ = js_J E d 207 39 [(2, 83), (0, x1)] [] σ2 :=
  j_call0 (m := 0) (js_caV q_207_36 (js_Mo qy_207 qm_12_65)) (js_agV (av := [(0, z1), (0, z2)]) (st := []) rfl rfl js_o83 rfl) rfl rfl (by rw [ql_199]; exact Nat.le_of_ble_eq_true rfl) (Nat.le_of_ble_eq_true rfl) hd hz
theorem b_207_39 {E : js_E} {d : Nat} {σ : js_S} {x1 : Int} : js_J E d 207 39 [(2, 83), (0, x1)] [] σ = js_J E d 207 50 [(2, 83), (0, x1)] [(2, 83)] (js_up σ 83 10 ((σ 83 10) + 1)) :=
  (j_aload_n q_207_39 rfl).trans <| (j_dupr q_207_40).trans <| (j_get (ji := 10) (v := (0, σ 83 10)) q_207_41 (js_Fo qy_207 qf_12_72) js_o83 rfl rfl rfl rfl).trans <| (j_iconst q_207_44).trans <| (j_iadd q_207_45).trans <| (j_putI (ji := 10) q_207_46 (js_Fo qy_207 qf_12_72) rfl js_o83 rfl rfl rfl).trans <| (j_aload_n q_207_49 rfl).trans <| rfl
theorem k_207_50 {E : js_E} {d : Nat} {σ σ2 : js_S} {x1 : Int} (hd : 1 ≤ d) (hz : js_J E (d - 1) 191 0 [(2, 83), (9, 0), (9, 0), (9, 0), (9, 0), (9, 0)] [] σ = js_r0 E σ2) : js_J E d 207 50 [(2, 83), (0, x1)] [(2, 83)] σ = js_J E d 207 53 [(2, 83), (0, x1)] [] σ2 :=
  j_call0 (m := 5) (js_caV q_207_50 (js_Mo qy_207 qm_12_68)) (js_agV (av := []) (st := []) rfl rfl js_o83 rfl) rfl rfl (by rw [ql_191]; exact Nat.le_of_ble_eq_true rfl) (Nat.le_of_ble_eq_true rfl) hd hz
theorem b_207_53 {E : js_E} {d : Nat} {σ : js_S} {x1 : Int} : js_J E d 207 53 [(2, 83), (0, x1)] [] σ = js_r0 E σ :=
  j_return q_207_53 qr_207
-- 208: VitalTwinModel.type ()V
theorem b_208_0 {E : js_E} {d : Nat} {σ : js_S} : js_J E d 208 0 [(2, 83), (9, 0)] [] σ = js_J E d 208 1 [(2, 83), (9, 0)] [(2, 83)] σ :=
  (j_aload_n q_208_0 rfl).trans <| rfl
theorem k_208_1 {E : js_E} {d : Nat} {σ σ2 : js_S} {v : Int} (hd : 1 ≤ d) (hz : js_J E (d - 1) 200 0 [(2, 83), (9, 0)] [] σ = js_r E (0, v) σ2) : js_J E d 208 1 [(2, 83), (9, 0)] [(2, 83)] σ = js_J E d 208 4 [(2, 83), (9, 0)] [(0, v)] σ2 :=
  j_call (m := 1) (js_caV q_208_1 (js_Mo qy_208 qm_12_96)) (js_agV (av := []) (st := []) rfl rfl js_o83 rfl) rfl rfl (by rw [ql_200]; exact Nat.le_of_ble_eq_true rfl) (Nat.le_of_ble_eq_true rfl) hd hz
theorem b_208_4 {E : js_E} {d : Nat} {σ : js_S} {z0 : Int} : js_J E d 208 4 [(2, 83), (9, 0)] [(0, z0)] σ = (if js_w (σ 83 5) = 315 then js_J E d 208 31 [(2, 83), (0, z0)] [(2, 83)] (js_up (js_up (js_up σ 83 30 1) 83 31 0) 83 32 1) else (if js_w z0 < 0 then js_J E d 208 83 [(2, 83), (0, z0)] [] σ else (if 0 ≤ js_w z0 ∧ js_w z0 < 400 then (if js_w (σ 86 (js_w z0)) = 8 then js_J E d 208 77 [(2, 83), (0, z0)] [(2, 83)] (js_up (js_up (js_up σ 83 30 (3 + z0)) 83 31 0) 83 32 ((σ 91 (js_w z0)) - 1)) else js_J E d 208 83 [(2, 83), (0, z0)] [] σ) else none))) :=
  (j_istore_n (l2 := [(2, 83), (0, z0)]) q_208_4 rfl (Nat.le_of_ble_eq_true rfl)).trans <| (j_aload_n q_208_5 rfl).trans <| (j_get (ji := 5) (v := (0, σ 83 5)) q_208_6 (js_Fo qy_208 qf_12_25) js_o83 rfl rfl rfl rfl).trans <| (j_si q_208_9 rfl).trans <| (j_cmpneB (t := 37) q_208_12 rfl ww_315).trans (js_ite ((j_aload_n q_208_15 rfl).trans <| (j_iconst q_208_16).trans <| (j_putI (ji := 30) q_208_17 (js_Fo qy_208 qf_12_147) rfl js_o83 rfl rfl rfl).trans <| (j_aload_n q_208_20 rfl).trans <| (j_iconst q_208_21).trans <| (j_putI (ji := 31) q_208_22 (js_Fo qy_208 qf_12_150) rfl js_o83 rfl rfl rfl).trans <| (j_aload_n q_208_25 rfl).trans <| (j_iconst q_208_26).trans <| (j_putI (ji := 32) q_208_27 (js_Fo qy_208 qf_12_153) rfl js_o83 rfl rfl rfl).trans <| (j_aload_n q_208_30 rfl).trans <| rfl) ((j_iload_n q_208_37 rfl).trans <| (j_iflt (t := 83) q_208_38 rfl).trans (js_ite (rfl) ((j_aload_n q_208_41 rfl).trans <| (j_get (ji := 12) (v := (2, 86)) q_208_42 (js_Fo qy_208 qf_12_99) js_o83 rfl rfl rfl rfl).trans <| (j_iload_n q_208_45 rfl).trans <| (j_iaload q_208_46 js_o86).trans <| js_itp fun g0 => (j_bi q_208_47 rfl).trans <| (j_cmpneB (t := 83) q_208_49 rfl ww_8).trans (js_ite ((j_aload_n q_208_52 rfl).trans <| (j_iconst q_208_53).trans <| (j_iload_n q_208_54 rfl).trans <| (j_iadd q_208_55).trans <| (j_putI (ji := 30) q_208_56 (js_Fo qy_208 qf_12_147) rfl js_o83 rfl rfl rfl).trans <| (j_aload_n q_208_59 rfl).trans <| (j_iconst q_208_60).trans <| (j_putI (ji := 31) q_208_61 (js_Fo qy_208 qf_12_150) rfl js_o83 rfl rfl rfl).trans <| (j_aload_n q_208_64 rfl).trans <| (j_aload_n q_208_65 rfl).trans <| (j_get (ji := 17) (v := (2, 91)) q_208_66 (js_Fo qy_208 qf_12_114) js_o83 rfl rfl rfl rfl).trans <| (j_iload_n q_208_69 rfl).trans <| (j_ialoadv q_208_70 js_o91 ((js_up_na _ (by decide)).trans <| (js_up_na _ (by decide)))).trans <| (if_pos g0).trans <| (j_iconst q_208_71).trans <| (j_isub q_208_72).trans <| (j_putI (ji := 32) q_208_73 (js_Fo qy_208 qf_12_153) rfl js_o83 rfl rfl rfl).trans <| (j_aload_n q_208_76 rfl).trans <| rfl) (rfl))))))
theorem k_208_31 {E : js_E} {d : Nat} {σ σ2 : js_S} {x1 : Int} (hd : 1 ≤ d) (hz : js_J E (d - 1) 191 0 [(2, 83), (9, 0), (9, 0), (9, 0), (9, 0), (9, 0)] [] σ = js_r0 E σ2) : js_J E d 208 31 [(2, 83), (0, x1)] [(2, 83)] σ = js_J E d 208 34 [(2, 83), (0, x1)] [] σ2 :=
  j_call0 (m := 5) (js_caV q_208_31 (js_Mo qy_208 qm_12_68)) (js_agV (av := []) (st := []) rfl rfl js_o83 rfl) rfl rfl (by rw [ql_191]; exact Nat.le_of_ble_eq_true rfl) (Nat.le_of_ble_eq_true rfl) hd hz
theorem b_208_34 {E : js_E} {d : Nat} {σ : js_S} {x1 : Int} : js_J E d 208 34 [(2, 83), (0, x1)] [] σ = js_J E d 208 156 [(2, 83), (0, x1)] [] σ :=
  (j_goto (t := 156) q_208_34 rfl).trans <| rfl
theorem k_208_77 {E : js_E} {d : Nat} {σ σ2 : js_S} {x1 : Int} (hd : 1 ≤ d) (hz : js_J E (d - 1) 191 0 [(2, 83), (9, 0), (9, 0), (9, 0), (9, 0), (9, 0)] [] σ = js_r0 E σ2) : js_J E d 208 77 [(2, 83), (0, x1)] [(2, 83)] σ = js_J E d 208 80 [(2, 83), (0, x1)] [] σ2 :=
  j_call0 (m := 5) (js_caV q_208_77 (js_Mo qy_208 qm_12_68)) (js_agV (av := []) (st := []) rfl rfl js_o83 rfl) rfl rfl (by rw [ql_191]; exact Nat.le_of_ble_eq_true rfl) (Nat.le_of_ble_eq_true rfl) hd hz
theorem b_208_80 {E : js_E} {d : Nat} {σ : js_S} {x1 : Int} : js_J E d 208 80 [(2, 83), (0, x1)] [] σ = js_J E d 208 156 [(2, 83), (0, x1)] [] σ :=
  (j_goto (t := 156) q_208_80 rfl).trans <| rfl
theorem b_208_83 {E : js_E} {d : Nat} {σ : js_S} {x1 : Int} : js_J E d 208 83 [(2, 83), (0, x1)] [] σ = js_J E d 208 85 [(2, 83), (0, x1)] [(0, 0), (2, 83)] σ :=
  (j_aload_n q_208_83 rfl).trans <| (j_iconst q_208_84).trans <| rfl
theorem k_208_85 {E : js_E} {d : Nat} {σ σ2 : js_S} {x1 z1 : Int} (hd : 1 ≤ d) (hz : js_J E (d - 1) 209 0 [(2, 83), (0, z1)] [] σ = js_r0 E σ2) : js_J E d 208 85 [(2, 83), (0, x1)] [(0, z1), (2, 83)] σ = js_J E d 208 88 [(2, 83), (0, x1)] [] σ2 :=
  j_call0 (m := 0) (js_caV q_208_85 (js_Mo qy_208 qm_12_156)) (js_agV (av := [(0, z1)]) (st := []) rfl rfl js_o83 rfl) rfl rfl (by rw [ql_209]; exact Nat.le_of_ble_eq_true rfl) (Nat.le_of_ble_eq_true rfl) hd hz
theorem b_208_88 {E : js_E} {d : Nat} {σ : js_S} {x1 : Int} : js_J E d 208 88 [(2, 83), (0, x1)] [] σ = js_J E d 208 97 [(2, 83), (0, x1)] [(2, 83)] (js_up σ 83 31 (σ 83 28)) :=
  (j_aload_n q_208_88 rfl).trans <| (j_aload_n q_208_89 rfl).trans <| (j_get (ji := 28) (v := (0, σ 83 28)) q_208_90 (js_Fo qy_208 qf_12_141) js_o83 rfl rfl rfl rfl).trans <| (j_putI (ji := 31) q_208_93 (js_Fo qy_208 qf_12_150) rfl js_o83 rfl rfl rfl).trans <| (j_aload_n q_208_96 rfl).trans <| rfl
theorem k_208_97 {E : js_E} {d : Nat} {σ σ2 : js_S} {x1 : Int} (hd : 1 ≤ d) (hz : js_J E (d - 1) 191 0 [(2, 83), (9, 0), (9, 0), (9, 0), (9, 0), (9, 0)] [] σ = js_r0 E σ2) : js_J E d 208 97 [(2, 83), (0, x1)] [(2, 83)] σ = js_J E d 208 100 [(2, 83), (0, x1)] [] σ2 :=
  j_call0 (m := 5) (js_caV q_208_97 (js_Mo qy_208 qm_12_68)) (js_agV (av := []) (st := []) rfl rfl js_o83 rfl) rfl rfl (by rw [ql_191]; exact Nat.le_of_ble_eq_true rfl) (Nat.le_of_ble_eq_true rfl) hd hz
theorem b_208_100 {E : js_E} {d : Nat} {σ : js_S} {x1 : Int} : js_J E d 208 100 [(2, 83), (0, x1)] [] σ = js_J E d 208 104 [(2, 83), (0, x1)] [(0, 200), (2, 83)] σ :=
  (j_aload_n q_208_100 rfl).trans <| (j_si q_208_101 rfl).trans <| rfl
theorem k_208_104 {E : js_E} {d : Nat} {σ σ2 : js_S} {x1 z1 : Int} (hd : 1 ≤ d) (hz : js_J E (d - 1) 202 0 [(2, 83), (0, z1)] [] σ = js_r0 E σ2) : js_J E d 208 104 [(2, 83), (0, x1)] [(0, z1), (2, 83)] σ = js_J E d 208 107 [(2, 83), (0, x1)] [] σ2 :=
  j_call0 (m := 0) (js_caV q_208_104 (js_Mo qy_208 qm_12_75)) (js_agV (av := [(0, z1)]) (st := []) rfl rfl js_o83 rfl) rfl rfl (by rw [ql_202]; exact Nat.le_of_ble_eq_true rfl) (Nat.le_of_ble_eq_true rfl) hd hz
theorem b_208_107 {E : js_E} {d : Nat} {σ : js_S} {x1 : Int} : js_J E d 208 107 [(2, 83), (0, x1)] [] σ = js_J E d 208 109 [(2, 83), (0, x1)] [(0, 0), (2, 83)] σ :=
  (j_aload_n q_208_107 rfl).trans <| (j_iconst q_208_108).trans <| rfl
theorem k_208_109 {E : js_E} {d : Nat} {σ σ2 : js_S} {x1 z1 : Int} (hd : 1 ≤ d) (hz : js_J E (d - 1) 209 0 [(2, 83), (0, z1)] [] σ = js_r0 E σ2) : js_J E d 208 109 [(2, 83), (0, x1)] [(0, z1), (2, 83)] σ = js_J E d 208 112 [(2, 83), (0, x1)] [] σ2 :=
  j_call0 (m := 0) (js_caV q_208_109 (js_Mo qy_208 qm_12_156)) (js_agV (av := [(0, z1)]) (st := []) rfl rfl js_o83 rfl) rfl rfl (by rw [ql_209]; exact Nat.le_of_ble_eq_true rfl) (Nat.le_of_ble_eq_true rfl) hd hz
theorem b_208_112 {E : js_E} {d : Nat} {σ : js_S} {x1 : Int} : js_J E d 208 112 [(2, 83), (0, x1)] [] σ = (if js_w (σ 83 9) = 0 then (if js_w (σ 83 28) < js_w (σ 83 31) then js_J E d 208 136 [(2, 83), (0, x1)] [(0, σ 83 29), (0, 4), (2, 83)] σ else js_J E d 208 139 [(2, 83), (0, x1)] [] σ) else js_J E d 208 139 [(2, 83), (0, x1)] [] σ) :=
  (j_aload_n q_208_112 rfl).trans <| (j_get (ji := 9) (v := (0, σ 83 9)) q_208_113 (js_Fo qy_208 qf_12_22) js_o83 rfl rfl rfl rfl).trans <| (j_ifne (t := 139) q_208_116 rfl).trans (js_ite ((j_aload_n q_208_119 rfl).trans <| (j_get (ji := 28) (v := (0, σ 83 28)) q_208_120 (js_Fo qy_208 qf_12_141) js_o83 rfl rfl rfl rfl).trans <| (j_aload_n q_208_123 rfl).trans <| (j_get (ji := 31) (v := (0, σ 83 31)) q_208_124 (js_Fo qy_208 qf_12_150) js_o83 rfl rfl rfl rfl).trans <| (j_cmpge (t := 139) q_208_127 rfl).trans (js_ite ((j_aload_n q_208_130 rfl).trans <| (j_iconst q_208_131).trans <| (j_aload_n q_208_132 rfl).trans <| (j_get (ji := 29) (v := (0, σ 83 29)) q_208_133 (js_Fo qy_208 qf_12_135) js_o83 rfl rfl rfl rfl).trans <| rfl) (rfl))) (rfl))
theorem k_208_136 {E : js_E} {d : Nat} {σ σ2 : js_S} {x1 z1 z2 : Int} (hd : 1 ≤ d) (hz : js_J E (d - 1) 199 0 [(2, 83), (0, z1), (0, z2)] [] σ = js_r0 E σ2) : js_J E d 208 136 [(2, 83), (0, x1)] [(0, z2), (0, z1), (2, 83)] σ = js_J E d 208 139 [(2, 83), (0, x1)] [] σ2 :=
  j_call0 (m := 0) (js_caV q_208_136 (js_Mo qy_208 qm_12_65)) (js_agV (av := [(0, z1), (0, z2)]) (st := []) rfl rfl js_o83 rfl) rfl rfl (by rw [ql_199]; exact Nat.le_of_ble_eq_true rfl) (Nat.le_of_ble_eq_true rfl) hd hz
theorem b_208_139 {E : js_E} {d : Nat} {σ : js_S} {x1 : Int} : js_J E d 208 139 [(2, 83), (0, x1)] [] σ = js_J E d 208 153 [(2, 83), (0, x1)] [(2, 83)] (js_up (js_up σ 83 32 (σ 83 28)) 83 30 0) :=
  (j_aload_n q_208_139 rfl).trans <| (j_aload_n q_208_140 rfl).trans <| (j_get (ji := 28) (v := (0, σ 83 28)) q_208_141 (js_Fo qy_208 qf_12_141) js_o83 rfl rfl rfl rfl).trans <| (j_putI (ji := 32) q_208_144 (js_Fo qy_208 qf_12_153) rfl js_o83 rfl rfl rfl).trans <| (j_aload_n q_208_147 rfl).trans <| (j_iconst q_208_148).trans <| (j_putI (ji := 30) q_208_149 (js_Fo qy_208 qf_12_147) rfl js_o83 rfl rfl rfl).trans <| (j_aload_n q_208_152 rfl).trans <| rfl
theorem k_208_153 {E : js_E} {d : Nat} {σ σ2 : js_S} {x1 : Int} (hd : 1 ≤ d) (hz : js_J E (d - 1) 191 0 [(2, 83), (9, 0), (9, 0), (9, 0), (9, 0), (9, 0)] [] σ = js_r0 E σ2) : js_J E d 208 153 [(2, 83), (0, x1)] [(2, 83)] σ = js_J E d 208 156 [(2, 83), (0, x1)] [] σ2 :=
  j_call0 (m := 5) (js_caV q_208_153 (js_Mo qy_208 qm_12_68)) (js_agV (av := []) (st := []) rfl rfl js_o83 rfl) rfl rfl (by rw [ql_191]; exact Nat.le_of_ble_eq_true rfl) (Nat.le_of_ble_eq_true rfl) hd hz
theorem b_208_156 {E : js_E} {d : Nat} {σ : js_S} {x1 : Int} : js_J E d 208 156 [(2, 83), (0, x1)] [] σ = js_r0 E σ :=
  j_return q_208_156 qr_208
-- 209: VitalTwinModel.constantOf (I)V
theorem b_209_0 {E : js_E} {d : Nat} {σ : js_S} {x1 : Int} : js_J E d 209 0 [(2, 83), (0, x1)] [] σ = js_J E d 209 1 [(2, 83), (0, x1)] [(2, 83)] σ :=
  (j_aload_n q_209_0 rfl).trans <| rfl
theorem k_209_1 {E : js_E} {d : Nat} {σ σ2 : js_S} {x1 : Int} (hd : 1 ≤ d) (hz : js_J E (d - 1) 203 0 [(2, 83), (9, 0), (9, 0)] [] σ = js_r0 E σ2) : js_J E d 209 1 [(2, 83), (0, x1)] [(2, 83)] σ = js_J E d 209 4 [(2, 83), (0, x1)] [] σ2 :=
  j_call0 (m := 2) (js_caV q_209_1 (js_Mo qy_209 qm_12_144)) (js_agV (av := []) (st := []) rfl rfl js_o83 rfl) rfl rfl (by rw [ql_203]; exact Nat.le_of_ble_eq_true rfl) (Nat.le_of_ble_eq_true rfl) hd hz
theorem b_209_4 {E : js_E} {d : Nat} {σ : js_S} {x1 : Int} : js_J E d 209 4 [(2, 83), (0, x1)] [] σ = (if js_w (σ 83 9) = 0 then (if js_w (σ 83 27) = js_w x1 then js_J E d 209 28 [(2, 83), (0, x1)] [] σ else js_J E d 209 25 [(2, 83), (0, x1)] [(0, σ 83 29), (0, 5), (2, 83)] σ) else js_J E d 209 28 [(2, 83), (0, x1)] [] σ) :=
  (j_aload_n q_209_4 rfl).trans <| (j_get (ji := 9) (v := (0, σ 83 9)) q_209_5 (js_Fo qy_209 qf_12_22) js_o83 rfl rfl rfl rfl).trans <| (j_ifne (t := 28) q_209_8 rfl).trans (js_ite ((j_aload_n q_209_11 rfl).trans <| (j_get (ji := 27) (v := (0, σ 83 27)) q_209_12 (js_Fo qy_209 qf_12_138) js_o83 rfl rfl rfl rfl).trans <| (j_iload_n q_209_15 rfl).trans <| (j_cmpeq (t := 28) q_209_16 rfl).trans (js_ite (rfl) ((j_aload_n q_209_19 rfl).trans <| (j_iconst q_209_20).trans <| (j_aload_n q_209_21 rfl).trans <| (j_get (ji := 29) (v := (0, σ 83 29)) q_209_22 (js_Fo qy_209 qf_12_135) js_o83 rfl rfl rfl rfl).trans <| rfl))) (rfl))
theorem k_209_25 {E : js_E} {d : Nat} {σ σ2 : js_S} {x1 z1 z2 : Int} (hd : 1 ≤ d) (hz : js_J E (d - 1) 199 0 [(2, 83), (0, z1), (0, z2)] [] σ = js_r0 E σ2) : js_J E d 209 25 [(2, 83), (0, x1)] [(0, z2), (0, z1), (2, 83)] σ = js_J E d 209 28 [(2, 83), (0, x1)] [] σ2 :=
  j_call0 (m := 0) (js_caV q_209_25 (js_Mo qy_209 qm_12_65)) (js_agV (av := [(0, z1), (0, z2)]) (st := []) rfl rfl js_o83 rfl) rfl rfl (by rw [ql_199]; exact Nat.le_of_ble_eq_true rfl) (Nat.le_of_ble_eq_true rfl) hd hz
theorem b_209_28 {E : js_E} {d : Nat} {σ : js_S} {x1 : Int} : js_J E d 209 28 [(2, 83), (0, x1)] [] σ = js_r0 E σ :=
  j_return q_209_28 qr_209
-- 210: VitalTwinModel.setType (I)V
theorem b_210_0 {E : js_E} {d : Nat} {σ : js_S} {x1 : Int} : js_J E d 210 0 [(2, 83), (0, x1)] [] σ = (if 0 ≤ js_w x1 ∧ js_w x1 < 400 then js_r0 E (js_up (js_up (js_up σ 87 (js_w x1) (σ 83 30)) 88 (js_w x1) (σ 83 31)) 89 (js_w x1) (σ 83 32)) else none) :=
  (j_aload_n q_210_0 rfl).trans <| (j_get (ji := 13) (v := (2, 87)) q_210_1 (js_Fo qy_210 qf_12_102) js_o83 rfl rfl rfl rfl).trans <| (j_iload_n q_210_4 rfl).trans <| (j_aload_n q_210_5 rfl).trans <| (j_get (ji := 30) (v := (0, σ 83 30)) q_210_6 (js_Fo qy_210 qf_12_147) js_o83 rfl rfl rfl rfl).trans <| (j_iastore q_210_9 js_o87).trans <| js_itp fun g0 => (j_aload_n q_210_10 rfl).trans <| (j_get (ji := 14) (v := (2, 88)) q_210_11 (js_Fo qy_210 qf_12_105) js_o83 rfl rfl rfl rfl).trans <| (j_iload_n q_210_14 rfl).trans <| (j_aload_n q_210_15 rfl).trans <| (j_get (ji := 31) (v := (0, σ 83 31)) q_210_16 (js_Fo qy_210 qf_12_150) js_o83 rfl rfl rfl (congrArg (Prod.mk 0) ((js_up_na _ (by decide))))).trans <| (j_iastore q_210_19 js_o88).trans <| (if_pos g0).trans <| (j_aload_n q_210_20 rfl).trans <| (j_get (ji := 15) (v := (2, 89)) q_210_21 (js_Fo qy_210 qf_12_108) js_o83 rfl rfl rfl rfl).trans <| (j_iload_n q_210_24 rfl).trans <| (j_aload_n q_210_25 rfl).trans <| (j_get (ji := 32) (v := (0, σ 83 32)) q_210_26 (js_Fo qy_210 qf_12_153) js_o83 rfl rfl rfl (congrArg (Prod.mk 0) ((js_up_na _ (by decide)).trans <| (js_up_na _ (by decide))))).trans <| (j_iastore q_210_29 js_o89).trans <| (if_pos g0).trans <| j_return q_210_30 qr_210
-- 211: VitalTwinModel.leave (I)V
theorem b_211_0 {E : js_E} {d : Nat} {σ : js_S} {x1 : Int} : js_J E d 211 0 [(2, 83), (0, x1)] [] σ = js_J E d 211 2 [(2, 83), (0, x1)] [(0, x1), (2, 83)] σ :=
  (j_aload_n q_211_0 rfl).trans <| (j_iload_n q_211_1 rfl).trans <| rfl
theorem k_211_2 {E : js_E} {d : Nat} {σ σ2 : js_S} {x1 z1 : Int} (hd : 1 ≤ d) (hz : js_J E (d - 1) 202 0 [(2, 83), (0, z1)] [] σ = js_r0 E σ2) : js_J E d 211 2 [(2, 83), (0, x1)] [(0, z1), (2, 83)] σ = js_J E d 211 5 [(2, 83), (0, x1)] [] σ2 :=
  j_call0 (m := 0) (js_caV q_211_2 (js_Mo qy_211 qm_12_75)) (js_agV (av := [(0, z1)]) (st := []) rfl rfl js_o83 rfl) rfl rfl (by rw [ql_202]; exact Nat.le_of_ble_eq_true rfl) (Nat.le_of_ble_eq_true rfl) hd hz
theorem b_211_5 {E : js_E} {d : Nat} {σ : js_S} {x1 : Int} : js_J E d 211 5 [(2, 83), (0, x1)] [] σ = js_r0 E (js_up σ 83 10 ((σ 83 10) - 1)) :=
  (j_aload_n q_211_5 rfl).trans <| (j_dupr q_211_6).trans <| (j_get (ji := 10) (v := (0, σ 83 10)) q_211_7 (js_Fo qy_211 qf_12_72) js_o83 rfl rfl rfl rfl).trans <| (j_iconst q_211_10).trans <| (j_isub q_211_11).trans <| (j_putI (ji := 10) q_211_12 (js_Fo qy_211 qf_12_72) rfl js_o83 rfl rfl rfl).trans <| j_return q_211_15 qr_211
-- 212: VitalTwinModel.list ()I
theorem b_212_0 {E : js_E} {d : Nat} {σ : js_S} : js_J E d 212 0 [(2, 83), (9, 0), (9, 0), (9, 0)] [] σ = js_J E d 212 4 [(2, 83), (0, (-1)), (0, (-1)), (9, 0)] [] σ :=
  (j_iconst q_212_0).trans <| (j_istore_n (l2 := [(2, 83), (0, (-1)), (9, 0), (9, 0)]) q_212_1 rfl (Nat.le_of_ble_eq_true rfl)).trans <| (j_iconst q_212_2).trans <| (j_istore_n (l2 := [(2, 83), (0, (-1)), (0, (-1)), (9, 0)]) q_212_3 rfl (Nat.le_of_ble_eq_true rfl)).trans <| rfl
theorem b_212_4 {E : js_E} {d : Nat} {σ : js_S} {x1 x2 : Int} {ux3 : js_v} : js_J E d 212 4 [(2, 83), (0, x1), (0, x2), ux3] [] σ = (if js_w (σ 83 9) = 0 then (if js_w (σ 83 5) = 125 then js_r E (0, x1) σ else (if js_w (σ 83 5) = 313 then js_r E (0, x1) σ else js_J E d 212 31 [(2, 83), (0, x1), (0, x2), ux3] [(2, 83)] σ)) else js_r E (0, x1) σ) :=
  (j_aload_n q_212_4 rfl).trans <| (j_get (ji := 9) (v := (0, σ 83 9)) q_212_5 (js_Fo qy_212 qf_12_22) js_o83 rfl rfl rfl rfl).trans <| (j_ifne (t := 72) q_212_8 rfl).trans (js_ite ((j_aload_n q_212_11 rfl).trans <| (j_get (ji := 5) (v := (0, σ 83 5)) q_212_12 (js_Fo qy_212 qf_12_25) js_o83 rfl rfl rfl rfl).trans <| (j_bi q_212_15 rfl).trans <| (j_cmpeqB (t := 72) q_212_17 rfl ww_125).trans (js_ite ((j_iload_n q_212_72 rfl).trans <| j_ireturn q_212_73 qr_212) ((j_aload_n q_212_20 rfl).trans <| (j_get (ji := 5) (v := (0, σ 83 5)) q_212_21 (js_Fo qy_212 qf_12_25) js_o83 rfl rfl rfl rfl).trans <| (j_si q_212_24 rfl).trans <| (j_cmpeqB (t := 72) q_212_27 rfl ww_313).trans (js_ite ((j_iload_n q_212_72 rfl).trans <| j_ireturn q_212_73 qr_212) ((j_aload_n q_212_30 rfl).trans <| rfl))))) ((j_iload_n q_212_72 rfl).trans <| j_ireturn q_212_73 qr_212))
theorem k_212_31 {E : js_E} {d : Nat} {σ σ2 : js_S} {x1 x2 : Int} {ux3 : js_v} {v : Int} (hd : 1 ≤ d) (hz : js_J E (d - 1) 213 0 [(2, 83), (9, 0)] [] σ = js_r E (0, v) σ2) : js_J E d 212 31 [(2, 83), (0, x1), (0, x2), ux3] [(2, 83)] σ = js_J E d 212 34 [(2, 83), (0, x1), (0, x2), ux3] [(0, v)] σ2 :=
  j_call (m := 1) (js_caV q_212_31 (js_Mo qy_212 qm_12_287)) (js_agV (av := []) (st := []) rfl rfl js_o83 rfl) rfl rfl (by rw [ql_213]; exact Nat.le_of_ble_eq_true rfl) (Nat.le_of_ble_eq_true rfl) hd hz
theorem b_212_34 {E : js_E} {d : Nat} {σ : js_S} {x1 x2 z0 : Int} {ux3 : js_v} : js_J E d 212 34 [(2, 83), (0, x1), (0, x2), ux3] [(0, z0)] σ = (if 0 < js_w (σ 83 9) then js_r E (0, (-1)) σ else (if js_w z0 < 0 then js_J E d 212 4 [(2, 83), (0, x1), (0, x2), (0, z0)] [] σ else (if js_w x2 < 0 then js_J E d 212 67 [(2, 83), (0, z0), (0, x2), (0, z0)] [] σ else (if 0 ≤ js_w x2 ∧ js_w x2 < 66000 then js_J E d 212 67 [(2, 83), (0, x1), (0, x2), (0, z0)] [] (js_up σ 107 (js_w x2) z0) else none)))) :=
  (j_istore_n (l2 := [(2, 83), (0, x1), (0, x2), (0, z0)]) q_212_34 rfl (Nat.le_of_ble_eq_true rfl)).trans <| (j_aload_n q_212_35 rfl).trans <| (j_get (ji := 9) (v := (0, σ 83 9)) q_212_36 (js_Fo qy_212 qf_12_22) js_o83 rfl rfl rfl rfl).trans <| (j_ifle (t := 44) q_212_39 rfl).trans (js_ite ((j_iconst q_212_42).trans <| j_ireturn q_212_43 qr_212) ((j_iload_n q_212_44 rfl).trans <| (j_ifge (t := 51) q_212_45 rfl).trans (js_ite ((j_goto (t := 4) q_212_48 rfl).trans <| rfl) ((j_iload_n q_212_51 rfl).trans <| (j_ifge (t := 60) q_212_52 rfl).trans (js_ite ((j_iload_n q_212_55 rfl).trans <| (j_istore_n (l2 := [(2, 83), (0, z0), (0, x2), (0, z0)]) q_212_56 rfl (Nat.le_of_ble_eq_true rfl)).trans <| (j_goto (t := 67) q_212_57 rfl).trans <| rfl) ((j_aload_n q_212_60 rfl).trans <| (j_get (ji := 41) (v := (2, 107)) q_212_61 (js_Fo qy_212 qf_12_190) js_o83 rfl rfl rfl rfl).trans <| (j_iload_n q_212_64 rfl).trans <| (j_iload_n q_212_65 rfl).trans <| (j_iastore q_212_66 js_o107).trans <| js_itp fun g0 => rfl))))))
theorem b_212_67 {E : js_E} {d : Nat} {σ : js_S} {x1 x2 x3 : Int} : js_J E d 212 67 [(2, 83), (0, x1), (0, x2), (0, x3)] [] σ = js_J E d 212 4 [(2, 83), (0, x1), (0, x3), (0, x3)] [] σ :=
  (j_iload_n q_212_67 rfl).trans <| (j_istore_n (l2 := [(2, 83), (0, x1), (0, x3), (0, x3)]) q_212_68 rfl (Nat.le_of_ble_eq_true rfl)).trans <| (j_goto (t := 4) q_212_69 rfl).trans <| rfl
