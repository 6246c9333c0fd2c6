/-! part 70.r06: block equations of the reference's methods 241 to 246 (printed by wip/whole/tools/gen71.py) -/
theorem qy_245 : vt_O 245 = 12 := by decide +kernel
theorem qr_245 : vt_rc.getD 245 0 = 0 := by decide +kernel
theorem ql_245 : vt_ml.getD 245 0 = 3 := by decide +kernel
theorem qy_246 : vt_O 246 = 12 := by decide +kernel
theorem qr_246 : vt_rc.getD 246 0 = 3 := by decide +kernel
theorem ql_246 : vt_ml.getD 246 0 = 6 := by decide +kernel
theorem qy_248 : vt_O 248 = 12 := by decide +kernel
theorem qr_248 : vt_rc.getD 248 0 = 3 := by decide +kernel
theorem ql_248 : vt_ml.getD 248 0 = 8 := by decide +kernel
theorem qy_251 : vt_O 251 = 12 := by decide +kernel
theorem qr_251 : vt_rc.getD 251 0 = 1 := by decide +kernel
theorem ql_251 : vt_ml.getD 251 0 = 4 := by decide +kernel
theorem qy_247 : vt_O 247 = 12 := by decide +kernel
theorem qr_247 : vt_rc.getD 247 0 = 3 := by decide +kernel
theorem ql_247 : vt_ml.getD 247 0 = 7 := by decide +kernel
theorem qy_253 : vt_O 253 = 12 := by decide +kernel
theorem qr_253 : vt_rc.getD 253 0 = 3 := by decide +kernel
theorem ql_253 : vt_ml.getD 253 0 = 2 := by decide +kernel
theorem q_241_0 : js_I 241 0 = some (.iconst (-1), 1) := by decide +kernel
theorem q_241_1 : js_I 241 1 = some (.istore_n 1, 1) := by decide +kernel
theorem q_241_2 : js_I 241 2 = some (.iconst (-1), 1) := by decide +kernel
theorem q_241_3 : js_I 241 3 = some (.istore_n 2, 1) := by decide +kernel
theorem q_241_4 : js_I 241 4 = some (.iconst 1, 1) := by decide +kernel
theorem q_241_5 : js_I 241 5 = some (.istore_n 3, 1) := by decide +kernel
theorem q_241_6 : js_I 241 6 = some (.iload_n 3, 1) := by decide +kernel
theorem q_241_7 : js_I 241 7 = some (.ifCond .eq 149, 3) := by decide +kernel
theorem q_241_156 : js_I 241 156 = some (.iload_n 1, 1) := by decide +kernel
theorem q_241_157 : js_I 241 157 = some (.ireturn, 1) := by decide +kernel
theorem q_241_10 : js_I 241 10 = some (.aload_n 0, 1) := by decide +kernel
theorem q_241_11 : js_I 241 11 = some (.getfield 22, 3) := by decide +kernel
theorem q_241_14 : js_I 241 14 = some (.ifCond .ne 142, 3) := by decide +kernel
theorem q_241_17 : js_I 241 17 = some (.aload_n 0, 1) := by decide +kernel
theorem q_241_18 : js_I 241 18 = some (.invokevirtual 68, 3) := by decide +kernel
theorem q_241_21 : js_I 241 21 = some (.aload_n 0, 1) := by decide +kernel
theorem q_241_22 : js_I 241 22 = some (.bipush 40, 2) := by decide +kernel
theorem q_241_24 : js_I 241 24 = some (.invokevirtual 159, 3) := by decide +kernel
theorem q_241_27 : js_I 241 27 = some (.aload_n 0, 1) := by decide +kernel
theorem q_241_28 : js_I 241 28 = some (.invokevirtual 299, 3) := by decide +kernel
theorem q_241_31 : js_I 241 31 = some (.istore 4, 2) := by decide +kernel
theorem q_241_33 : js_I 241 33 = some (.aload_n 0, 1) := by decide +kernel
theorem q_241_34 : js_I 241 34 = some (.bipush 41, 2) := by decide +kernel
theorem q_241_36 : js_I 241 36 = some (.invokevirtual 162, 3) := by decide +kernel
theorem q_241_39 : js_I 241 39 = some (.aload_n 0, 1) := by decide +kernel
theorem q_241_40 : js_I 241 40 = some (.bipush 26, 2) := by decide +kernel
theorem q_241_42 : js_I 241 42 = some (.iconst 0, 1) := by decide +kernel
theorem q_241_43 : js_I 241 43 = some (.lconst 0, 1) := by decide +kernel
theorem q_241_44 : js_I 241 44 = some (.lconst 0, 1) := by decide +kernel
theorem q_241_45 : js_I 241 45 = some (.iload 4, 2) := by decide +kernel
theorem q_241_47 : js_I 241 47 = some (.aload_n 0, 1) := by decide +kernel
theorem q_241_48 : js_I 241 48 = some (.invokevirtual 329, 3) := by decide +kernel
theorem q_241_51 : js_I 241 51 = some (.iconst (-1), 1) := by decide +kernel
theorem q_241_52 : js_I 241 52 = some (.invokevirtual 208, 3) := by decide +kernel
theorem q_241_55 : js_I 241 55 = some (.istore 5, 2) := by decide +kernel
theorem q_241_57 : js_I 241 57 = some (.aload_n 0, 1) := by decide +kernel
theorem q_241_58 : js_I 241 58 = some (.getfield 22, 3) := by decide +kernel
theorem q_241_61 : js_I 241 61 = some (.ifCond .le 5, 3) := by decide +kernel
theorem q_241_64 : js_I 241 64 = some (.iconst (-1), 1) := by decide +kernel
theorem q_241_65 : js_I 241 65 = some (.ireturn, 1) := by decide +kernel
theorem q_241_66 : js_I 241 66 = some (.iload_n 2, 1) := by decide +kernel
theorem q_241_67 : js_I 241 67 = some (.ifCond .ge 9, 3) := by decide +kernel
theorem q_241_70 : js_I 241 70 = some (.iload 5, 2) := by decide +kernel
theorem q_241_72 : js_I 241 72 = some (.istore_n 1, 1) := by decide +kernel
theorem q_241_73 : js_I 241 73 = some (.goto 11, 3) := by decide +kernel
theorem q_241_76 : js_I 241 76 = some (.aload_n 0, 1) := by decide +kernel
theorem q_241_77 : js_I 241 77 = some (.getfield 187, 3) := by decide +kernel
theorem q_241_80 : js_I 241 80 = some (.iload_n 2, 1) := by decide +kernel
theorem q_241_81 : js_I 241 81 = some (.iload 5, 2) := by decide +kernel
theorem q_241_83 : js_I 241 83 = some (.iastore, 1) := by decide +kernel
theorem q_241_84 : js_I 241 84 = some (.iload 5, 2) := by decide +kernel
theorem q_241_86 : js_I 241 86 = some (.istore_n 2, 1) := by decide +kernel
theorem q_241_87 : js_I 241 87 = some (.iconst 0, 1) := by decide +kernel
theorem q_241_88 : js_I 241 88 = some (.istore_n 3, 1) := by decide +kernel
theorem q_241_89 : js_I 241 89 = some (.aload_n 0, 1) := by decide +kernel
theorem q_241_90 : js_I 241 90 = some (.getfield 25, 3) := by decide +kernel
theorem q_241_93 : js_I 241 93 = some (.sipush 308, 3) := by decide +kernel
theorem q_241_96 : js_I 241 96 = some (.if_icmp .eq 6, 3) := by decide +kernel
theorem q_241_102 : js_I 241 102 = some (.aload_n 0, 1) := by decide +kernel
theorem q_241_103 : js_I 241 103 = some (.invokevirtual 68, 3) := by decide +kernel
theorem q_241_99 : js_I 241 99 = some (.goto (-93), 3) := by decide +kernel
theorem q_241_106 : js_I 241 106 = some (.aload_n 0, 1) := by decide +kernel
theorem q_241_107 : js_I 241 107 = some (.getfield 25, 3) := by decide +kernel
theorem q_241_110 : js_I 241 110 = some (.sipush 307, 3) := by decide +kernel
theorem q_241_113 : js_I 241 113 = some (.if_icmp .ne 7, 3) := by decide +kernel
theorem q_241_116 : js_I 241 116 = some (.iconst 1, 1) := by decide +kernel
theorem q_241_117 : js_I 241 117 = some (.goto 4, 3) := by decide +kernel
theorem q_241_120 : js_I 241 120 = some (.iconst 0, 1) := by decide +kernel
theorem q_241_121 : js_I 241 121 = some (.istore_n 3, 1) := by decide +kernel
theorem q_241_122 : js_I 241 122 = some (.aload_n 0, 1) := by decide +kernel
theorem q_241_123 : js_I 241 123 = some (.getfield 178, 3) := by decide +kernel
theorem q_241_126 : js_I 241 126 = some (.iload 5, 2) := by decide +kernel
theorem q_241_128 : js_I 241 128 = some (.iload_n 3, 1) := by decide +kernel
theorem q_241_129 : js_I 241 129 = some (.ifCond .eq 7, 3) := by decide +kernel
theorem q_241_136 : js_I 241 136 = some (.iconst 1, 1) := by decide +kernel
theorem q_241_132 : js_I 241 132 = some (.iconst 2, 1) := by decide +kernel
theorem q_241_133 : js_I 241 133 = some (.goto 4, 3) := by decide +kernel
theorem q_241_137 : js_I 241 137 = some (.iastore, 1) := by decide +kernel
theorem q_241_138 : js_I 241 138 = some (.iload_n 3, 1) := by decide +kernel
theorem q_241_139 : js_I 241 139 = some (.ifCond .ne 14, 3) := by decide +kernel
theorem q_241_142 : js_I 241 142 = some (.aload_n 0, 1) := by decide +kernel
theorem q_241_143 : js_I 241 143 = some (.getfield 187, 3) := by decide +kernel
theorem q_241_146 : js_I 241 146 = some (.iload 5, 2) := by decide +kernel
theorem q_241_148 : js_I 241 148 = some (.aload_n 0, 1) := by decide +kernel
theorem q_241_149 : js_I 241 149 = some (.invokevirtual 329, 3) := by decide +kernel
theorem q_241_152 : js_I 241 152 = some (.iastore, 1) := by decide +kernel
theorem q_241_153 : js_I 241 153 = some (.goto (-147), 3) := by decide +kernel
theorem q_242_0 : js_I 242 0 = some (.aload_n 0, 1) := by decide +kernel
theorem q_242_1 : js_I 242 1 = some (.invokevirtual 68, 3) := by decide +kernel
theorem q_242_4 : js_I 242 4 = some (.aload_n 0, 1) := by decide +kernel
theorem q_242_5 : js_I 242 5 = some (.bipush 7, 2) := by decide +kernel
theorem q_242_7 : js_I 242 7 = some (.iconst (-1), 1) := by decide +kernel
theorem q_242_8 : js_I 242 8 = some (.invokevirtual 314, 3) := by decide +kernel
theorem q_242_11 : js_I 242 11 = some (.istore_n 1, 1) := by decide +kernel
theorem q_242_12 : js_I 242 12 = some (.aload_n 0, 1) := by decide +kernel
theorem q_242_13 : js_I 242 13 = some (.bipush 61, 2) := by decide +kernel
theorem q_242_15 : js_I 242 15 = some (.invokevirtual 75, 3) := by decide +kernel
theorem q_242_18 : js_I 242 18 = some (.aload_n 0, 1) := by decide +kernel
theorem q_242_19 : js_I 242 19 = some (.iconst 0, 1) := by decide +kernel
theorem q_242_20 : js_I 242 20 = some (.invokevirtual 156, 3) := by decide +kernel
theorem q_242_23 : js_I 242 23 = some (.aload_n 0, 1) := by decide +kernel
theorem q_242_24 : js_I 242 24 = some (.getfield 141, 3) := by decide +kernel
theorem q_242_27 : js_I 242 27 = some (.istore_n 2, 1) := by decide +kernel
theorem q_242_28 : js_I 242 28 = some (.aload_n 0, 1) := by decide +kernel
theorem q_242_29 : js_I 242 29 = some (.invokevirtual 68, 3) := by decide +kernel
theorem q_242_32 : js_I 242 32 = some (.aload_n 0, 1) := by decide +kernel
theorem q_242_33 : js_I 242 33 = some (.sipush 311, 3) := by decide +kernel
theorem q_242_36 : js_I 242 36 = some (.invokevirtual 75, 3) := by decide +kernel
theorem q_242_39 : js_I 242 39 = some (.aload_n 0, 1) := by decide +kernel
theorem q_242_40 : js_I 242 40 = some (.iconst 0, 1) := by decide +kernel
theorem q_242_41 : js_I 242 41 = some (.invokevirtual 156, 3) := by decide +kernel
theorem q_242_44 : js_I 242 44 = some (.aload_n 0, 1) := by decide +kernel
theorem q_242_45 : js_I 242 45 = some (.getfield 141, 3) := by decide +kernel
theorem q_242_48 : js_I 242 48 = some (.istore_n 3, 1) := by decide +kernel
theorem q_242_49 : js_I 242 49 = some (.aload_n 0, 1) := by decide +kernel
theorem q_242_50 : js_I 242 50 = some (.getfield 22, 3) := by decide +kernel
theorem q_242_53 : js_I 242 53 = some (.ifCond .ne 17, 3) := by decide +kernel
theorem q_242_56 : js_I 242 56 = some (.iload_n 3, 1) := by decide +kernel
theorem q_242_57 : js_I 242 57 = some (.iload_n 2, 1) := by decide +kernel
theorem q_242_58 : js_I 242 58 = some (.if_icmp .ge 12, 3) := by decide +kernel
theorem q_242_61 : js_I 242 61 = some (.aload_n 0, 1) := by decide +kernel
theorem q_242_62 : js_I 242 62 = some (.iconst 4, 1) := by decide +kernel
theorem q_242_63 : js_I 242 63 = some (.aload_n 0, 1) := by decide +kernel
theorem q_242_64 : js_I 242 64 = some (.getfield 135, 3) := by decide +kernel
theorem q_242_67 : js_I 242 67 = some (.invokevirtual 65, 3) := by decide +kernel
theorem q_242_70 : js_I 242 70 = some (.aload_n 0, 1) := by decide +kernel
theorem q_242_71 : js_I 242 71 = some (.invokevirtual 68, 3) := by decide +kernel
theorem q_242_74 : js_I 242 74 = some (.aload_n 0, 1) := by decide +kernel
theorem q_242_75 : js_I 242 75 = some (.getfield 22, 3) := by decide +kernel
theorem q_242_78 : js_I 242 78 = some (.ifCond .le 5, 3) := by decide +kernel
theorem q_242_81 : js_I 242 81 = some (.iconst (-1), 1) := by decide +kernel
theorem q_242_82 : js_I 242 82 = some (.ireturn, 1) := by decide +kernel
theorem q_242_83 : js_I 242 83 = some (.aload_n 0, 1) := by decide +kernel
theorem q_242_84 : js_I 242 84 = some (.getfield 105, 3) := by decide +kernel
theorem q_242_87 : js_I 242 87 = some (.iload_n 1, 1) := by decide +kernel
theorem q_242_88 : js_I 242 88 = some (.iload_n 2, 1) := by decide +kernel
theorem q_242_89 : js_I 242 89 = some (.iastore, 1) := by decide +kernel
theorem q_242_90 : js_I 242 90 = some (.aload_n 0, 1) := by decide +kernel
theorem q_242_91 : js_I 242 91 = some (.getfield 108, 3) := by decide +kernel
theorem q_242_94 : js_I 242 94 = some (.iload_n 1, 1) := by decide +kernel
theorem q_242_95 : js_I 242 95 = some (.iload_n 3, 1) := by decide +kernel
theorem q_242_96 : js_I 242 96 = some (.iastore, 1) := by decide +kernel
theorem q_242_97 : js_I 242 97 = some (.aload_n 0, 1) := by decide +kernel
theorem q_242_98 : js_I 242 98 = some (.bipush 123, 2) := by decide +kernel
theorem q_242_100 : js_I 242 100 = some (.invokevirtual 159, 3) := by decide +kernel
theorem q_242_103 : js_I 242 103 = some (.aload_n 0, 1) := by decide +kernel
theorem q_242_104 : js_I 242 104 = some (.getfield 89, 3) := by decide +kernel
theorem q_242_107 : js_I 242 107 = some (.iload_n 1, 1) := by decide +kernel
theorem q_242_108 : js_I 242 108 = some (.iconst 1, 1) := by decide +kernel
theorem q_242_109 : js_I 242 109 = some (.bastore, 1) := by decide +kernel
theorem q_242_110 : js_I 242 110 = some (.aload_n 0, 1) := by decide +kernel
theorem q_242_111 : js_I 242 111 = some (.invokevirtual 290, 3) := by decide +kernel
theorem q_242_114 : js_I 242 114 = some (.istore 4, 2) := by decide +kernel
theorem q_242_116 : js_I 242 116 = some (.aload_n 0, 1) := by decide +kernel
theorem q_242_117 : js_I 242 117 = some (.bipush 125, 2) := by decide +kernel
theorem q_242_119 : js_I 242 119 = some (.invokevirtual 162, 3) := by decide +kernel
theorem q_242_122 : js_I 242 122 = some (.aload_n 0, 1) := by decide +kernel
theorem q_242_123 : js_I 242 123 = some (.iload_n 1, 1) := by decide +kernel
theorem q_242_124 : js_I 242 124 = some (.invokevirtual 293, 3) := by decide +kernel
theorem q_242_127 : js_I 242 127 = some (.aload_n 0, 1) := by decide +kernel
theorem q_242_128 : js_I 242 128 = some (.bipush 27, 2) := by decide +kernel
theorem q_242_130 : js_I 242 130 = some (.iconst 0, 1) := by decide +kernel
theorem q_242_131 : js_I 242 131 = some (.lconst 0, 1) := by decide +kernel
theorem q_242_132 : js_I 242 132 = some (.lconst 0, 1) := by decide +kernel
theorem q_242_133 : js_I 242 133 = some (.iload_n 1, 1) := by decide +kernel
theorem q_242_134 : js_I 242 134 = some (.iload 4, 2) := by decide +kernel
theorem q_242_136 : js_I 242 136 = some (.iconst 0, 1) := by decide +kernel
theorem q_242_137 : js_I 242 137 = some (.invokevirtual 208, 3) := by decide +kernel
theorem q_242_140 : js_I 242 140 = some (.ireturn, 1) := by decide +kernel
theorem q_243_0 : js_I 243 0 = some (.aload_n 0, 1) := by decide +kernel
theorem q_243_1 : js_I 243 1 = some (.invokevirtual 96, 3) := by decide +kernel
theorem q_243_4 : js_I 243 4 = some (.istore_n 1, 1) := by decide +kernel
theorem q_243_5 : js_I 243 5 = some (.aload_n 0, 1) := by decide +kernel
theorem q_243_6 : js_I 243 6 = some (.invokevirtual 271, 3) := by decide +kernel
theorem q_243_9 : js_I 243 9 = some (.istore_n 2, 1) := by decide +kernel
theorem q_243_10 : js_I 243 10 = some (.iload_n 1, 1) := by decide +kernel
theorem q_243_11 : js_I 243 11 = some (.ifCond .lt 48, 3) := by decide +kernel
theorem q_243_14 : js_I 243 14 = some (.aload_n 0, 1) := by decide +kernel
theorem q_243_15 : js_I 243 15 = some (.getfield 99, 3) := by decide +kernel
theorem q_243_18 : js_I 243 18 = some (.iload_n 1, 1) := by decide +kernel
theorem q_243_19 : js_I 243 19 = some (.iaload, 1) := by decide +kernel
theorem q_243_20 : js_I 243 20 = some (.iconst 2, 1) := by decide +kernel
theorem q_243_21 : js_I 243 21 = some (.if_icmp .eq 34, 3) := by decide +kernel
theorem q_243_24 : js_I 243 24 = some (.aload_n 0, 1) := by decide +kernel
theorem q_243_25 : js_I 243 25 = some (.getfield 99, 3) := by decide +kernel
theorem q_243_28 : js_I 243 28 = some (.iload_n 1, 1) := by decide +kernel
theorem q_243_29 : js_I 243 29 = some (.iaload, 1) := by decide +kernel
theorem q_243_30 : js_I 243 30 = some (.iconst 3, 1) := by decide +kernel
theorem q_243_31 : js_I 243 31 = some (.if_icmp .eq 24, 3) := by decide +kernel
theorem q_243_34 : js_I 243 34 = some (.aload_n 0, 1) := by decide +kernel
theorem q_243_35 : js_I 243 35 = some (.getfield 99, 3) := by decide +kernel
theorem q_243_38 : js_I 243 38 = some (.iload_n 1, 1) := by decide +kernel
theorem q_243_39 : js_I 243 39 = some (.iaload, 1) := by decide +kernel
theorem q_243_40 : js_I 243 40 = some (.iconst 5, 1) := by decide +kernel
theorem q_243_41 : js_I 243 41 = some (.if_icmp .eq 14, 3) := by decide +kernel
theorem q_243_44 : js_I 243 44 = some (.aload_n 0, 1) := by decide +kernel
theorem q_243_45 : js_I 243 45 = some (.getfield 99, 3) := by decide +kernel
theorem q_243_48 : js_I 243 48 = some (.iload_n 1, 1) := by decide +kernel
theorem q_243_49 : js_I 243 49 = some (.iaload, 1) := by decide +kernel
theorem q_243_50 : js_I 243 50 = some (.bipush 6, 2) := by decide +kernel
theorem q_243_52 : js_I 243 52 = some (.if_icmp .ne 7, 3) := by decide +kernel
theorem q_243_55 : js_I 243 55 = some (.iconst 1, 1) := by decide +kernel
theorem q_243_56 : js_I 243 56 = some (.goto 4, 3) := by decide +kernel
theorem q_243_59 : js_I 243 59 = some (.iconst 0, 1) := by decide +kernel
theorem q_243_60 : js_I 243 60 = some (.istore_n 3, 1) := by decide +kernel
theorem q_243_61 : js_I 243 61 = some (.iload_n 1, 1) := by decide +kernel
theorem q_243_62 : js_I 243 62 = some (.ifCond .lt 56, 3) := by decide +kernel
theorem q_243_65 : js_I 243 65 = some (.aload_n 0, 1) := by decide +kernel
theorem q_243_66 : js_I 243 66 = some (.getfield 99, 3) := by decide +kernel
theorem q_243_69 : js_I 243 69 = some (.iload_n 1, 1) := by decide +kernel
theorem q_243_70 : js_I 243 70 = some (.iaload, 1) := by decide +kernel
theorem q_243_71 : js_I 243 71 = some (.iconst 4, 1) := by decide +kernel
theorem q_243_72 : js_I 243 72 = some (.if_icmp .ne 12, 3) := by decide +kernel
theorem q_243_75 : js_I 243 75 = some (.iload_n 2, 1) := by decide +kernel
theorem q_243_76 : js_I 243 76 = some (.bipush 40, 2) := by decide +kernel
theorem q_243_78 : js_I 243 78 = some (.if_icmp .ne 40, 3) := by decide +kernel
theorem q_243_81 : js_I 243 81 = some (.goto 33, 3) := by decide +kernel
theorem q_243_84 : js_I 243 84 = some (.iload_n 3, 1) := by decide +kernel
theorem q_243_85 : js_I 243 85 = some (.ifCond .eq 33, 3) := by decide +kernel
theorem q_243_88 : js_I 243 88 = some (.aload_n 0, 1) := by decide +kernel
theorem q_243_89 : js_I 243 89 = some (.getfield 117, 3) := by decide +kernel
theorem q_243_92 : js_I 243 92 = some (.iload_n 1, 1) := by decide +kernel
theorem q_243_93 : js_I 243 93 = some (.baload, 1) := by decide +kernel
theorem q_243_94 : js_I 243 94 = some (.iload_n 2, 1) := by decide +kernel
theorem q_243_95 : js_I 243 95 = some (.bipush 91, 2) := by decide +kernel
theorem q_243_97 : js_I 243 97 = some (.if_icmp .ne 7, 3) := by decide +kernel
theorem q_243_100 : js_I 243 100 = some (.iconst 1, 1) := by decide +kernel
theorem q_243_101 : js_I 243 101 = some (.goto 4, 3) := by decide +kernel
theorem q_243_104 : js_I 243 104 = some (.iconst 0, 1) := by decide +kernel
theorem q_243_105 : js_I 243 105 = some (.if_icmp .ne 13, 3) := by decide +kernel
theorem q_243_108 : js_I 243 108 = some (.iload_n 2, 1) := by decide +kernel
theorem q_243_109 : js_I 243 109 = some (.bipush 40, 2) := by decide +kernel
theorem q_243_111 : js_I 243 111 = some (.if_icmp .eq 7, 3) := by decide +kernel
theorem q_243_114 : js_I 243 114 = some (.iconst 1, 1) := by decide +kernel
theorem q_243_115 : js_I 243 115 = some (.goto 4, 3) := by decide +kernel
theorem q_243_118 : js_I 243 118 = some (.iconst 0, 1) := by decide +kernel
theorem q_243_119 : js_I 243 119 = some (.istore 4, 2) := by decide +kernel
theorem q_243_121 : js_I 243 121 = some (.iload 4, 2) := by decide +kernel
theorem q_243_123 : js_I 243 123 = some (.ifCond .ne 14, 3) := by decide +kernel
theorem q_243_126 : js_I 243 126 = some (.aload_n 0, 1) := by decide +kernel
theorem q_243_127 : js_I 243 127 = some (.iconst 3, 1) := by decide +kernel
theorem q_243_128 : js_I 243 128 = some (.aload_n 0, 1) := by decide +kernel
theorem q_243_129 : js_I 243 129 = some (.getfield 35, 3) := by decide +kernel
theorem q_243_132 : js_I 243 132 = some (.invokevirtual 65, 3) := by decide +kernel
theorem q_243_137 : js_I 243 137 = some (.aload_n 0, 1) := by decide +kernel
theorem q_243_138 : js_I 243 138 = some (.getfield 99, 3) := by decide +kernel
theorem q_243_141 : js_I 243 141 = some (.iload_n 1, 1) := by decide +kernel
theorem q_243_142 : js_I 243 142 = some (.iaload, 1) := by decide +kernel
theorem q_243_143 : js_I 243 143 = some (.iconst 4, 1) := by decide +kernel
theorem q_243_144 : js_I 243 144 = some (.if_icmp .ne 30, 3) := by decide +kernel
theorem q_243_147 : js_I 243 147 = some (.aload_n 0, 1) := by decide +kernel
theorem q_243_148 : js_I 243 148 = some (.iload_n 1, 1) := by decide +kernel
theorem q_243_149 : js_I 243 149 = some (.invokevirtual 274, 3) := by decide +kernel
theorem q_243_174 : js_I 243 174 = some (.aload_n 0, 1) := by decide +kernel
theorem q_243_175 : js_I 243 175 = some (.invokevirtual 68, 3) := by decide +kernel
theorem q_243_135 : js_I 243 135 = some (.iconst (-1), 1) := by decide +kernel
theorem q_243_136 : js_I 243 136 = some (.ireturn, 1) := by decide +kernel
theorem q_243_152 : js_I 243 152 = some (.istore 5, 2) := by decide +kernel
theorem q_243_154 : js_I 243 154 = some (.aload_n 0, 1) := by decide +kernel
theorem q_243_155 : js_I 243 155 = some (.bipush 59, 2) := by decide +kernel
theorem q_243_157 : js_I 243 157 = some (.invokevirtual 75, 3) := by decide +kernel
theorem q_243_160 : js_I 243 160 = some (.aload_n 0, 1) := by decide +kernel
theorem q_243_161 : js_I 243 161 = some (.bipush 28, 2) := by decide +kernel
theorem q_243_163 : js_I 243 163 = some (.iconst 0, 1) := by decide +kernel
theorem q_243_164 : js_I 243 164 = some (.lconst 0, 1) := by decide +kernel
theorem q_243_165 : js_I 243 165 = some (.lconst 0, 1) := by decide +kernel
theorem q_243_166 : js_I 243 166 = some (.iload 5, 2) := by decide +kernel
theorem q_243_168 : js_I 243 168 = some (.iconst 0, 1) := by decide +kernel
theorem q_243_169 : js_I 243 169 = some (.iconst 0, 1) := by decide +kernel
theorem q_243_170 : js_I 243 170 = some (.invokevirtual 208, 3) := by decide +kernel
theorem q_243_173 : js_I 243 173 = some (.ireturn, 1) := by decide +kernel
theorem q_243_178 : js_I 243 178 = some (.aload_n 0, 1) := by decide +kernel
theorem q_243_179 : js_I 243 179 = some (.getfield 117, 3) := by decide +kernel
theorem q_243_182 : js_I 243 182 = some (.iload_n 1, 1) := by decide +kernel
theorem q_243_183 : js_I 243 183 = some (.baload, 1) := by decide +kernel
theorem q_243_184 : js_I 243 184 = some (.ifCond .eq 11, 3) := by decide +kernel
theorem q_243_195 : js_I 243 195 = some (.iconst (-1), 1) := by decide +kernel
theorem q_243_187 : js_I 243 187 = some (.aload_n 0, 1) := by decide +kernel
theorem q_243_188 : js_I 243 188 = some (.iload_n 1, 1) := by decide +kernel
theorem q_243_189 : js_I 243 189 = some (.invokevirtual 277, 3) := by decide +kernel
theorem q_243_192 : js_I 243 192 = some (.goto 4, 3) := by decide +kernel
theorem q_243_196 : js_I 243 196 = some (.istore 5, 2) := by decide +kernel
theorem q_243_198 : js_I 243 198 = some (.aload_n 0, 1) := by decide +kernel
theorem q_243_199 : js_I 243 199 = some (.bipush 61, 2) := by decide +kernel
theorem q_243_201 : js_I 243 201 = some (.invokevirtual 75, 3) := by decide +kernel
theorem q_243_204 : js_I 243 204 = some (.aload_n 0, 1) := by decide +kernel
theorem q_243_205 : js_I 243 205 = some (.aload_n 0, 1) := by decide +kernel
theorem q_243_206 : js_I 243 206 = some (.getfield 102, 3) := by decide +kernel
theorem q_243_209 : js_I 243 209 = some (.iload_n 1, 1) := by decide +kernel
theorem q_243_210 : js_I 243 210 = some (.iaload, 1) := by decide +kernel
theorem q_243_211 : js_I 243 211 = some (.aload_n 0, 1) := by decide +kernel
theorem q_243_212 : js_I 243 212 = some (.getfield 105, 3) := by decide +kernel
theorem q_243_215 : js_I 243 215 = some (.iload_n 1, 1) := by decide +kernel
theorem q_243_216 : js_I 243 216 = some (.iaload, 1) := by decide +kernel
theorem q_243_217 : js_I 243 217 = some (.i2l, 1) := by decide +kernel
theorem q_243_218 : js_I 243 218 = some (.aload_n 0, 1) := by decide +kernel
theorem q_243_219 : js_I 243 219 = some (.getfield 108, 3) := by decide +kernel
theorem q_243_222 : js_I 243 222 = some (.iload_n 1, 1) := by decide +kernel
theorem q_243_223 : js_I 243 223 = some (.iaload, 1) := by decide +kernel
theorem q_243_224 : js_I 243 224 = some (.i2l, 1) := by decide +kernel
theorem q_243_225 : js_I 243 225 = some (.invokevirtual 280, 3) := by decide +kernel
theorem q_243_228 : js_I 243 228 = some (.istore 6, 2) := by decide +kernel
theorem q_243_230 : js_I 243 230 = some (.aload_n 0, 1) := by decide +kernel
theorem q_243_231 : js_I 243 231 = some (.bipush 59, 2) := by decide +kernel
theorem q_243_233 : js_I 243 233 = some (.invokevirtual 75, 3) := by decide +kernel
theorem q_243_236 : js_I 243 236 = some (.aload_n 0, 1) := by decide +kernel
theorem q_243_237 : js_I 243 237 = some (.iload 5, 2) := by decide +kernel
theorem q_243_239 : js_I 243 239 = some (.ifCond .ge 8, 3) := by decide +kernel
theorem q_243_242 : js_I 243 242 = some (.bipush 20, 2) := by decide +kernel
theorem q_243_244 : js_I 243 244 = some (.goto 5, 3) := by decide +kernel
theorem q_243_247 : js_I 243 247 = some (.bipush 21, 2) := by decide +kernel
theorem q_243_249 : js_I 243 249 = some (.iconst 0, 1) := by decide +kernel
theorem q_243_250 : js_I 243 250 = some (.lconst 0, 1) := by decide +kernel
theorem q_243_251 : js_I 243 251 = some (.lconst 0, 1) := by decide +kernel
theorem q_243_252 : js_I 243 252 = some (.iload_n 1, 1) := by decide +kernel
theorem q_243_253 : js_I 243 253 = some (.iload 6, 2) := by decide +kernel
theorem q_243_255 : js_I 243 255 = some (.iload 5, 2) := by decide +kernel
theorem q_243_257 : js_I 243 257 = some (.invokevirtual 208, 3) := by decide +kernel
theorem q_243_260 : js_I 243 260 = some (.ireturn, 1) := by decide +kernel
theorem q_244_0 : js_I 244 0 = some (.aload_n 0, 1) := by decide +kernel
theorem q_244_1 : js_I 244 1 = some (.iconst 0, 1) := by decide +kernel
theorem q_244_2 : js_I 244 2 = some (.putfield 437, 3) := by decide +kernel
theorem q_244_5 : js_I 244 5 = some (.aload_n 0, 1) := by decide +kernel
theorem q_244_6 : js_I 244 6 = some (.iconst 0, 1) := by decide +kernel
theorem q_244_7 : js_I 244 7 = some (.putfield 428, 3) := by decide +kernel
theorem q_244_10 : js_I 244 10 = some (.aload_n 0, 1) := by decide +kernel
theorem q_244_11 : js_I 244 11 = some (.iconst 0, 1) := by decide +kernel
theorem q_244_12 : js_I 244 12 = some (.putfield 498, 3) := by decide +kernel
theorem q_244_15 : js_I 244 15 = some (.aload_n 0, 1) := by decide +kernel
theorem q_244_16 : js_I 244 16 = some (.iconst 0, 1) := by decide +kernel
theorem q_244_17 : js_I 244 17 = some (.putfield 440, 3) := by decide +kernel
theorem q_244_20 : js_I 244 20 = some (.aload_n 0, 1) := by decide +kernel
theorem q_244_21 : js_I 244 21 = some (.iconst 0, 1) := by decide +kernel
theorem q_244_22 : js_I 244 22 = some (.putfield 443, 3) := by decide +kernel
theorem q_244_25 : js_I 244 25 = some (.iconst 0, 1) := by decide +kernel
theorem q_244_26 : js_I 244 26 = some (.istore_n 1, 1) := by decide +kernel
theorem q_244_27 : js_I 244 27 = some (.iload_n 1, 1) := by decide +kernel
theorem q_244_28 : js_I 244 28 = some (.aload_n 0, 1) := by decide +kernel
theorem q_244_29 : js_I 244 29 = some (.getfield 86, 3) := by decide +kernel
theorem q_244_32 : js_I 244 32 = some (.if_icmp .ge 107, 3) := by decide +kernel
theorem q_244_35 : js_I 244 35 = some (.aload_n 0, 1) := by decide +kernel
theorem q_244_36 : js_I 244 36 = some (.getfield 99, 3) := by decide +kernel
theorem q_244_39 : js_I 244 39 = some (.iload_n 1, 1) := by decide +kernel
theorem q_244_40 : js_I 244 40 = some (.iaload, 1) := by decide +kernel
theorem q_244_41 : js_I 244 41 = some (.iconst 1, 1) := by decide +kernel
theorem q_244_42 : js_I 244 42 = some (.if_icmp .lt 91, 3) := by decide +kernel
theorem q_244_45 : js_I 244 45 = some (.aload_n 0, 1) := by decide +kernel
theorem q_244_46 : js_I 244 46 = some (.getfield 99, 3) := by decide +kernel
theorem q_244_49 : js_I 244 49 = some (.iload_n 1, 1) := by decide +kernel
theorem q_244_50 : js_I 244 50 = some (.iaload, 1) := by decide +kernel
theorem q_244_51 : js_I 244 51 = some (.iconst 3, 1) := by decide +kernel
theorem q_244_52 : js_I 244 52 = some (.if_icmp .le 6, 3) := by decide +kernel
theorem q_244_55 : js_I 244 55 = some (.goto 78, 3) := by decide +kernel
theorem q_244_58 : js_I 244 58 = some (.aload_n 0, 1) := by decide +kernel
theorem q_244_59 : js_I 244 59 = some (.getfield 111, 3) := by decide +kernel
theorem q_244_62 : js_I 244 62 = some (.iload_n 1, 1) := by decide +kernel
theorem q_244_63 : js_I 244 63 = some (.aload_n 0, 1) := by decide +kernel
theorem q_244_64 : js_I 244 64 = some (.getfield 437, 3) := by decide +kernel
theorem q_244_67 : js_I 244 67 = some (.iastore, 1) := by decide +kernel
theorem q_244_68 : js_I 244 68 = some (.aload_n 0, 1) := by decide +kernel
theorem q_244_69 : js_I 244 69 = some (.dup, 1) := by decide +kernel
theorem q_244_70 : js_I 244 70 = some (.getfield 437, 3) := by decide +kernel
theorem q_244_73 : js_I 244 73 = some (.aload_n 0, 1) := by decide +kernel
theorem q_244_74 : js_I 244 74 = some (.getfield 114, 3) := by decide +kernel
theorem q_244_77 : js_I 244 77 = some (.iload_n 1, 1) := by decide +kernel
theorem q_244_78 : js_I 244 78 = some (.iaload, 1) := by decide +kernel
theorem q_244_79 : js_I 244 79 = some (.iadd, 1) := by decide +kernel
theorem q_244_80 : js_I 244 80 = some (.putfield 437, 3) := by decide +kernel
theorem q_244_83 : js_I 244 83 = some (.aload_n 0, 1) := by decide +kernel
theorem q_244_84 : js_I 244 84 = some (.getfield 99, 3) := by decide +kernel
theorem q_244_87 : js_I 244 87 = some (.iload_n 1, 1) := by decide +kernel
theorem q_244_88 : js_I 244 88 = some (.iaload, 1) := by decide +kernel
theorem q_244_89 : js_I 244 89 = some (.iconst 1, 1) := by decide +kernel
theorem q_244_90 : js_I 244 90 = some (.if_icmp .ne 18, 3) := by decide +kernel
theorem q_244_93 : js_I 244 93 = some (.aload_n 0, 1) := by decide +kernel
theorem q_244_94 : js_I 244 94 = some (.dup, 1) := by decide +kernel
theorem q_244_95 : js_I 244 95 = some (.getfield 440, 3) := by decide +kernel
theorem q_244_98 : js_I 244 98 = some (.aload_n 0, 1) := by decide +kernel
theorem q_244_99 : js_I 244 99 = some (.getfield 114, 3) := by decide +kernel
theorem q_244_102 : js_I 244 102 = some (.iload_n 1, 1) := by decide +kernel
theorem q_244_103 : js_I 244 103 = some (.iaload, 1) := by decide +kernel
theorem q_244_104 : js_I 244 104 = some (.iadd, 1) := by decide +kernel
theorem q_244_105 : js_I 244 105 = some (.putfield 440, 3) := by decide +kernel
theorem q_244_139 : js_I 244 139 = some (.iconst 0, 1) := by decide +kernel
theorem q_244_140 : js_I 244 140 = some (.istore_n 1, 1) := by decide +kernel
theorem q_244_141 : js_I 244 141 = some (.iconst 0, 1) := by decide +kernel
theorem q_244_142 : js_I 244 142 = some (.istore_n 2, 1) := by decide +kernel
theorem q_244_108 : js_I 244 108 = some (.aload_n 0, 1) := by decide +kernel
theorem q_244_109 : js_I 244 109 = some (.getfield 99, 3) := by decide +kernel
theorem q_244_112 : js_I 244 112 = some (.iload_n 1, 1) := by decide +kernel
theorem q_244_113 : js_I 244 113 = some (.iaload, 1) := by decide +kernel
theorem q_244_114 : js_I 244 114 = some (.iconst 2, 1) := by decide +kernel
theorem q_244_115 : js_I 244 115 = some (.if_icmp .ne 18, 3) := by decide +kernel
theorem q_244_118 : js_I 244 118 = some (.aload_n 0, 1) := by decide +kernel
theorem q_244_119 : js_I 244 119 = some (.dup, 1) := by decide +kernel
theorem q_244_120 : js_I 244 120 = some (.getfield 443, 3) := by decide +kernel
theorem q_244_123 : js_I 244 123 = some (.aload_n 0, 1) := by decide +kernel
theorem q_244_124 : js_I 244 124 = some (.getfield 114, 3) := by decide +kernel
theorem q_244_127 : js_I 244 127 = some (.iload_n 1, 1) := by decide +kernel
theorem q_244_128 : js_I 244 128 = some (.iaload, 1) := by decide +kernel
theorem q_244_129 : js_I 244 129 = some (.iadd, 1) := by decide +kernel
theorem q_244_130 : js_I 244 130 = some (.putfield 443, 3) := by decide +kernel
theorem q_244_133 : js_I 244 133 = some (.iinc 1 1, 3) := by decide +kernel
theorem q_244_136 : js_I 244 136 = some (.goto (-109), 3) := by decide +kernel
theorem q_244_143 : js_I 244 143 = some (.iload_n 2, 1) := by decide +kernel
theorem q_244_144 : js_I 244 144 = some (.aload_n 0, 1) := by decide +kernel
theorem q_244_145 : js_I 244 145 = some (.getfield 86, 3) := by decide +kernel
theorem q_244_148 : js_I 244 148 = some (.if_icmp .ge 110, 3) := by decide +kernel
theorem q_244_151 : js_I 244 151 = some (.aload_n 0, 1) := by decide +kernel
theorem q_244_152 : js_I 244 152 = some (.getfield 99, 3) := by decide +kernel
theorem q_244_155 : js_I 244 155 = some (.iload_n 2, 1) := by decide +kernel
theorem q_244_156 : js_I 244 156 = some (.iaload, 1) := by decide +kernel
theorem q_244_157 : js_I 244 157 = some (.iconst 4, 1) := by decide +kernel
theorem q_244_158 : js_I 244 158 = some (.if_icmp .eq 6, 3) := by decide +kernel
theorem q_244_164 : js_I 244 164 = some (.aload_n 0, 1) := by decide +kernel
theorem q_244_165 : js_I 244 165 = some (.iload_n 2, 1) := by decide +kernel
theorem q_244_166 : js_I 244 166 = some (.invokevirtual 560, 3) := by decide +kernel
theorem q_244_161 : js_I 244 161 = some (.goto 91, 3) := by decide +kernel
theorem q_244_258 : js_I 244 258 = some (.aload_n 0, 1) := by decide +kernel
theorem q_244_259 : js_I 244 259 = some (.iconst (-1), 1) := by decide +kernel
theorem q_244_260 : js_I 244 260 = some (.invokevirtual 560, 3) := by decide +kernel
theorem q_244_169 : js_I 244 169 = some (.aload_n 0, 1) := by decide +kernel
theorem q_244_170 : js_I 244 170 = some (.getfield 111, 3) := by decide +kernel
theorem q_244_173 : js_I 244 173 = some (.iload_n 2, 1) := by decide +kernel
theorem q_244_174 : js_I 244 174 = some (.aload_n 0, 1) := by decide +kernel
theorem q_244_175 : js_I 244 175 = some (.getfield 428, 3) := by decide +kernel
theorem q_244_178 : js_I 244 178 = some (.iastore, 1) := by decide +kernel
theorem q_244_179 : js_I 244 179 = some (.aload_n 0, 1) := by decide +kernel
theorem q_244_180 : js_I 244 180 = some (.aload_n 0, 1) := by decide +kernel
theorem q_244_181 : js_I 244 181 = some (.getfield 337, 3) := by decide +kernel
theorem q_244_184 : js_I 244 184 = some (.iload_n 2, 1) := by decide +kernel
theorem q_244_185 : js_I 244 185 = some (.iaload, 1) := by decide +kernel
theorem q_244_186 : js_I 244 186 = some (.iconst 0, 1) := by decide +kernel
theorem q_244_187 : js_I 244 187 = some (.invokevirtual 550, 3) := by decide +kernel
theorem q_244_190 : js_I 244 190 = some (.lstore_n 3, 1) := by decide +kernel
theorem q_244_191 : js_I 244 191 = some (.aload_n 0, 1) := by decide +kernel
theorem q_244_192 : js_I 244 192 = some (.getfield 340, 3) := by decide +kernel
theorem q_244_195 : js_I 244 195 = some (.iload_n 2, 1) := by decide +kernel
theorem q_244_196 : js_I 244 196 = some (.iaload, 1) := by decide +kernel
theorem q_244_197 : js_I 244 197 = some (.ifCond .lt 17, 3) := by decide +kernel
theorem q_244_200 : js_I 244 200 = some (.lload_n 3, 1) := by decide +kernel
theorem q_244_201 : js_I 244 201 = some (.aload_n 0, 1) := by decide +kernel
theorem q_244_202 : js_I 244 202 = some (.aload_n 0, 1) := by decide +kernel
theorem q_244_203 : js_I 244 203 = some (.getfield 340, 3) := by decide +kernel
theorem q_244_206 : js_I 244 206 = some (.iload_n 2, 1) := by decide +kernel
theorem q_244_207 : js_I 244 207 = some (.iaload, 1) := by decide +kernel
theorem q_244_208 : js_I 244 208 = some (.iconst 0, 1) := by decide +kernel
theorem q_244_209 : js_I 244 209 = some (.invokevirtual 511, 3) := by decide +kernel
theorem q_244_212 : js_I 244 212 = some (.ladd, 1) := by decide +kernel
theorem q_244_213 : js_I 244 213 = some (.lstore_n 3, 1) := by decide +kernel
theorem q_244_214 : js_I 244 214 = some (.aload_n 0, 1) := by decide +kernel
theorem q_244_215 : js_I 244 215 = some (.bipush 28, 2) := by decide +kernel
theorem q_244_217 : js_I 244 217 = some (.iconst 0, 1) := by decide +kernel
theorem q_244_218 : js_I 244 218 = some (.iconst 0, 1) := by decide +kernel
theorem q_244_219 : js_I 244 219 = some (.invokevirtual 505, 3) := by decide +kernel
theorem q_244_222 : js_I 244 222 = some (.pop, 1) := by decide +kernel
theorem q_244_223 : js_I 244 223 = some (.aload_n 0, 1) := by decide +kernel
theorem q_244_224 : js_I 244 224 = some (.dup, 1) := by decide +kernel
theorem q_244_225 : js_I 244 225 = some (.getfield 437, 3) := by decide +kernel
theorem q_244_228 : js_I 244 228 = some (.aload_n 0, 1) := by decide +kernel
theorem q_244_229 : js_I 244 229 = some (.getfield 487, 3) := by decide +kernel
theorem q_244_232 : js_I 244 232 = some (.iadd, 1) := by decide +kernel
theorem q_244_233 : js_I 244 233 = some (.putfield 437, 3) := by decide +kernel
theorem q_244_236 : js_I 244 236 = some (.aload_n 0, 1) := by decide +kernel
theorem q_244_237 : js_I 244 237 = some (.getfield 129, 3) := by decide +kernel
theorem q_244_240 : js_I 244 240 = some (.iload_n 2, 1) := by decide +kernel
theorem q_244_241 : js_I 244 241 = some (.lload_n 3, 1) := by decide +kernel
theorem q_244_242 : js_I 244 242 = some (.lconst 1, 1) := by decide +kernel
theorem q_244_243 : js_I 244 243 = some (.ladd, 1) := by decide +kernel
theorem q_244_244 : js_I 244 244 = some (.ldc2_w 563, 3) := by decide +kernel
theorem q_244_247 : js_I 244 247 = some (.invokestatic 234, 3) := by decide +kernel
theorem q_244_250 : js_I 244 250 = some (.l2i, 1) := by decide +kernel
theorem q_244_251 : js_I 244 251 = some (.iastore, 1) := by decide +kernel
theorem q_244_252 : js_I 244 252 = some (.iinc 2 1, 3) := by decide +kernel
theorem q_244_255 : js_I 244 255 = some (.goto (-112), 3) := by decide +kernel
theorem q_244_263 : js_I 244 263 = some (.aload_n 0, 1) := by decide +kernel
theorem q_244_264 : js_I 244 264 = some (.aload_n 0, 1) := by decide +kernel
theorem q_244_265 : js_I 244 265 = some (.getfield 428, 3) := by decide +kernel
theorem q_244_268 : js_I 244 268 = some (.putfield 446, 3) := by decide +kernel
theorem q_244_271 : js_I 244 271 = some (.aload_n 0, 1) := by decide +kernel
theorem q_244_272 : js_I 244 272 = some (.aload_n 0, 1) := by decide +kernel
theorem q_244_273 : js_I 244 273 = some (.getfield 455, 3) := by decide +kernel
theorem q_244_276 : js_I 244 276 = some (.iconst 0, 1) := by decide +kernel
theorem q_244_277 : js_I 244 277 = some (.invokevirtual 550, 3) := by decide +kernel
theorem q_244_280 : js_I 244 280 = some (.lconst 1, 1) := by decide +kernel
theorem q_244_281 : js_I 244 281 = some (.ladd, 1) := by decide +kernel
theorem q_244_282 : js_I 244 282 = some (.lstore_n 2, 1) := by decide +kernel
theorem q_244_283 : js_I 244 283 = some (.aload_n 0, 1) := by decide +kernel
theorem q_244_284 : js_I 244 284 = some (.bipush 29, 2) := by decide +kernel
theorem q_244_286 : js_I 244 286 = some (.iconst 0, 1) := by decide +kernel
theorem q_244_287 : js_I 244 287 = some (.iconst 0, 1) := by decide +kernel
theorem q_244_288 : js_I 244 288 = some (.invokevirtual 505, 3) := by decide +kernel
theorem q_244_291 : js_I 244 291 = some (.pop, 1) := by decide +kernel
theorem q_244_292 : js_I 244 292 = some (.aload_n 0, 1) := by decide +kernel
theorem q_244_293 : js_I 244 293 = some (.dup, 1) := by decide +kernel
theorem q_244_294 : js_I 244 294 = some (.getfield 437, 3) := by decide +kernel
theorem q_244_297 : js_I 244 297 = some (.aload_n 0, 1) := by decide +kernel
theorem q_244_298 : js_I 244 298 = some (.getfield 487, 3) := by decide +kernel
theorem q_244_301 : js_I 244 301 = some (.iadd, 1) := by decide +kernel
theorem q_244_302 : js_I 244 302 = some (.putfield 437, 3) := by decide +kernel
theorem q_244_305 : js_I 244 305 = some (.aload_n 0, 1) := by decide +kernel
theorem q_244_306 : js_I 244 306 = some (.getfield 428, 3) := by decide +kernel
theorem q_244_309 : js_I 244 309 = some (.sipush 8192, 3) := by decide +kernel
theorem q_244_312 : js_I 244 312 = some (.if_icmp .gt 22, 3) := by decide +kernel
theorem q_244_315 : js_I 244 315 = some (.aload_n 0, 1) := by decide +kernel
theorem q_244_316 : js_I 244 316 = some (.getfield 437, 3) := by decide +kernel
theorem q_244_319 : js_I 244 319 = some (.aload_n 0, 1) := by decide +kernel
theorem q_244_320 : js_I 244 320 = some (.getfield 422, 3) := by decide +kernel
theorem q_244_323 : js_I 244 323 = some (.if_icmp .gt 11, 3) := by decide +kernel
theorem q_244_326 : js_I 244 326 = some (.lload_n 2, 1) := by decide +kernel
theorem q_244_327 : js_I 244 327 = some (.ldc2_w 565, 3) := by decide +kernel
theorem q_244_330 : js_I 244 330 = some (.lcmp, 1) := by decide +kernel
theorem q_244_331 : js_I 244 331 = some (.ifCond .le 13, 3) := by decide +kernel
theorem q_244_334 : js_I 244 334 = some (.aload_n 0, 1) := by decide +kernel
theorem q_244_335 : js_I 244 335 = some (.bipush 11, 2) := by decide +kernel
theorem q_244_337 : js_I 244 337 = some (.aload_n 0, 1) := by decide +kernel
theorem q_244_338 : js_I 244 338 = some (.getfield 19, 3) := by decide +kernel
theorem q_244_341 : js_I 244 341 = some (.invokevirtual 65, 3) := by decide +kernel
theorem q_244_344 : js_I 244 344 = some (.aload_n 0, 1) := by decide +kernel
theorem q_244_345 : js_I 244 345 = some (.lload_n 2, 1) := by decide +kernel
theorem q_244_346 : js_I 244 346 = some (.ldc2_w 569, 3) := by decide +kernel
theorem q_244_349 : js_I 244 349 = some (.invokestatic 234, 3) := by decide +kernel
theorem q_244_352 : js_I 244 352 = some (.l2i, 1) := by decide +kernel
theorem q_244_353 : js_I 244 353 = some (.putfield 449, 3) := by decide +kernel
theorem q_244_356 : js_I 244 356 = some (.return_, 1) := by decide +kernel
theorem q_245_0 : js_I 245 0 = some (.iconst 0, 1) := by decide +kernel
theorem q_245_1 : js_I 245 1 = some (.istore_n 2, 1) := by decide +kernel
theorem q_245_2 : js_I 245 2 = some (.iload_n 2, 1) := by decide +kernel
theorem q_245_3 : js_I 245 3 = some (.aload_n 0, 1) := by decide +kernel
theorem q_245_4 : js_I 245 4 = some (.getfield 86, 3) := by decide +kernel
theorem q_245_7 : js_I 245 7 = some (.if_icmp .ge 68, 3) := by decide +kernel
theorem q_245_10 : js_I 245 10 = some (.aload_n 0, 1) := by decide +kernel
theorem q_245_11 : js_I 245 11 = some (.getfield 99, 3) := by decide +kernel
theorem q_245_14 : js_I 245 14 = some (.iload_n 2, 1) := by decide +kernel
theorem q_245_15 : js_I 245 15 = some (.iaload, 1) := by decide +kernel
theorem q_245_16 : js_I 245 16 = some (.iconst 5, 1) := by decide +kernel
theorem q_245_17 : js_I 245 17 = some (.if_icmp .lt 52, 3) := by decide +kernel
theorem q_245_20 : js_I 245 20 = some (.aload_n 0, 1) := by decide +kernel
theorem q_245_21 : js_I 245 21 = some (.getfield 99, 3) := by decide +kernel
theorem q_245_24 : js_I 245 24 = some (.iload_n 2, 1) := by decide +kernel
theorem q_245_25 : js_I 245 25 = some (.iaload, 1) := by decide +kernel
theorem q_245_26 : js_I 245 26 = some (.bipush 7, 2) := by decide +kernel
theorem q_245_28 : js_I 245 28 = some (.if_icmp .gt 41, 3) := by decide +kernel
theorem q_245_31 : js_I 245 31 = some (.aload_n 0, 1) := by decide +kernel
theorem q_245_32 : js_I 245 32 = some (.getfield 120, 3) := by decide +kernel
theorem q_245_35 : js_I 245 35 = some (.iload_n 2, 1) := by decide +kernel
theorem q_245_36 : js_I 245 36 = some (.iaload, 1) := by decide +kernel
theorem q_245_37 : js_I 245 37 = some (.iload_n 1, 1) := by decide +kernel
theorem q_245_38 : js_I 245 38 = some (.if_icmp .eq 6, 3) := by decide +kernel
theorem q_245_44 : js_I 245 44 = some (.aload_n 0, 1) := by decide +kernel
theorem q_245_45 : js_I 245 45 = some (.getfield 111, 3) := by decide +kernel
theorem q_245_48 : js_I 245 48 = some (.iload_n 2, 1) := by decide +kernel
theorem q_245_49 : js_I 245 49 = some (.aload_n 0, 1) := by decide +kernel
theorem q_245_50 : js_I 245 50 = some (.getfield 437, 3) := by decide +kernel
theorem q_245_53 : js_I 245 53 = some (.iastore, 1) := by decide +kernel
theorem q_245_54 : js_I 245 54 = some (.aload_n 0, 1) := by decide +kernel
theorem q_245_55 : js_I 245 55 = some (.dup, 1) := by decide +kernel
theorem q_245_56 : js_I 245 56 = some (.getfield 437, 3) := by decide +kernel
theorem q_245_59 : js_I 245 59 = some (.aload_n 0, 1) := by decide +kernel
theorem q_245_60 : js_I 245 60 = some (.getfield 114, 3) := by decide +kernel
theorem q_245_63 : js_I 245 63 = some (.iload_n 2, 1) := by decide +kernel
theorem q_245_64 : js_I 245 64 = some (.iaload, 1) := by decide +kernel
theorem q_245_65 : js_I 245 65 = some (.iadd, 1) := by decide +kernel
theorem q_245_66 : js_I 245 66 = some (.putfield 437, 3) := by decide +kernel
theorem q_245_41 : js_I 245 41 = some (.goto 28, 3) := by decide +kernel
theorem q_245_75 : js_I 245 75 = some (.aload_n 0, 1) := by decide +kernel
theorem q_245_76 : js_I 245 76 = some (.aload_n 0, 1) := by decide +kernel
theorem q_245_77 : js_I 245 77 = some (.getfield 437, 3) := by decide +kernel
theorem q_245_80 : js_I 245 80 = some (.putfield 490, 3) := by decide +kernel
theorem q_245_83 : js_I 245 83 = some (.aload_n 0, 1) := by decide +kernel
theorem q_245_84 : js_I 245 84 = some (.iconst 0, 1) := by decide +kernel
theorem q_245_85 : js_I 245 85 = some (.putfield 487, 3) := by decide +kernel
theorem q_245_88 : js_I 245 88 = some (.return_, 1) := by decide +kernel
theorem q_245_69 : js_I 245 69 = some (.iinc 2 1, 3) := by decide +kernel
theorem q_245_72 : js_I 245 72 = some (.goto (-70), 3) := by decide +kernel
theorem q_246_0 : js_I 246 0 = some (.lconst 0, 1) := by decide +kernel
theorem q_246_1 : js_I 246 1 = some (.lstore_n 3, 1) := by decide +kernel
theorem q_246_2 : js_I 246 2 = some (.iload_n 1, 1) := by decide +kernel
theorem q_246_3 : js_I 246 3 = some (.istore 5, 2) := by decide +kernel
theorem q_246_5 : js_I 246 5 = some (.iload 5, 2) := by decide +kernel
theorem q_246_7 : js_I 246 7 = some (.ifCond .lt 28, 3) := by decide +kernel
theorem q_246_35 : js_I 246 35 = some (.lload_n 3, 1) := by decide +kernel
theorem q_246_36 : js_I 246 36 = some (.lreturn, 1) := by decide +kernel
theorem q_246_10 : js_I 246 10 = some (.lload_n 3, 1) := by decide +kernel
theorem q_246_11 : js_I 246 11 = some (.aload_n 0, 1) := by decide +kernel
theorem q_246_12 : js_I 246 12 = some (.iload 5, 2) := by decide +kernel
theorem q_246_14 : js_I 246 14 = some (.iload_n 2, 1) := by decide +kernel
theorem q_246_15 : js_I 246 15 = some (.invokevirtual 530, 3) := by decide +kernel
theorem q_246_18 : js_I 246 18 = some (.ladd, 1) := by decide +kernel
theorem q_246_19 : js_I 246 19 = some (.invokestatic 520, 3) := by decide +kernel
theorem q_246_22 : js_I 246 22 = some (.lstore_n 3, 1) := by decide +kernel
theorem q_246_23 : js_I 246 23 = some (.aload_n 0, 1) := by decide +kernel
theorem q_246_24 : js_I 246 24 = some (.getfield 190, 3) := by decide +kernel
theorem q_246_27 : js_I 246 27 = some (.iload 5, 2) := by decide +kernel
theorem q_246_29 : js_I 246 29 = some (.iaload, 1) := by decide +kernel
theorem q_246_30 : js_I 246 30 = some (.istore 5, 2) := by decide +kernel
theorem q_246_32 : js_I 246 32 = some (.goto (-27), 3) := by decide +kernel
theorem qf_12_498 : ip_lk (vt_FL.getD 12 []) 498 = some (12, 52) := by decide +kernel
theorem qf_12_487 : ip_lk (vt_FL.getD 12 []) 487 = some (12, 54) := by decide +kernel
theorem qf_12_422 : ip_lk (vt_FL.getD 12 []) 422 = some (12, 55) := by decide +kernel
theorem qf_12_490 : ip_lk (vt_FL.getD 12 []) 490 = some (12, 53) := by decide +kernel
theorem qm_12_560 : ip_lk (vt_ML.getD 12 []) 560 = some (245, 1, 1, 12) := by decide +kernel
theorem qm_12_550 : ip_lk (vt_ML.getD 12 []) 550 = some (246, 2, 1, 12) := by decide +kernel
theorem qm_12_511 : ip_lk (vt_ML.getD 12 []) 511 = some (248, 2, 1, 12) := by decide +kernel
theorem qm_12_505 : ip_lk (vt_ML.getD 12 []) 505 = some (251, 3, 1, 12) := by decide +kernel
theorem qm_12_530 : ip_lk (vt_ML.getD 12 []) 530 = some (247, 2, 1, 12) := by decide +kernel
theorem qm_12_520 : ip_lk (vt_ML.getD 12 []) 520 = some (253, 1, 0, 0) := by decide +kernel
theorem qc_12_563 : ip_lk (vt_CL.getD 12 []) 563 = some (js_V (1, 400000)) := by decide +kernel
theorem qc_12_565 : ip_lk (vt_CL.getD 12 []) 565 = some (js_V (1, 100000)) := by decide +kernel
theorem qc_12_569 : ip_lk (vt_CL.getD 12 []) 569 = some (js_V (1, 2147483647)) := by decide +kernel
theorem ww_307 : js_w 307 = 307 := by decide +kernel
theorem ww_5 : js_w 5 = 5 := by decide +kernel
theorem ww_8192 : js_w 8192 = 8192 := by decide +kernel
theorem wl_100000 : js_l 100000 = 100000 := by decide +kernel
-- 241: VitalTwinModel.choice ()I
theorem b_241_0 {E : js_E} {d : Nat} {σ : js_S} : js_J E d 241 0 [(2, 83), (9, 0), (9, 0), (9, 0), (9, 0), (9, 0)] [] σ = js_J E d 241 6 [(2, 83), (0, (-1)), (0, (-1)), (0, 1), (9, 0), (9, 0)] [] σ :=
  (j_iconst q_241_0).trans <| (j_istore_n (l2 := [(2, 83), (0, (-1)), (9, 0), (9, 0), (9, 0), (9, 0)]) q_241_1 rfl (Nat.le_of_ble_eq_true rfl)).trans <| (j_iconst q_241_2).trans <| (j_istore_n (l2 := [(2, 83), (0, (-1)), (0, (-1)), (9, 0), (9, 0), (9, 0)]) q_241_3 rfl (Nat.le_of_ble_eq_true rfl)).trans <| (j_iconst q_241_4).trans <| (j_istore_n (l2 := [(2, 83), (0, (-1)), (0, (-1)), (0, 1), (9, 0), (9, 0)]) q_241_5 rfl (Nat.le_of_ble_eq_true rfl)).trans <| rfl
theorem b_241_6 {E : js_E} {d : Nat} {σ : js_S} {x1 x2 x3 : Int} {ux4 ux5 : js_v} : js_J E d 241 6 [(2, 83), (0, x1), (0, x2), (0, x3), ux4, ux5] [] σ = (if js_w x3 = 0 then js_r E (0, x1) σ else (if js_w (σ 83 9) = 0 then js_J E d 241 18 [(2, 83), (0, x1), (0, x2), (0, x3), ux4, ux5] [(2, 83)] σ else js_r E (0, x1) σ)) :=
  (j_iload_n q_241_6 rfl).trans <| (j_ifeq (t := 156) q_241_7 rfl).trans (js_ite ((j_iload_n q_241_156 rfl).trans <| j_ireturn q_241_157 qr_241) ((j_aload_n q_241_10 rfl).trans <| (j_get (ji := 9) (v := (0, σ 83 9)) q_241_11 (js_Fo qy_241 qf_12_22) js_o83 rfl rfl rfl rfl).trans <| (j_ifne (t := 156) q_241_14 rfl).trans (js_ite ((j_aload_n q_241_17 rfl).trans <| rfl) ((j_iload_n q_241_156 rfl).trans <| j_ireturn q_241_157 qr_241))))
theorem k_241_18 {E : js_E} {d : Nat} {σ σ2 : js_S} {x1 x2 x3 : Int} {ux4 ux5 : js_v} (hd : 1 ≤ d) (hz : js_J E (d - 1) 191 0 [(2, 83), (9, 0), (9, 0), (9, 0), (9, 0), (9, 0)] [] σ = js_r0 E σ2) : js_J E d 241 18 [(2, 83), (0, x1), (0, x2), (0, x3), ux4, ux5] [(2, 83)] σ = js_J E d 241 21 [(2, 83), (0, x1), (0, x2), (0, x3), ux4, ux5] [] σ2 :=
  j_call0 (m := 5) (js_caV q_241_18 (js_Mo qy_241 qm_12_68)) (js_agV (av := []) (st := []) rfl rfl js_o83 rfl) rfl rfl (by rw [ql_191]; exact Nat.le_of_ble_eq_true rfl) (Nat.le_of_ble_eq_true rfl) hd hz
theorem b_241_21 {E : js_E} {d : Nat} {σ : js_S} {x1 x2 x3 : Int} {ux4 ux5 : js_v} : js_J E d 241 21 [(2, 83), (0, x1), (0, x2), (0, x3), ux4, ux5] [] σ = js_J E d 241 24 [(2, 83), (0, x1), (0, x2), (0, x3), ux4, ux5] [(0, 40), (2, 83)] σ :=
  (j_aload_n q_241_21 rfl).trans <| (j_bi q_241_22 rfl).trans <| rfl
theorem k_241_24 {E : js_E} {d : Nat} {σ σ2 : js_S} {x1 x2 x3 z1 : Int} {ux4 ux5 : js_v} (hd : 1 ≤ d) (hz : js_J E (d - 1) 207 0 [(2, 83), (0, z1)] [] σ = js_r0 E σ2) : js_J E d 241 24 [(2, 83), (0, x1), (0, x2), (0, x3), ux4, ux5] [(0, z1), (2, 83)] σ = js_J E d 241 27 [(2, 83), (0, x1), (0, x2), (0, x3), ux4, ux5] [] σ2 :=
  j_call0 (m := 0) (js_caV q_241_24 (js_Mo qy_241 qm_12_159)) (js_agV (av := [(0, z1)]) (st := []) rfl rfl js_o83 rfl) rfl rfl (by rw [ql_207]; exact Nat.le_of_ble_eq_true rfl) (Nat.le_of_ble_eq_true rfl) hd hz
theorem b_241_27 {E : js_E} {d : Nat} {σ : js_S} {x1 x2 x3 : Int} {ux4 ux5 : js_v} : js_J E d 241 27 [(2, 83), (0, x1), (0, x2), (0, x3), ux4, ux5] [] σ = js_J E d 241 28 [(2, 83), (0, x1), (0, x2), (0, x3), ux4, ux5] [(2, 83)] σ :=
  (j_aload_n q_241_27 rfl).trans <| rfl
theorem k_241_28 {E : js_E} {d : Nat} {σ σ2 : js_S} {x1 x2 x3 : Int} {ux4 ux5 : js_v} {v : Int} (hd : 1 ≤ d) (hz : js_J E (d - 1) 237 0 [(2, 83), (9, 0), (9, 0)] [] σ = js_r E (0, v) σ2) : js_J E d 241 28 [(2, 83), (0, x1), (0, x2), (0, x3), ux4, ux5] [(2, 83)] σ = js_J E d 241 31 [(2, 83), (0, x1), (0, x2), (0, x3), ux4, ux5] [(0, v)] σ2 :=
  j_call (m := 2) (js_caV q_241_28 (js_Mo qy_241 qm_12_299)) (js_agV (av := []) (st := []) rfl rfl js_o83 rfl) rfl rfl (by rw [ql_237]; exact Nat.le_of_ble_eq_true rfl) (Nat.le_of_ble_eq_true rfl) hd hz
theorem b_241_31 {E : js_E} {d : Nat} {σ : js_S} {x1 x2 x3 z0 : Int} {ux4 ux5 : js_v} : js_J E d 241 31 [(2, 83), (0, x1), (0, x2), (0, x3), ux4, ux5] [(0, z0)] σ = js_J E d 241 36 [(2, 83), (0, x1), (0, x2), (0, x3), (0, z0), ux5] [(0, 41), (2, 83)] σ :=
  (j_istore (l2 := [(2, 83), (0, x1), (0, x2), (0, x3), (0, z0), ux5]) q_241_31 rfl (Nat.le_of_ble_eq_true rfl)).trans <| (j_aload_n q_241_33 rfl).trans <| (j_bi q_241_34 rfl).trans <| rfl
theorem k_241_36 {E : js_E} {d : Nat} {σ σ2 : js_S} {x1 x2 x3 x4 z1 : Int} {ux5 : js_v} (hd : 1 ≤ d) (hz : js_J E (d - 1) 211 0 [(2, 83), (0, z1)] [] σ = js_r0 E σ2) : js_J E d 241 36 [(2, 83), (0, x1), (0, x2), (0, x3), (0, x4), ux5] [(0, z1), (2, 83)] σ = js_J E d 241 39 [(2, 83), (0, x1), (0, x2), (0, x3), (0, x4), ux5] [] σ2 :=
  j_call0 (m := 0) (js_caV q_241_36 (js_Mo qy_241 qm_12_162)) (js_agV (av := [(0, z1)]) (st := []) rfl rfl js_o83 rfl) rfl rfl (by rw [ql_211]; exact Nat.le_of_ble_eq_true rfl) (Nat.le_of_ble_eq_true rfl) hd hz
theorem b_241_39 {E : js_E} {d : Nat} {σ : js_S} {x1 x2 x3 x4 : Int} {ux5 : js_v} : js_J E d 241 39 [(2, 83), (0, x1), (0, x2), (0, x3), (0, x4), ux5] [] σ = js_J E d 241 48 [(2, 83), (0, x1), (0, x2), (0, x3), (0, x4), ux5] [(2, 83), (0, x4), (1, 0), (1, 0), (0, 0), (0, 26), (2, 83)] σ :=
  (j_aload_n q_241_39 rfl).trans <| (j_bi q_241_40 rfl).trans <| (j_iconst q_241_42).trans <| (j_lconst0 q_241_43).trans <| (j_lconst0 q_241_44).trans <| (j_iload q_241_45 rfl).trans <| (j_aload_n q_241_47 rfl).trans <| rfl
theorem k_241_48 {E : js_E} {d : Nat} {σ σ2 : js_S} {x1 x2 x3 x4 z1 z2 z3 z4 z5 : Int} {ux5 : js_v} {v : Int} (hd : 1 ≤ d) (hz : js_J E (d - 1) 239 0 [(2, 83), (9, 0), (9, 0)] [] σ = js_r E (0, v) σ2) : js_J E d 241 48 [(2, 83), (0, x1), (0, x2), (0, x3), (0, x4), ux5] [(2, 83), (0, z5), (1, z4), (1, z3), (0, z2), (0, z1), (2, 83)] σ = js_J E d 241 51 [(2, 83), (0, x1), (0, x2), (0, x3), (0, x4), ux5] [(0, v), (0, z5), (1, z4), (1, z3), (0, z2), (0, z1), (2, 83)] σ2 :=
  j_call (m := 2) (js_caV q_241_48 (js_Mo qy_241 qm_12_329)) (js_agV (av := []) (st := [(0, z5), (1, z4), (1, z3), (0, z2), (0, z1), (2, 83)]) rfl rfl js_o83 rfl) rfl rfl (by rw [ql_239]; exact Nat.le_of_ble_eq_true rfl) (Nat.le_of_ble_eq_true rfl) hd hz
theorem b_241_51 {E : js_E} {d : Nat} {σ : js_S} {x1 x2 x3 x4 z1 z2 z3 z4 z5 z6 : Int} {ux5 : js_v} : js_J E d 241 51 [(2, 83), (0, x1), (0, x2), (0, x3), (0, x4), ux5] [(0, z6), (0, z5), (1, z4), (1, z3), (0, z2), (0, z1), (2, 83)] σ = js_J E d 241 52 [(2, 83), (0, x1), (0, x2), (0, x3), (0, x4), ux5] [(0, (-1)), (0, z6), (0, z5), (1, z4), (1, z3), (0, z2), (0, z1), (2, 83)] σ :=
  (j_iconst q_241_51).trans <| rfl
theorem k_241_52 {E : js_E} {d : Nat} {σ σ2 : js_S} {x1 x2 x3 x4 z1 z2 z3 z4 z5 z6 z7 : Int} {ux5 : js_v} {v : Int} (hd : 1 ≤ d) (hz : js_J E (d - 1) 217 0 [(2, 83), (0, z1), (0, z2), (1, z3), (9, 0), (1, z4), (9, 0), (0, z5), (0, z6), (0, z7), (9, 0)] [] σ = js_r E (0, v) σ2) : js_J E d 241 52 [(2, 83), (0, x1), (0, x2), (0, x3), (0, x4), ux5] [(0, z7), (0, z6), (0, z5), (1, z4), (1, z3), (0, z2), (0, z1), (2, 83)] σ = js_J E d 241 55 [(2, 83), (0, x1), (0, x2), (0, x3), (0, x4), ux5] [(0, v)] σ2 :=
  j_call (m := 1) (js_caV q_241_52 (js_Mo qy_241 qm_12_208)) (js_agV (av := [(0, z1), (0, z2), (1, z3), (1, z4), (0, z5), (0, z6), (0, z7)]) (st := []) rfl rfl js_o83 rfl) rfl rfl (by rw [ql_217]; exact Nat.le_of_ble_eq_true rfl) (Nat.le_of_ble_eq_true rfl) hd hz
theorem b_241_55 {E : js_E} {d : Nat} {σ : js_S} {x1 x2 x3 x4 z0 : Int} {ux5 : js_v} : js_J E d 241 55 [(2, 83), (0, x1), (0, x2), (0, x3), (0, x4), ux5] [(0, z0)] σ = (if 0 < js_w (σ 83 9) then js_r E (0, (-1)) σ else (if js_w x2 < 0 then js_J E d 241 84 [(2, 83), (0, z0), (0, x2), (0, x3), (0, x4), (0, z0)] [] σ else (if 0 ≤ js_w x2 ∧ js_w x2 < 66000 then js_J E d 241 84 [(2, 83), (0, x1), (0, x2), (0, x3), (0, x4), (0, z0)] [] (js_up σ 104 (js_w x2) z0) else none))) :=
  (j_istore (l2 := [(2, 83), (0, x1), (0, x2), (0, x3), (0, x4), (0, z0)]) q_241_55 rfl (Nat.le_of_ble_eq_true rfl)).trans <| (j_aload_n q_241_57 rfl).trans <| (j_get (ji := 9) (v := (0, σ 83 9)) q_241_58 (js_Fo qy_241 qf_12_22) js_o83 rfl rfl rfl rfl).trans <| (j_ifle (t := 66) q_241_61 rfl).trans (js_ite ((j_iconst q_241_64).trans <| j_ireturn q_241_65 qr_241) ((j_iload_n q_241_66 rfl).trans <| (j_ifge (t := 76) q_241_67 rfl).trans (js_ite ((j_iload q_241_70 rfl).trans <| (j_istore_n (l2 := [(2, 83), (0, z0), (0, x2), (0, x3), (0, x4), (0, z0)]) q_241_72 rfl (Nat.le_of_ble_eq_true rfl)).trans <| (j_goto (t := 84) q_241_73 rfl).trans <| rfl) ((j_aload_n q_241_76 rfl).trans <| (j_get (ji := 38) (v := (2, 104)) q_241_77 (js_Fo qy_241 qf_12_187) js_o83 rfl rfl rfl rfl).trans <| (j_iload_n q_241_80 rfl).trans <| (j_iload q_241_81 rfl).trans <| (j_iastore q_241_83 js_o104).trans <| js_itp fun g0 => rfl))))
theorem b_241_84 {E : js_E} {d : Nat} {σ : js_S} {x1 x2 x3 x4 x5 : Int} : js_J E d 241 84 [(2, 83), (0, x1), (0, x2), (0, x3), (0, x4), (0, x5)] [] σ = (if js_w (σ 83 5) = 308 then js_J E d 241 103 [(2, 83), (0, x1), (0, x5), (0, 0), (0, x4), (0, x5)] [(2, 83)] σ else js_J E d 241 6 [(2, 83), (0, x1), (0, x5), (0, 0), (0, x4), (0, x5)] [] σ) :=
  (j_iload q_241_84 rfl).trans <| (j_istore_n (l2 := [(2, 83), (0, x1), (0, x5), (0, x3), (0, x4), (0, x5)]) q_241_86 rfl (Nat.le_of_ble_eq_true rfl)).trans <| (j_iconst q_241_87).trans <| (j_istore_n (l2 := [(2, 83), (0, x1), (0, x5), (0, 0), (0, x4), (0, x5)]) q_241_88 rfl (Nat.le_of_ble_eq_true rfl)).trans <| (j_aload_n q_241_89 rfl).trans <| (j_get (ji := 5) (v := (0, σ 83 5)) q_241_90 (js_Fo qy_241 qf_12_25) js_o83 rfl rfl rfl rfl).trans <| (j_si q_241_93 rfl).trans <| (j_cmpeqB (t := 102) q_241_96 rfl ww_308).trans (js_ite ((j_aload_n q_241_102 rfl).trans <| rfl) ((j_goto (t := 6) q_241_99 rfl).trans <| rfl))
theorem k_241_103 {E : js_E} {d : Nat} {σ σ2 : js_S} {x1 x2 x3 x4 x5 : Int} (hd : 1 ≤ d) (hz : js_J E (d - 1) 191 0 [(2, 83), (9, 0), (9, 0), (9, 0), (9, 0), (9, 0)] [] σ = js_r0 E σ2) : js_J E d 241 103 [(2, 83), (0, x1), (0, x2), (0, x3), (0, x4), (0, x5)] [(2, 83)] σ = js_J E d 241 106 [(2, 83), (0, x1), (0, x2), (0, x3), (0, x4), (0, x5)] [] σ2 :=
  j_call0 (m := 5) (js_caV q_241_103 (js_Mo qy_241 qm_12_68)) (js_agV (av := []) (st := []) rfl rfl js_o83 rfl) rfl rfl (by rw [ql_191]; exact Nat.le_of_ble_eq_true rfl) (Nat.le_of_ble_eq_true rfl) hd hz
theorem b_241_106 {E : js_E} {d : Nat} {σ : js_S} {x1 x2 x3 x4 x5 : Int} : js_J E d 241 106 [(2, 83), (0, x1), (0, x2), (0, x3), (0, x4), (0, x5)] [] σ = (if js_w (σ 83 5) = 307 then js_J E d 241 121 [(2, 83), (0, x1), (0, x2), (0, x3), (0, x4), (0, x5)] [(0, 1)] σ else js_J E d 241 121 [(2, 83), (0, x1), (0, x2), (0, x3), (0, x4), (0, x5)] [(0, 0)] σ) :=
  (j_aload_n q_241_106 rfl).trans <| (j_get (ji := 5) (v := (0, σ 83 5)) q_241_107 (js_Fo qy_241 qf_12_25) js_o83 rfl rfl rfl rfl).trans <| (j_si q_241_110 rfl).trans <| (j_cmpneB (t := 120) q_241_113 rfl ww_307).trans (js_ite ((j_iconst q_241_116).trans <| (j_goto (t := 121) q_241_117 rfl).trans <| rfl) ((j_iconst q_241_120).trans <| rfl))
theorem b_241_121 {E : js_E} {d : Nat} {σ : js_S} {x1 x2 x3 x4 x5 z0 : Int} : js_J E d 241 121 [(2, 83), (0, x1), (0, x2), (0, x3), (0, x4), (0, x5)] [(0, z0)] σ = (if js_w z0 = 0 then js_J E d 241 137 [(2, 83), (0, x1), (0, x2), (0, z0), (0, x4), (0, x5)] [(0, 1), (0, x5), (2, 106)] σ else js_J E d 241 137 [(2, 83), (0, x1), (0, x2), (0, z0), (0, x4), (0, x5)] [(0, 2), (0, x5), (2, 106)] σ) :=
  (j_istore_n (l2 := [(2, 83), (0, x1), (0, x2), (0, z0), (0, x4), (0, x5)]) q_241_121 rfl (Nat.le_of_ble_eq_true rfl)).trans <| (j_aload_n q_241_122 rfl).trans <| (j_get (ji := 40) (v := (2, 106)) q_241_123 (js_Fo qy_241 qf_12_178) js_o83 rfl rfl rfl rfl).trans <| (j_iload q_241_126 rfl).trans <| (j_iload_n q_241_128 rfl).trans <| (j_ifeq (t := 136) q_241_129 rfl).trans (js_ite ((j_iconst q_241_136).trans <| rfl) ((j_iconst q_241_132).trans <| (j_goto (t := 137) q_241_133 rfl).trans <| rfl))
theorem b_241_137 {E : js_E} {d : Nat} {σ : js_S} {x1 x2 x3 x4 x5 z1 z2 : Int} : js_J E d 241 137 [(2, 83), (0, x1), (0, x2), (0, x3), (0, x4), (0, x5)] [(0, z2), (0, z1), (2, 106)] σ = (if 0 ≤ js_w z1 ∧ js_w z1 < 66000 then (if js_w x3 = 0 then js_J E d 241 149 [(2, 83), (0, x1), (0, x2), (0, x3), (0, x4), (0, x5)] [(2, 83), (0, x5), (2, 104)] (js_up σ 106 (js_w z1) z2) else js_J E d 241 153 [(2, 83), (0, x1), (0, x2), (0, x3), (0, x4), (0, x5)] [] (js_up σ 106 (js_w z1) z2)) else none) :=
  (j_iastore q_241_137 js_o106).trans <| js_itp fun g0 => (j_iload_n q_241_138 rfl).trans <| (j_ifne (t := 153) q_241_139 rfl).trans (js_ite ((j_aload_n q_241_142 rfl).trans <| (j_get (ji := 38) (v := (2, 104)) q_241_143 (js_Fo qy_241 qf_12_187) js_o83 rfl rfl rfl rfl).trans <| (j_iload q_241_146 rfl).trans <| (j_aload_n q_241_148 rfl).trans <| rfl) (rfl))
theorem k_241_149 {E : js_E} {d : Nat} {σ σ2 : js_S} {x1 x2 x3 x4 x5 z1 : Int} {v : Int} (hd : 1 ≤ d) (hz : js_J E (d - 1) 239 0 [(2, 83), (9, 0), (9, 0)] [] σ = js_r E (0, v) σ2) : js_J E d 241 149 [(2, 83), (0, x1), (0, x2), (0, x3), (0, x4), (0, x5)] [(2, 83), (0, z1), (2, 104)] σ = js_J E d 241 152 [(2, 83), (0, x1), (0, x2), (0, x3), (0, x4), (0, x5)] [(0, v), (0, z1), (2, 104)] σ2 :=
  j_call (m := 2) (js_caV q_241_149 (js_Mo qy_241 qm_12_329)) (js_agV (av := []) (st := [(0, z1), (2, 104)]) rfl rfl js_o83 rfl) rfl rfl (by rw [ql_239]; exact Nat.le_of_ble_eq_true rfl) (Nat.le_of_ble_eq_true rfl) hd hz
theorem b_241_152 {E : js_E} {d : Nat} {σ : js_S} {x1 x2 x3 x4 x5 z1 z2 : Int} : js_J E d 241 152 [(2, 83), (0, x1), (0, x2), (0, x3), (0, x4), (0, x5)] [(0, z2), (0, z1), (2, 104)] σ = (if 0 ≤ js_w z1 ∧ js_w z1 < 66000 then js_J E d 241 153 [(2, 83), (0, x1), (0, x2), (0, x3), (0, x4), (0, x5)] [] (js_up σ 104 (js_w z1) z2) else none) :=
  (j_iastore q_241_152 js_o104).trans <| js_itp fun g0 => rfl
theorem b_241_153 {E : js_E} {d : Nat} {σ : js_S} {x1 x2 x3 x4 x5 : Int} : js_J E d 241 153 [(2, 83), (0, x1), (0, x2), (0, x3), (0, x4), (0, x5)] [] σ = js_J E d 241 6 [(2, 83), (0, x1), (0, x2), (0, x3), (0, x4), (0, x5)] [] σ :=
  (j_goto (t := 6) q_241_153 rfl).trans <| rfl
-- 242: VitalTwinModel.loop ()I
theorem b_242_0 {E : js_E} {d : Nat} {σ : js_S} : js_J E d 242 0 [(2, 83), (9, 0), (9, 0), (9, 0), (9, 0)] [] σ = js_J E d 242 1 [(2, 83), (9, 0), (9, 0), (9, 0), (9, 0)] [(2, 83)] σ :=
  (j_aload_n q_242_0 rfl).trans <| rfl
theorem k_242_1 {E : js_E} {d : Nat} {σ σ2 : js_S} (hd : 1 ≤ d) (hz : js_J E (d - 1) 191 0 [(2, 83), (9, 0), (9, 0), (9, 0), (9, 0), (9, 0)] [] σ = js_r0 E σ2) : js_J E d 242 1 [(2, 83), (9, 0), (9, 0), (9, 0), (9, 0)] [(2, 83)] σ = js_J E d 242 4 [(2, 83), (9, 0), (9, 0), (9, 0), (9, 0)] [] σ2 :=
  j_call0 (m := 5) (js_caV q_242_1 (js_Mo qy_242 qm_12_68)) (js_agV (av := []) (st := []) rfl rfl js_o83 rfl) rfl rfl (by rw [ql_191]; exact Nat.le_of_ble_eq_true rfl) (Nat.le_of_ble_eq_true rfl) hd hz
theorem b_242_4 {E : js_E} {d : Nat} {σ : js_S} : js_J E d 242 4 [(2, 83), (9, 0), (9, 0), (9, 0), (9, 0)] [] σ = js_J E d 242 8 [(2, 83), (9, 0), (9, 0), (9, 0), (9, 0)] [(0, (-1)), (0, 7), (2, 83)] σ :=
  (j_aload_n q_242_4 rfl).trans <| (j_bi q_242_5 rfl).trans <| (j_iconst q_242_7).trans <| rfl
theorem k_242_8 {E : js_E} {d : Nat} {σ σ2 : js_S} {z1 z2 : Int} {v : Int} (hd : 1 ≤ d) (hz : js_J E (d - 1) 198 0 [(2, 83), (0, z1), (0, z2), (9, 0), (9, 0)] [] σ = js_r E (0, v) σ2) : js_J E d 242 8 [(2, 83), (9, 0), (9, 0), (9, 0), (9, 0)] [(0, z2), (0, z1), (2, 83)] σ = js_J E d 242 11 [(2, 83), (9, 0), (9, 0), (9, 0), (9, 0)] [(0, v)] σ2 :=
  j_call (m := 2) (js_caV q_242_8 (js_Mo qy_242 qm_12_314)) (js_agV (av := [(0, z1), (0, z2)]) (st := []) rfl rfl js_o83 rfl) rfl rfl (by rw [ql_198]; exact Nat.le_of_ble_eq_true rfl) (Nat.le_of_ble_eq_true rfl) hd hz
theorem b_242_11 {E : js_E} {d : Nat} {σ : js_S} {z0 : Int} : js_J E d 242 11 [(2, 83), (9, 0), (9, 0), (9, 0), (9, 0)] [(0, z0)] σ = js_J E d 242 15 [(2, 83), (0, z0), (9, 0), (9, 0), (9, 0)] [(0, 61), (2, 83)] σ :=
  (j_istore_n (l2 := [(2, 83), (0, z0), (9, 0), (9, 0), (9, 0)]) q_242_11 rfl (Nat.le_of_ble_eq_true rfl)).trans <| (j_aload_n q_242_12 rfl).trans <| (j_bi q_242_13 rfl).trans <| rfl
theorem k_242_15 {E : js_E} {d : Nat} {σ σ2 : js_S} {x1 z1 : Int} (hd : 1 ≤ d) (hz : js_J E (d - 1) 202 0 [(2, 83), (0, z1)] [] σ = js_r0 E σ2) : js_J E d 242 15 [(2, 83), (0, x1), (9, 0), (9, 0), (9, 0)] [(0, z1), (2, 83)] σ = js_J E d 242 18 [(2, 83), (0, x1), (9, 0), (9, 0), (9, 0)] [] σ2 :=
  j_call0 (m := 0) (js_caV q_242_15 (js_Mo qy_242 qm_12_75)) (js_agV (av := [(0, z1)]) (st := []) rfl rfl js_o83 rfl) rfl rfl (by rw [ql_202]; exact Nat.le_of_ble_eq_true rfl) (Nat.le_of_ble_eq_true rfl) hd hz
theorem b_242_18 {E : js_E} {d : Nat} {σ : js_S} {x1 : Int} : js_J E d 242 18 [(2, 83), (0, x1), (9, 0), (9, 0), (9, 0)] [] σ = js_J E d 242 20 [(2, 83), (0, x1), (9, 0), (9, 0), (9, 0)] [(0, 0), (2, 83)] σ :=
  (j_aload_n q_242_18 rfl).trans <| (j_iconst q_242_19).trans <| rfl
theorem k_242_20 {E : js_E} {d : Nat} {σ σ2 : js_S} {x1 z1 : Int} (hd : 1 ≤ d) (hz : js_J E (d - 1) 209 0 [(2, 83), (0, z1)] [] σ = js_r0 E σ2) : js_J E d 242 20 [(2, 83), (0, x1), (9, 0), (9, 0), (9, 0)] [(0, z1), (2, 83)] σ = js_J E d 242 23 [(2, 83), (0, x1), (9, 0), (9, 0), (9, 0)] [] σ2 :=
  j_call0 (m := 0) (js_caV q_242_20 (js_Mo qy_242 qm_12_156)) (js_agV (av := [(0, z1)]) (st := []) rfl rfl js_o83 rfl) rfl rfl (by rw [ql_209]; exact Nat.le_of_ble_eq_true rfl) (Nat.le_of_ble_eq_true rfl) hd hz
theorem b_242_23 {E : js_E} {d : Nat} {σ : js_S} {x1 : Int} : js_J E d 242 23 [(2, 83), (0, x1), (9, 0), (9, 0), (9, 0)] [] σ = js_J E d 242 29 [(2, 83), (0, x1), (0, σ 83 28), (9, 0), (9, 0)] [(2, 83)] σ :=
  (j_aload_n q_242_23 rfl).trans <| (j_get (ji := 28) (v := (0, σ 83 28)) q_242_24 (js_Fo qy_242 qf_12_141) js_o83 rfl rfl rfl rfl).trans <| (j_istore_n (l2 := [(2, 83), (0, x1), (0, σ 83 28), (9, 0), (9, 0)]) q_242_27 rfl (Nat.le_of_ble_eq_true rfl)).trans <| (j_aload_n q_242_28 rfl).trans <| rfl
theorem k_242_29 {E : js_E} {d : Nat} {σ σ2 : js_S} {x1 x2 : Int} (hd : 1 ≤ d) (hz : js_J E (d - 1) 191 0 [(2, 83), (9, 0), (9, 0), (9, 0), (9, 0), (9, 0)] [] σ = js_r0 E σ2) : js_J E d 242 29 [(2, 83), (0, x1), (0, x2), (9, 0), (9, 0)] [(2, 83)] σ = js_J E d 242 32 [(2, 83), (0, x1), (0, x2), (9, 0), (9, 0)] [] σ2 :=
  j_call0 (m := 5) (js_caV q_242_29 (js_Mo qy_242 qm_12_68)) (js_agV (av := []) (st := []) rfl rfl js_o83 rfl) rfl rfl (by rw [ql_191]; exact Nat.le_of_ble_eq_true rfl) (Nat.le_of_ble_eq_true rfl) hd hz
theorem b_242_32 {E : js_E} {d : Nat} {σ : js_S} {x1 x2 : Int} : js_J E d 242 32 [(2, 83), (0, x1), (0, x2), (9, 0), (9, 0)] [] σ = js_J E d 242 36 [(2, 83), (0, x1), (0, x2), (9, 0), (9, 0)] [(0, 311), (2, 83)] σ :=
  (j_aload_n q_242_32 rfl).trans <| (j_si q_242_33 rfl).trans <| rfl
theorem k_242_36 {E : js_E} {d : Nat} {σ σ2 : js_S} {x1 x2 z1 : Int} (hd : 1 ≤ d) (hz : js_J E (d - 1) 202 0 [(2, 83), (0, z1)] [] σ = js_r0 E σ2) : js_J E d 242 36 [(2, 83), (0, x1), (0, x2), (9, 0), (9, 0)] [(0, z1), (2, 83)] σ = js_J E d 242 39 [(2, 83), (0, x1), (0, x2), (9, 0), (9, 0)] [] σ2 :=
  j_call0 (m := 0) (js_caV q_242_36 (js_Mo qy_242 qm_12_75)) (js_agV (av := [(0, z1)]) (st := []) rfl rfl js_o83 rfl) rfl rfl (by rw [ql_202]; exact Nat.le_of_ble_eq_true rfl) (Nat.le_of_ble_eq_true rfl) hd hz
theorem b_242_39 {E : js_E} {d : Nat} {σ : js_S} {x1 x2 : Int} : js_J E d 242 39 [(2, 83), (0, x1), (0, x2), (9, 0), (9, 0)] [] σ = js_J E d 242 41 [(2, 83), (0, x1), (0, x2), (9, 0), (9, 0)] [(0, 0), (2, 83)] σ :=
  (j_aload_n q_242_39 rfl).trans <| (j_iconst q_242_40).trans <| rfl
theorem k_242_41 {E : js_E} {d : Nat} {σ σ2 : js_S} {x1 x2 z1 : Int} (hd : 1 ≤ d) (hz : js_J E (d - 1) 209 0 [(2, 83), (0, z1)] [] σ = js_r0 E σ2) : js_J E d 242 41 [(2, 83), (0, x1), (0, x2), (9, 0), (9, 0)] [(0, z1), (2, 83)] σ = js_J E d 242 44 [(2, 83), (0, x1), (0, x2), (9, 0), (9, 0)] [] σ2 :=
  j_call0 (m := 0) (js_caV q_242_41 (js_Mo qy_242 qm_12_156)) (js_agV (av := [(0, z1)]) (st := []) rfl rfl js_o83 rfl) rfl rfl (by rw [ql_209]; exact Nat.le_of_ble_eq_true rfl) (Nat.le_of_ble_eq_true rfl) hd hz
theorem b_242_44 {E : js_E} {d : Nat} {σ : js_S} {x1 x2 : Int} : js_J E d 242 44 [(2, 83), (0, x1), (0, x2), (9, 0), (9, 0)] [] σ = (if js_w (σ 83 9) = 0 then (if js_w (σ 83 28) < js_w x2 then js_J E d 242 67 [(2, 83), (0, x1), (0, x2), (0, σ 83 28), (9, 0)] [(0, σ 83 29), (0, 4), (2, 83)] σ else js_J E d 242 70 [(2, 83), (0, x1), (0, x2), (0, σ 83 28), (9, 0)] [] σ) else js_J E d 242 70 [(2, 83), (0, x1), (0, x2), (0, σ 83 28), (9, 0)] [] σ) :=
  (j_aload_n q_242_44 rfl).trans <| (j_get (ji := 28) (v := (0, σ 83 28)) q_242_45 (js_Fo qy_242 qf_12_141) js_o83 rfl rfl rfl rfl).trans <| (j_istore_n (l2 := [(2, 83), (0, x1), (0, x2), (0, σ 83 28), (9, 0)]) q_242_48 rfl (Nat.le_of_ble_eq_true rfl)).trans <| (j_aload_n q_242_49 rfl).trans <| (j_get (ji := 9) (v := (0, σ 83 9)) q_242_50 (js_Fo qy_242 qf_12_22) js_o83 rfl rfl rfl rfl).trans <| (j_ifne (t := 70) q_242_53 rfl).trans (js_ite ((j_iload_n q_242_56 rfl).trans <| (j_iload_n q_242_57 rfl).trans <| (j_cmpge (t := 70) q_242_58 rfl).trans (js_ite ((j_aload_n q_242_61 rfl).trans <| (j_iconst q_242_62).trans <| (j_aload_n q_242_63 rfl).trans <| (j_get (ji := 29) (v := (0, σ 83 29)) q_242_64 (js_Fo qy_242 qf_12_135) js_o83 rfl rfl rfl rfl).trans <| rfl) (rfl))) (rfl))
theorem k_242_67 {E : js_E} {d : Nat} {σ σ2 : js_S} {x1 x2 x3 z1 z2 : Int} (hd : 1 ≤ d) (hz : js_J E (d - 1) 199 0 [(2, 83), (0, z1), (0, z2)] [] σ = js_r0 E σ2) : js_J E d 242 67 [(2, 83), (0, x1), (0, x2), (0, x3), (9, 0)] [(0, z2), (0, z1), (2, 83)] σ = js_J E d 242 70 [(2, 83), (0, x1), (0, x2), (0, x3), (9, 0)] [] σ2 :=
  j_call0 (m := 0) (js_caV q_242_67 (js_Mo qy_242 qm_12_65)) (js_agV (av := [(0, z1), (0, z2)]) (st := []) rfl rfl js_o83 rfl) rfl rfl (by rw [ql_199]; exact Nat.le_of_ble_eq_true rfl) (Nat.le_of_ble_eq_true rfl) hd hz
theorem b_242_70 {E : js_E} {d : Nat} {σ : js_S} {x1 x2 x3 : Int} : js_J E d 242 70 [(2, 83), (0, x1), (0, x2), (0, x3), (9, 0)] [] σ = js_J E d 242 71 [(2, 83), (0, x1), (0, x2), (0, x3), (9, 0)] [(2, 83)] σ :=
  (j_aload_n q_242_70 rfl).trans <| rfl
theorem k_242_71 {E : js_E} {d : Nat} {σ σ2 : js_S} {x1 x2 x3 : Int} (hd : 1 ≤ d) (hz : js_J E (d - 1) 191 0 [(2, 83), (9, 0), (9, 0), (9, 0), (9, 0), (9, 0)] [] σ = js_r0 E σ2) : js_J E d 242 71 [(2, 83), (0, x1), (0, x2), (0, x3), (9, 0)] [(2, 83)] σ = js_J E d 242 74 [(2, 83), (0, x1), (0, x2), (0, x3), (9, 0)] [] σ2 :=
  j_call0 (m := 5) (js_caV q_242_71 (js_Mo qy_242 qm_12_68)) (js_agV (av := []) (st := []) rfl rfl js_o83 rfl) rfl rfl (by rw [ql_191]; exact Nat.le_of_ble_eq_true rfl) (Nat.le_of_ble_eq_true rfl) hd hz
theorem b_242_74 {E : js_E} {d : Nat} {σ : js_S} {x1 x2 x3 : Int} : js_J E d 242 74 [(2, 83), (0, x1), (0, x2), (0, x3), (9, 0)] [] σ = (if 0 < js_w (σ 83 9) then js_r E (0, (-1)) σ else (if 0 ≤ js_w x1 ∧ js_w x1 < 400 then js_J E d 242 100 [(2, 83), (0, x1), (0, x2), (0, x3), (9, 0)] [(0, 123), (2, 83)] (js_up (js_up σ 88 (js_w x1) x2) 89 (js_w x1) x3) else none)) :=
  (j_aload_n q_242_74 rfl).trans <| (j_get (ji := 9) (v := (0, σ 83 9)) q_242_75 (js_Fo qy_242 qf_12_22) js_o83 rfl rfl rfl rfl).trans <| (j_ifle (t := 83) q_242_78 rfl).trans (js_ite ((j_iconst q_242_81).trans <| j_ireturn q_242_82 qr_242) ((j_aload_n q_242_83 rfl).trans <| (j_get (ji := 14) (v := (2, 88)) q_242_84 (js_Fo qy_242 qf_12_105) js_o83 rfl rfl rfl rfl).trans <| (j_iload_n q_242_87 rfl).trans <| (j_iload_n q_242_88 rfl).trans <| (j_iastore q_242_89 js_o88).trans <| js_itp fun g0 => (j_aload_n q_242_90 rfl).trans <| (j_get (ji := 15) (v := (2, 89)) q_242_91 (js_Fo qy_242 qf_12_108) js_o83 rfl rfl rfl rfl).trans <| (j_iload_n q_242_94 rfl).trans <| (j_iload_n q_242_95 rfl).trans <| (j_iastore q_242_96 js_o89).trans <| (if_pos g0).trans <| (j_aload_n q_242_97 rfl).trans <| (j_bi q_242_98 rfl).trans <| rfl))
theorem k_242_100 {E : js_E} {d : Nat} {σ σ2 : js_S} {x1 x2 x3 z1 : Int} (hd : 1 ≤ d) (hz : js_J E (d - 1) 207 0 [(2, 83), (0, z1)] [] σ = js_r0 E σ2) : js_J E d 242 100 [(2, 83), (0, x1), (0, x2), (0, x3), (9, 0)] [(0, z1), (2, 83)] σ = js_J E d 242 103 [(2, 83), (0, x1), (0, x2), (0, x3), (9, 0)] [] σ2 :=
  j_call0 (m := 0) (js_caV q_242_100 (js_Mo qy_242 qm_12_159)) (js_agV (av := [(0, z1)]) (st := []) rfl rfl js_o83 rfl) rfl rfl (by rw [ql_207]; exact Nat.le_of_ble_eq_true rfl) (Nat.le_of_ble_eq_true rfl) hd hz
theorem b_242_103 {E : js_E} {d : Nat} {σ : js_S} {x1 x2 x3 : Int} : js_J E d 242 103 [(2, 83), (0, x1), (0, x2), (0, x3), (9, 0)] [] σ = (if 0 ≤ js_w x1 ∧ js_w x1 < 400 then js_J E d 242 111 [(2, 83), (0, x1), (0, x2), (0, x3), (9, 0)] [(2, 83)] (js_up σ 99 (js_w x1) (js_iand 1 1)) else none) :=
  (j_aload_n q_242_103 rfl).trans <| (j_get (ji := 25) (v := (2, 99)) q_242_104 (js_Fo qy_242 qf_12_89) js_o83 rfl rfl rfl rfl).trans <| (j_iload_n q_242_107 rfl).trans <| (j_iconst q_242_108).trans <| (j_zastore q_242_109 js_o99).trans <| js_itp fun g0 => (j_aload_n q_242_110 rfl).trans <| rfl
theorem k_242_111 {E : js_E} {d : Nat} {σ σ2 : js_S} {x1 x2 x3 : Int} {v : Int} (hd : 1 ≤ d) (hz : js_J E (d - 1) 212 0 [(2, 83), (9, 0), (9, 0), (9, 0)] [] σ = js_r E (0, v) σ2) : js_J E d 242 111 [(2, 83), (0, x1), (0, x2), (0, x3), (9, 0)] [(2, 83)] σ = js_J E d 242 114 [(2, 83), (0, x1), (0, x2), (0, x3), (9, 0)] [(0, v)] σ2 :=
  j_call (m := 3) (js_caV q_242_111 (js_Mo qy_242 qm_12_290)) (js_agV (av := []) (st := []) rfl rfl js_o83 rfl) rfl rfl (by rw [ql_212]; exact Nat.le_of_ble_eq_true rfl) (Nat.le_of_ble_eq_true rfl) hd hz
theorem b_242_114 {E : js_E} {d : Nat} {σ : js_S} {x1 x2 x3 z0 : Int} : js_J E d 242 114 [(2, 83), (0, x1), (0, x2), (0, x3), (9, 0)] [(0, z0)] σ = js_J E d 242 119 [(2, 83), (0, x1), (0, x2), (0, x3), (0, z0)] [(0, 125), (2, 83)] σ :=
  (j_istore (l2 := [(2, 83), (0, x1), (0, x2), (0, x3), (0, z0)]) q_242_114 rfl (Nat.le_of_ble_eq_true rfl)).trans <| (j_aload_n q_242_116 rfl).trans <| (j_bi q_242_117 rfl).trans <| rfl
theorem k_242_119 {E : js_E} {d : Nat} {σ σ2 : js_S} {x1 x2 x3 x4 z1 : Int} (hd : 1 ≤ d) (hz : js_J E (d - 1) 211 0 [(2, 83), (0, z1)] [] σ = js_r0 E σ2) : js_J E d 242 119 [(2, 83), (0, x1), (0, x2), (0, x3), (0, x4)] [(0, z1), (2, 83)] σ = js_J E d 242 122 [(2, 83), (0, x1), (0, x2), (0, x3), (0, x4)] [] σ2 :=
  j_call0 (m := 0) (js_caV q_242_119 (js_Mo qy_242 qm_12_162)) (js_agV (av := [(0, z1)]) (st := []) rfl rfl js_o83 rfl) rfl rfl (by rw [ql_211]; exact Nat.le_of_ble_eq_true rfl) (Nat.le_of_ble_eq_true rfl) hd hz
theorem b_242_122 {E : js_E} {d : Nat} {σ : js_S} {x1 x2 x3 x4 : Int} : js_J E d 242 122 [(2, 83), (0, x1), (0, x2), (0, x3), (0, x4)] [] σ = js_J E d 242 124 [(2, 83), (0, x1), (0, x2), (0, x3), (0, x4)] [(0, x1), (2, 83)] σ :=
  (j_aload_n q_242_122 rfl).trans <| (j_iload_n q_242_123 rfl).trans <| rfl
theorem k_242_124 {E : js_E} {d : Nat} {σ σ2 : js_S} {x1 x2 x3 x4 z1 : Int} (hd : 1 ≤ d) (hz : js_J E (d - 1) 240 0 [(2, 83), (0, z1), (9, 0)] [] σ = js_r0 E σ2) : js_J E d 242 124 [(2, 83), (0, x1), (0, x2), (0, x3), (0, x4)] [(0, z1), (2, 83)] σ = js_J E d 242 127 [(2, 83), (0, x1), (0, x2), (0, x3), (0, x4)] [] σ2 :=
  j_call0 (m := 1) (js_caV q_242_124 (js_Mo qy_242 qm_12_293)) (js_agV (av := [(0, z1)]) (st := []) rfl rfl js_o83 rfl) rfl rfl (by rw [ql_240]; exact Nat.le_of_ble_eq_true rfl) (Nat.le_of_ble_eq_true rfl) hd hz
theorem b_242_127 {E : js_E} {d : Nat} {σ : js_S} {x1 x2 x3 x4 : Int} : js_J E d 242 127 [(2, 83), (0, x1), (0, x2), (0, x3), (0, x4)] [] σ = js_J E d 242 137 [(2, 83), (0, x1), (0, x2), (0, x3), (0, x4)] [(0, 0), (0, x4), (0, x1), (1, 0), (1, 0), (0, 0), (0, 27), (2, 83)] σ :=
  (j_aload_n q_242_127 rfl).trans <| (j_bi q_242_128 rfl).trans <| (j_iconst q_242_130).trans <| (j_lconst0 q_242_131).trans <| (j_lconst0 q_242_132).trans <| (j_iload_n q_242_133 rfl).trans <| (j_iload q_242_134 rfl).trans <| (j_iconst q_242_136).trans <| rfl
theorem k_242_137 {E : js_E} {d : Nat} {σ σ2 : js_S} {x1 x2 x3 x4 z1 z2 z3 z4 z5 z6 z7 : Int} {v : Int} (hd : 1 ≤ d) (hz : js_J E (d - 1) 217 0 [(2, 83), (0, z1), (0, z2), (1, z3), (9, 0), (1, z4), (9, 0), (0, z5), (0, z6), (0, z7), (9, 0)] [] σ = js_r E (0, v) σ2) : js_J E d 242 137 [(2, 83), (0, x1), (0, x2), (0, x3), (0, x4)] [(0, z7), (0, z6), (0, z5), (1, z4), (1, z3), (0, z2), (0, z1), (2, 83)] σ = js_J E d 242 140 [(2, 83), (0, x1), (0, x2), (0, x3), (0, x4)] [(0, v)] σ2 :=
  j_call (m := 1) (js_caV q_242_137 (js_Mo qy_242 qm_12_208)) (js_agV (av := [(0, z1), (0, z2), (1, z3), (1, z4), (0, z5), (0, z6), (0, z7)]) (st := []) rfl rfl js_o83 rfl) rfl rfl (by rw [ql_217]; exact Nat.le_of_ble_eq_true rfl) (Nat.le_of_ble_eq_true rfl) hd hz
theorem b_242_140 {E : js_E} {d : Nat} {σ : js_S} {x1 x2 x3 x4 z0 : Int} : js_J E d 242 140 [(2, 83), (0, x1), (0, x2), (0, x3), (0, x4)] [(0, z0)] σ = js_r E (0, z0) σ :=
  j_ireturn q_242_140 qr_242
-- 243: VitalTwinModel.plain ()I
theorem b_243_0 {E : js_E} {d : Nat} {σ : js_S} : js_J E d 243 0 [(2, 83), (9, 0), (9, 0), (9, 0), (9, 0), (9, 0), (9, 0)] [] σ = js_J E d 243 1 [(2, 83), (9, 0), (9, 0), (9, 0), (9, 0), (9, 0), (9, 0)] [(2, 83)] σ :=
  (j_aload_n q_243_0 rfl).trans <| rfl
theorem k_243_1 {E : js_E} {d : Nat} {σ σ2 : js_S} {v : Int} (hd : 1 ≤ d) (hz : js_J E (d - 1) 200 0 [(2, 83), (9, 0)] [] σ = js_r E (0, v) σ2) : js_J E d 243 1 [(2, 83), (9, 0), (9, 0), (9, 0), (9, 0), (9, 0), (9, 0)] [(2, 83)] σ = js_J E d 243 4 [(2, 83), (9, 0), (9, 0), (9, 0), (9, 0), (9, 0), (9, 0)] [(0, v)] σ2 :=
  j_call (m := 1) (js_caV q_243_1 (js_Mo qy_243 qm_12_96)) (js_agV (av := []) (st := []) rfl rfl js_o83 rfl) rfl rfl (by rw [ql_200]; exact Nat.le_of_ble_eq_true rfl) (Nat.le_of_ble_eq_true rfl) hd hz
theorem b_243_4 {E : js_E} {d : Nat} {σ : js_S} {z0 : Int} : js_J E d 243 4 [(2, 83), (9, 0), (9, 0), (9, 0), (9, 0), (9, 0), (9, 0)] [(0, z0)] σ = js_J E d 243 6 [(2, 83), (0, z0), (9, 0), (9, 0), (9, 0), (9, 0), (9, 0)] [(2, 83)] σ :=
  (j_istore_n (l2 := [(2, 83), (0, z0), (9, 0), (9, 0), (9, 0), (9, 0), (9, 0)]) q_243_4 rfl (Nat.le_of_ble_eq_true rfl)).trans <| (j_aload_n q_243_5 rfl).trans <| rfl
theorem k_243_6 {E : js_E} {d : Nat} {σ σ2 : js_S} {x1 : Int} {v : Int} (hd : 1 ≤ d) (hz : js_J E (d - 1) 231 0 [(2, 83), (9, 0), (9, 0)] [] σ = js_r E (0, v) σ2) : js_J E d 243 6 [(2, 83), (0, x1), (9, 0), (9, 0), (9, 0), (9, 0), (9, 0)] [(2, 83)] σ = js_J E d 243 9 [(2, 83), (0, x1), (9, 0), (9, 0), (9, 0), (9, 0), (9, 0)] [(0, v)] σ2 :=
  j_call (m := 2) (js_caV q_243_6 (js_Mo qy_243 qm_12_271)) (js_agV (av := []) (st := []) rfl rfl js_o83 rfl) rfl rfl (by rw [ql_231]; exact Nat.le_of_ble_eq_true rfl) (Nat.le_of_ble_eq_true rfl) hd hz
theorem b_243_9 {E : js_E} {d : Nat} {σ : js_S} {x1 z0 : Int} : js_J E d 243 9 [(2, 83), (0, x1), (9, 0), (9, 0), (9, 0), (9, 0), (9, 0)] [(0, z0)] σ = (if js_w x1 < 0 then js_J E d 243 59 [(2, 83), (0, x1), (0, z0), (9, 0), (9, 0), (9, 0), (9, 0)] [] σ else (if 0 ≤ js_w x1 ∧ js_w x1 < 400 then (if js_w (σ 86 (js_w x1)) = 2 then js_J E d 243 55 [(2, 83), (0, x1), (0, z0), (9, 0), (9, 0), (9, 0), (9, 0)] [] σ else (if js_w (σ 86 (js_w x1)) = 3 then js_J E d 243 55 [(2, 83), (0, x1), (0, z0), (9, 0), (9, 0), (9, 0), (9, 0)] [] σ else (if js_w (σ 86 (js_w x1)) = 5 then js_J E d 243 55 [(2, 83), (0, x1), (0, z0), (9, 0), (9, 0), (9, 0), (9, 0)] [] σ else (if js_w (σ 86 (js_w x1)) = 6 then js_J E d 243 55 [(2, 83), (0, x1), (0, z0), (9, 0), (9, 0), (9, 0), (9, 0)] [] σ else js_J E d 243 59 [(2, 83), (0, x1), (0, z0), (9, 0), (9, 0), (9, 0), (9, 0)] [] σ)))) else none)) :=
  (j_istore_n (l2 := [(2, 83), (0, x1), (0, z0), (9, 0), (9, 0), (9, 0), (9, 0)]) q_243_9 rfl (Nat.le_of_ble_eq_true rfl)).trans <| (j_iload_n q_243_10 rfl).trans <| (j_iflt (t := 59) q_243_11 rfl).trans (js_ite (rfl) ((j_aload_n q_243_14 rfl).trans <| (j_get (ji := 12) (v := (2, 86)) q_243_15 (js_Fo qy_243 qf_12_99) js_o83 rfl rfl rfl rfl).trans <| (j_iload_n q_243_18 rfl).trans <| (j_iaload q_243_19 js_o86).trans <| js_itp fun g0 => (j_iconst q_243_20).trans <| (j_cmpeqB (t := 55) q_243_21 rfl ww_2).trans (js_ite (rfl) ((j_aload_n q_243_24 rfl).trans <| (j_get (ji := 12) (v := (2, 86)) q_243_25 (js_Fo qy_243 qf_12_99) js_o83 rfl rfl rfl rfl).trans <| (j_iload_n q_243_28 rfl).trans <| (j_iaload q_243_29 js_o86).trans <| (if_pos g0).trans <| (j_iconst q_243_30).trans <| (j_cmpeqB (t := 55) q_243_31 rfl ww_3).trans (js_ite (rfl) ((j_aload_n q_243_34 rfl).trans <| (j_get (ji := 12) (v := (2, 86)) q_243_35 (js_Fo qy_243 qf_12_99) js_o83 rfl rfl rfl rfl).trans <| (j_iload_n q_243_38 rfl).trans <| (j_iaload q_243_39 js_o86).trans <| (if_pos g0).trans <| (j_iconst q_243_40).trans <| (j_cmpeqB (t := 55) q_243_41 rfl ww_5).trans (js_ite (rfl) ((j_aload_n q_243_44 rfl).trans <| (j_get (ji := 12) (v := (2, 86)) q_243_45 (js_Fo qy_243 qf_12_99) js_o83 rfl rfl rfl rfl).trans <| (j_iload_n q_243_48 rfl).trans <| (j_iaload q_243_49 js_o86).trans <| (if_pos g0).trans <| (j_bi q_243_50 rfl).trans <| (j_cmpneB (t := 59) q_243_52 rfl ww_6).trans (js_ite (rfl) (rfl))))))))))
theorem b_243_55 {E : js_E} {d : Nat} {σ : js_S} {x1 x2 : Int} : js_J E d 243 55 [(2, 83), (0, x1), (0, x2), (9, 0), (9, 0), (9, 0), (9, 0)] [] σ = js_J E d 243 60 [(2, 83), (0, x1), (0, x2), (9, 0), (9, 0), (9, 0), (9, 0)] [(0, 1)] σ :=
  (j_iconst q_243_55).trans <| (j_goto (t := 60) q_243_56 rfl).trans <| rfl
theorem b_243_59 {E : js_E} {d : Nat} {σ : js_S} {x1 x2 : Int} : js_J E d 243 59 [(2, 83), (0, x1), (0, x2), (9, 0), (9, 0), (9, 0), (9, 0)] [] σ = js_J E d 243 60 [(2, 83), (0, x1), (0, x2), (9, 0), (9, 0), (9, 0), (9, 0)] [(0, 0)] σ :=
  (j_iconst q_243_59).trans <| rfl
theorem b_243_60 {E : js_E} {d : Nat} {σ : js_S} {x1 x2 z0 : Int} : js_J E d 243 60 [(2, 83), (0, x1), (0, x2), (9, 0), (9, 0), (9, 0), (9, 0)] [(0, z0)] σ = (if js_w x1 < 0 then js_J E d 243 118 [(2, 83), (0, x1), (0, x2), (0, z0), (9, 0), (9, 0), (9, 0)] [] σ else (if 0 ≤ js_w x1 ∧ js_w x1 < 400 then (if js_w (σ 86 (js_w x1)) = 4 then (if js_w x2 = 40 then js_J E d 243 114 [(2, 83), (0, x1), (0, x2), (0, z0), (9, 0), (9, 0), (9, 0)] [] σ else js_J E d 243 118 [(2, 83), (0, x1), (0, x2), (0, z0), (9, 0), (9, 0), (9, 0)] [] σ) else (if js_w z0 = 0 then js_J E d 243 118 [(2, 83), (0, x1), (0, x2), (0, z0), (9, 0), (9, 0), (9, 0)] [] σ else (if js_w x2 = 91 then js_J E d 243 105 [(2, 83), (0, x1), (0, x2), (0, z0), (9, 0), (9, 0), (9, 0)] [(0, 1), (0, σ 92 (js_w x1))] σ else js_J E d 243 105 [(2, 83), (0, x1), (0, x2), (0, z0), (9, 0), (9, 0), (9, 0)] [(0, 0), (0, σ 92 (js_w x1))] σ))) else none)) :=
  (j_istore_n (l2 := [(2, 83), (0, x1), (0, x2), (0, z0), (9, 0), (9, 0), (9, 0)]) q_243_60 rfl (Nat.le_of_ble_eq_true rfl)).trans <| (j_iload_n q_243_61 rfl).trans <| (j_iflt (t := 118) q_243_62 rfl).trans (js_ite (rfl) ((j_aload_n q_243_65 rfl).trans <| (j_get (ji := 12) (v := (2, 86)) q_243_66 (js_Fo qy_243 qf_12_99) js_o83 rfl rfl rfl rfl).trans <| (j_iload_n q_243_69 rfl).trans <| (j_iaload q_243_70 js_o86).trans <| js_itp fun g0 => (j_iconst q_243_71).trans <| (j_cmpneB (t := 84) q_243_72 rfl ww_4).trans (js_ite ((j_iload_n q_243_75 rfl).trans <| (j_bi q_243_76 rfl).trans <| (j_cmpneB (t := 118) q_243_78 rfl ww_40).trans (js_ite ((j_goto (t := 114) q_243_81 rfl).trans <| rfl) (rfl))) ((j_iload_n q_243_84 rfl).trans <| (j_ifeq (t := 118) q_243_85 rfl).trans (js_ite (rfl) ((j_aload_n q_243_88 rfl).trans <| (j_get (ji := 18) (v := (2, 92)) q_243_89 (js_Fo qy_243 qf_12_117) js_o83 rfl rfl rfl rfl).trans <| (j_iload_n q_243_92 rfl).trans <| (j_zaload q_243_93 js_o92).trans <| (if_pos g0).trans <| (j_iload_n q_243_94 rfl).trans <| (j_bi q_243_95 rfl).trans <| (j_cmpneB (t := 104) q_243_97 rfl ww_91).trans (js_ite ((j_iconst q_243_100).trans <| (j_goto (t := 105) q_243_101 rfl).trans <| rfl) ((j_iconst q_243_104).trans <| rfl))))))))
theorem b_243_105 {E : js_E} {d : Nat} {σ : js_S} {x1 x2 x3 z0 z1 : Int} : js_J E d 243 105 [(2, 83), (0, x1), (0, x2), (0, x3), (9, 0), (9, 0), (9, 0)] [(0, z1), (0, z0)] σ = (if js_w z0 = js_w z1 then (if js_w x2 = 40 then js_J E d 243 118 [(2, 83), (0, x1), (0, x2), (0, x3), (9, 0), (9, 0), (9, 0)] [] σ else js_J E d 243 114 [(2, 83), (0, x1), (0, x2), (0, x3), (9, 0), (9, 0), (9, 0)] [] σ) else js_J E d 243 118 [(2, 83), (0, x1), (0, x2), (0, x3), (9, 0), (9, 0), (9, 0)] [] σ) :=
  (j_cmpne (t := 118) q_243_105 rfl).trans (js_ite ((j_iload_n q_243_108 rfl).trans <| (j_bi q_243_109 rfl).trans <| (j_cmpeqB (t := 118) q_243_111 rfl ww_40).trans (js_ite (rfl) (rfl))) (rfl))
theorem b_243_114 {E : js_E} {d : Nat} {σ : js_S} {x1 x2 x3 : Int} : js_J E d 243 114 [(2, 83), (0, x1), (0, x2), (0, x3), (9, 0), (9, 0), (9, 0)] [] σ = js_J E d 243 119 [(2, 83), (0, x1), (0, x2), (0, x3), (9, 0), (9, 0), (9, 0)] [(0, 1)] σ :=
  (j_iconst q_243_114).trans <| (j_goto (t := 119) q_243_115 rfl).trans <| rfl
theorem b_243_118 {E : js_E} {d : Nat} {σ : js_S} {x1 x2 x3 : Int} : js_J E d 243 118 [(2, 83), (0, x1), (0, x2), (0, x3), (9, 0), (9, 0), (9, 0)] [] σ = js_J E d 243 119 [(2, 83), (0, x1), (0, x2), (0, x3), (9, 0), (9, 0), (9, 0)] [(0, 0)] σ :=
  (j_iconst q_243_118).trans <| rfl
theorem b_243_119 {E : js_E} {d : Nat} {σ : js_S} {x1 x2 x3 z0 : Int} : js_J E d 243 119 [(2, 83), (0, x1), (0, x2), (0, x3), (9, 0), (9, 0), (9, 0)] [(0, z0)] σ = (if js_w z0 = 0 then js_J E d 243 132 [(2, 83), (0, x1), (0, x2), (0, x3), (0, z0), (9, 0), (9, 0)] [(0, σ 83 6), (0, 3), (2, 83)] σ else (if 0 ≤ js_w x1 ∧ js_w x1 < 400 then (if js_w (σ 86 (js_w x1)) = 4 then js_J E d 243 149 [(2, 83), (0, x1), (0, x2), (0, x3), (0, z0), (9, 0), (9, 0)] [(0, x1), (2, 83)] σ else js_J E d 243 175 [(2, 83), (0, x1), (0, x2), (0, x3), (0, z0), (9, 0), (9, 0)] [(2, 83)] σ) else none)) :=
  (j_istore (l2 := [(2, 83), (0, x1), (0, x2), (0, x3), (0, z0), (9, 0), (9, 0)]) q_243_119 rfl (Nat.le_of_ble_eq_true rfl)).trans <| (j_iload q_243_121 rfl).trans <| (j_ifne (t := 137) q_243_123 rfl).trans (js_ite ((j_aload_n q_243_126 rfl).trans <| (j_iconst q_243_127).trans <| (j_aload_n q_243_128 rfl).trans <| (j_get (ji := 6) (v := (0, σ 83 6)) q_243_129 (js_Fo qy_243 qf_12_35) js_o83 rfl rfl rfl rfl).trans <| rfl) ((j_aload_n q_243_137 rfl).trans <| (j_get (ji := 12) (v := (2, 86)) q_243_138 (js_Fo qy_243 qf_12_99) js_o83 rfl rfl rfl rfl).trans <| (j_iload_n q_243_141 rfl).trans <| (j_iaload q_243_142 js_o86).trans <| js_itp fun g0 => (j_iconst q_243_143).trans <| (j_cmpneB (t := 174) q_243_144 rfl ww_4).trans (js_ite ((j_aload_n q_243_147 rfl).trans <| (j_iload_n q_243_148 rfl).trans <| rfl) ((j_aload_n q_243_174 rfl).trans <| rfl))))
theorem k_243_132 {E : js_E} {d : Nat} {σ σ2 : js_S} {x1 x2 x3 x4 z1 z2 : Int} (hd : 1 ≤ d) (hz : js_J E (d - 1) 199 0 [(2, 83), (0, z1), (0, z2)] [] σ = js_r0 E σ2) : js_J E d 243 132 [(2, 83), (0, x1), (0, x2), (0, x3), (0, x4), (9, 0), (9, 0)] [(0, z2), (0, z1), (2, 83)] σ = js_J E d 243 135 [(2, 83), (0, x1), (0, x2), (0, x3), (0, x4), (9, 0), (9, 0)] [] σ2 :=
  j_call0 (m := 0) (js_caV q_243_132 (js_Mo qy_243 qm_12_65)) (js_agV (av := [(0, z1), (0, z2)]) (st := []) rfl rfl js_o83 rfl) rfl rfl (by rw [ql_199]; exact Nat.le_of_ble_eq_true rfl) (Nat.le_of_ble_eq_true rfl) hd hz
theorem b_243_135 {E : js_E} {d : Nat} {σ : js_S} {x1 x2 x3 x4 : Int} : js_J E d 243 135 [(2, 83), (0, x1), (0, x2), (0, x3), (0, x4), (9, 0), (9, 0)] [] σ = js_r E (0, (-1)) σ :=
  (j_iconst q_243_135).trans <| j_ireturn q_243_136 qr_243
theorem k_243_149 {E : js_E} {d : Nat} {σ σ2 : js_S} {x1 x2 x3 x4 z1 : Int} {v : Int} (hd : 1 ≤ d) (hz : js_J E (d - 1) 232 0 [(2, 83), (0, z1), (9, 0), (9, 0), (9, 0), (9, 0), (9, 0), (9, 0)] [] σ = js_r E (0, v) σ2) : js_J E d 243 149 [(2, 83), (0, x1), (0, x2), (0, x3), (0, x4), (9, 0), (9, 0)] [(0, z1), (2, 83)] σ = js_J E d 243 152 [(2, 83), (0, x1), (0, x2), (0, x3), (0, x4), (9, 0), (9, 0)] [(0, v)] σ2 :=
  j_call (m := 6) (js_caV q_243_149 (js_Mo qy_243 qm_12_274)) (js_agV (av := [(0, z1)]) (st := []) rfl rfl js_o83 rfl) rfl rfl (by rw [ql_232]; exact Nat.le_of_ble_eq_true rfl) (Nat.le_of_ble_eq_true rfl) hd hz
theorem b_243_152 {E : js_E} {d : Nat} {σ : js_S} {x1 x2 x3 x4 z0 : Int} : js_J E d 243 152 [(2, 83), (0, x1), (0, x2), (0, x3), (0, x4), (9, 0), (9, 0)] [(0, z0)] σ = js_J E d 243 157 [(2, 83), (0, x1), (0, x2), (0, x3), (0, x4), (0, z0), (9, 0)] [(0, 59), (2, 83)] σ :=
  (j_istore (l2 := [(2, 83), (0, x1), (0, x2), (0, x3), (0, x4), (0, z0), (9, 0)]) q_243_152 rfl (Nat.le_of_ble_eq_true rfl)).trans <| (j_aload_n q_243_154 rfl).trans <| (j_bi q_243_155 rfl).trans <| rfl
theorem k_243_157 {E : js_E} {d : Nat} {σ σ2 : js_S} {x1 x2 x3 x4 x5 z1 : Int} (hd : 1 ≤ d) (hz : js_J E (d - 1) 202 0 [(2, 83), (0, z1)] [] σ = js_r0 E σ2) : js_J E d 243 157 [(2, 83), (0, x1), (0, x2), (0, x3), (0, x4), (0, x5), (9, 0)] [(0, z1), (2, 83)] σ = js_J E d 243 160 [(2, 83), (0, x1), (0, x2), (0, x3), (0, x4), (0, x5), (9, 0)] [] σ2 :=
  j_call0 (m := 0) (js_caV q_243_157 (js_Mo qy_243 qm_12_75)) (js_agV (av := [(0, z1)]) (st := []) rfl rfl js_o83 rfl) rfl rfl (by rw [ql_202]; exact Nat.le_of_ble_eq_true rfl) (Nat.le_of_ble_eq_true rfl) hd hz
theorem b_243_160 {E : js_E} {d : Nat} {σ : js_S} {x1 x2 x3 x4 x5 : Int} : js_J E d 243 160 [(2, 83), (0, x1), (0, x2), (0, x3), (0, x4), (0, x5), (9, 0)] [] σ = js_J E d 243 170 [(2, 83), (0, x1), (0, x2), (0, x3), (0, x4), (0, x5), (9, 0)] [(0, 0), (0, 0), (0, x5), (1, 0), (1, 0), (0, 0), (0, 28), (2, 83)] σ :=
  (j_aload_n q_243_160 rfl).trans <| (j_bi q_243_161 rfl).trans <| (j_iconst q_243_163).trans <| (j_lconst0 q_243_164).trans <| (j_lconst0 q_243_165).trans <| (j_iload q_243_166 rfl).trans <| (j_iconst q_243_168).trans <| (j_iconst q_243_169).trans <| rfl
theorem k_243_170 {E : js_E} {d : Nat} {σ σ2 : js_S} {x1 x2 x3 x4 x5 z1 z2 z3 z4 z5 z6 z7 : Int} {v : Int} (hd : 1 ≤ d) (hz : js_J E (d - 1) 217 0 [(2, 83), (0, z1), (0, z2), (1, z3), (9, 0), (1, z4), (9, 0), (0, z5), (0, z6), (0, z7), (9, 0)] [] σ = js_r E (0, v) σ2) : js_J E d 243 170 [(2, 83), (0, x1), (0, x2), (0, x3), (0, x4), (0, x5), (9, 0)] [(0, z7), (0, z6), (0, z5), (1, z4), (1, z3), (0, z2), (0, z1), (2, 83)] σ = js_J E d 243 173 [(2, 83), (0, x1), (0, x2), (0, x3), (0, x4), (0, x5), (9, 0)] [(0, v)] σ2 :=
  j_call (m := 1) (js_caV q_243_170 (js_Mo qy_243 qm_12_208)) (js_agV (av := [(0, z1), (0, z2), (1, z3), (1, z4), (0, z5), (0, z6), (0, z7)]) (st := []) rfl rfl js_o83 rfl) rfl rfl (by rw [ql_217]; exact Nat.le_of_ble_eq_true rfl) (Nat.le_of_ble_eq_true rfl) hd hz
theorem b_243_173 {E : js_E} {d : Nat} {σ : js_S} {x1 x2 x3 x4 x5 z0 : Int} : js_J E d 243 173 [(2, 83), (0, x1), (0, x2), (0, x3), (0, x4), (0, x5), (9, 0)] [(0, z0)] σ = js_r E (0, z0) σ :=
  j_ireturn q_243_173 qr_243
theorem k_243_175 {E : js_E} {d : Nat} {σ σ2 : js_S} {x1 x2 x3 x4 : Int} (hd : 1 ≤ d) (hz : js_J E (d - 1) 191 0 [(2, 83), (9, 0), (9, 0), (9, 0), (9, 0), (9, 0)] [] σ = js_r0 E σ2) : js_J E d 243 175 [(2, 83), (0, x1), (0, x2), (0, x3), (0, x4), (9, 0), (9, 0)] [(2, 83)] σ = js_J E d 243 178 [(2, 83), (0, x1), (0, x2), (0, x3), (0, x4), (9, 0), (9, 0)] [] σ2 :=
  j_call0 (m := 5) (js_caV q_243_175 (js_Mo qy_243 qm_12_68)) (js_agV (av := []) (st := []) rfl rfl js_o83 rfl) rfl rfl (by rw [ql_191]; exact Nat.le_of_ble_eq_true rfl) (Nat.le_of_ble_eq_true rfl) hd hz
theorem b_243_178 {E : js_E} {d : Nat} {σ : js_S} {x1 x2 x3 x4 : Int} : js_J E d 243 178 [(2, 83), (0, x1), (0, x2), (0, x3), (0, x4), (9, 0), (9, 0)] [] σ = (if 0 ≤ js_w x1 ∧ js_w x1 < 400 then (if js_w (σ 92 (js_w x1)) = 0 then js_J E d 243 196 [(2, 83), (0, x1), (0, x2), (0, x3), (0, x4), (9, 0), (9, 0)] [(0, (-1))] σ else js_J E d 243 189 [(2, 83), (0, x1), (0, x2), (0, x3), (0, x4), (9, 0), (9, 0)] [(0, x1), (2, 83)] σ) else none) :=
  (j_aload_n q_243_178 rfl).trans <| (j_get (ji := 18) (v := (2, 92)) q_243_179 (js_Fo qy_243 qf_12_117) js_o83 rfl rfl rfl rfl).trans <| (j_iload_n q_243_182 rfl).trans <| (j_zaload q_243_183 js_o92).trans <| js_itp fun g0 => (j_ifeq (t := 195) q_243_184 rfl).trans (js_ite ((j_iconst q_243_195).trans <| rfl) ((j_aload_n q_243_187 rfl).trans <| (j_iload_n q_243_188 rfl).trans <| rfl))
theorem k_243_189 {E : js_E} {d : Nat} {σ σ2 : js_S} {x1 x2 x3 x4 z1 : Int} {v : Int} (hd : 1 ≤ d) (hz : js_J E (d - 1) 233 0 [(2, 83), (0, z1), (9, 0)] [] σ = js_r E (0, v) σ2) : js_J E d 243 189 [(2, 83), (0, x1), (0, x2), (0, x3), (0, x4), (9, 0), (9, 0)] [(0, z1), (2, 83)] σ = js_J E d 243 192 [(2, 83), (0, x1), (0, x2), (0, x3), (0, x4), (9, 0), (9, 0)] [(0, v)] σ2 :=
  j_call (m := 1) (js_caV q_243_189 (js_Mo qy_243 qm_12_277)) (js_agV (av := [(0, z1)]) (st := []) rfl rfl js_o83 rfl) rfl rfl (by rw [ql_233]; exact Nat.le_of_ble_eq_true rfl) (Nat.le_of_ble_eq_true rfl) hd hz
theorem b_243_192 {E : js_E} {d : Nat} {σ : js_S} {x1 x2 x3 x4 z0 : Int} : js_J E d 243 192 [(2, 83), (0, x1), (0, x2), (0, x3), (0, x4), (9, 0), (9, 0)] [(0, z0)] σ = js_J E d 243 196 [(2, 83), (0, x1), (0, x2), (0, x3), (0, x4), (9, 0), (9, 0)] [(0, z0)] σ :=
  (j_goto (t := 196) q_243_192 rfl).trans <| rfl
theorem b_243_196 {E : js_E} {d : Nat} {σ : js_S} {x1 x2 x3 x4 z0 : Int} : js_J E d 243 196 [(2, 83), (0, x1), (0, x2), (0, x3), (0, x4), (9, 0), (9, 0)] [(0, z0)] σ = js_J E d 243 201 [(2, 83), (0, x1), (0, x2), (0, x3), (0, x4), (0, z0), (9, 0)] [(0, 61), (2, 83)] σ :=
  (j_istore (l2 := [(2, 83), (0, x1), (0, x2), (0, x3), (0, x4), (0, z0), (9, 0)]) q_243_196 rfl (Nat.le_of_ble_eq_true rfl)).trans <| (j_aload_n q_243_198 rfl).trans <| (j_bi q_243_199 rfl).trans <| rfl
theorem k_243_201 {E : js_E} {d : Nat} {σ σ2 : js_S} {x1 x2 x3 x4 x5 z1 : Int} (hd : 1 ≤ d) (hz : js_J E (d - 1) 202 0 [(2, 83), (0, z1)] [] σ = js_r0 E σ2) : js_J E d 243 201 [(2, 83), (0, x1), (0, x2), (0, x3), (0, x4), (0, x5), (9, 0)] [(0, z1), (2, 83)] σ = js_J E d 243 204 [(2, 83), (0, x1), (0, x2), (0, x3), (0, x4), (0, x5), (9, 0)] [] σ2 :=
  j_call0 (m := 0) (js_caV q_243_201 (js_Mo qy_243 qm_12_75)) (js_agV (av := [(0, z1)]) (st := []) rfl rfl js_o83 rfl) rfl rfl (by rw [ql_202]; exact Nat.le_of_ble_eq_true rfl) (Nat.le_of_ble_eq_true rfl) hd hz
theorem b_243_204 {E : js_E} {d : Nat} {σ : js_S} {x1 x2 x3 x4 x5 : Int} : js_J E d 243 204 [(2, 83), (0, x1), (0, x2), (0, x3), (0, x4), (0, x5), (9, 0)] [] σ = (if 0 ≤ js_w x1 ∧ js_w x1 < 400 then js_J E d 243 225 [(2, 83), (0, x1), (0, x2), (0, x3), (0, x4), (0, x5), (9, 0)] [(1, js_w (σ 89 (js_w x1))), (1, js_w (σ 88 (js_w x1))), (0, σ 87 (js_w x1)), (2, 83)] σ else none) :=
  (j_aload_n q_243_204 rfl).trans <| (j_aload_n q_243_205 rfl).trans <| (j_get (ji := 13) (v := (2, 87)) q_243_206 (js_Fo qy_243 qf_12_102) js_o83 rfl rfl rfl rfl).trans <| (j_iload_n q_243_209 rfl).trans <| (j_iaload q_243_210 js_o87).trans <| js_itp fun g0 => (j_aload_n q_243_211 rfl).trans <| (j_get (ji := 14) (v := (2, 88)) q_243_212 (js_Fo qy_243 qf_12_105) js_o83 rfl rfl rfl rfl).trans <| (j_iload_n q_243_215 rfl).trans <| (j_iaload q_243_216 js_o88).trans <| (if_pos g0).trans <| (j_i2l q_243_217).trans <| (j_aload_n q_243_218 rfl).trans <| (j_get (ji := 15) (v := (2, 89)) q_243_219 (js_Fo qy_243 qf_12_108) js_o83 rfl rfl rfl rfl).trans <| (j_iload_n q_243_222 rfl).trans <| (j_iaload q_243_223 js_o89).trans <| (if_pos g0).trans <| (j_i2l q_243_224).trans <| rfl
theorem k_243_225 {E : js_E} {d : Nat} {σ σ2 : js_S} {x1 x2 x3 x4 x5 z1 z2 z3 : Int} {v : Int} (hd : 1 ≤ d) (hz : js_J E (d - 1) 218 0 [(2, 83), (0, z1), (1, z2), (9, 0), (1, z3), (9, 0), (9, 0), (9, 0)] [] σ = js_r E (0, v) σ2) : js_J E d 243 225 [(2, 83), (0, x1), (0, x2), (0, x3), (0, x4), (0, x5), (9, 0)] [(1, z3), (1, z2), (0, z1), (2, 83)] σ = js_J E d 243 228 [(2, 83), (0, x1), (0, x2), (0, x3), (0, x4), (0, x5), (9, 0)] [(0, v)] σ2 :=
  j_call (m := 2) (js_caV q_243_225 (js_Mo qy_243 qm_12_280)) (js_agV (av := [(0, z1), (1, z2), (1, z3)]) (st := []) rfl rfl js_o83 rfl) rfl rfl (by rw [ql_218]; exact Nat.le_of_ble_eq_true rfl) (Nat.le_of_ble_eq_true rfl) hd hz
theorem b_243_228 {E : js_E} {d : Nat} {σ : js_S} {x1 x2 x3 x4 x5 z0 : Int} : js_J E d 243 228 [(2, 83), (0, x1), (0, x2), (0, x3), (0, x4), (0, x5), (9, 0)] [(0, z0)] σ = js_J E d 243 233 [(2, 83), (0, x1), (0, x2), (0, x3), (0, x4), (0, x5), (0, z0)] [(0, 59), (2, 83)] σ :=
  (j_istore (l2 := [(2, 83), (0, x1), (0, x2), (0, x3), (0, x4), (0, x5), (0, z0)]) q_243_228 rfl (Nat.le_of_ble_eq_true rfl)).trans <| (j_aload_n q_243_230 rfl).trans <| (j_bi q_243_231 rfl).trans <| rfl
theorem k_243_233 {E : js_E} {d : Nat} {σ σ2 : js_S} {x1 x2 x3 x4 x5 x6 z1 : Int} (hd : 1 ≤ d) (hz : js_J E (d - 1) 202 0 [(2, 83), (0, z1)] [] σ = js_r0 E σ2) : js_J E d 243 233 [(2, 83), (0, x1), (0, x2), (0, x3), (0, x4), (0, x5), (0, x6)] [(0, z1), (2, 83)] σ = js_J E d 243 236 [(2, 83), (0, x1), (0, x2), (0, x3), (0, x4), (0, x5), (0, x6)] [] σ2 :=
  j_call0 (m := 0) (js_caV q_243_233 (js_Mo qy_243 qm_12_75)) (js_agV (av := [(0, z1)]) (st := []) rfl rfl js_o83 rfl) rfl rfl (by rw [ql_202]; exact Nat.le_of_ble_eq_true rfl) (Nat.le_of_ble_eq_true rfl) hd hz
theorem b_243_236 {E : js_E} {d : Nat} {σ : js_S} {x1 x2 x3 x4 x5 x6 : Int} : js_J E d 243 236 [(2, 83), (0, x1), (0, x2), (0, x3), (0, x4), (0, x5), (0, x6)] [] σ = (if js_w x5 < 0 then js_J E d 243 249 [(2, 83), (0, x1), (0, x2), (0, x3), (0, x4), (0, x5), (0, x6)] [(0, 20), (2, 83)] σ else js_J E d 243 249 [(2, 83), (0, x1), (0, x2), (0, x3), (0, x4), (0, x5), (0, x6)] [(0, 21), (2, 83)] σ) :=
  (j_aload_n q_243_236 rfl).trans <| (j_iload q_243_237 rfl).trans <| (j_ifge (t := 247) q_243_239 rfl).trans (js_ite ((j_bi q_243_242 rfl).trans <| (j_goto (t := 249) q_243_244 rfl).trans <| rfl) ((j_bi q_243_247 rfl).trans <| rfl))
theorem b_243_249 {E : js_E} {d : Nat} {σ : js_S} {x1 x2 x3 x4 x5 x6 z1 : Int} : js_J E d 243 249 [(2, 83), (0, x1), (0, x2), (0, x3), (0, x4), (0, x5), (0, x6)] [(0, z1), (2, 83)] σ = js_J E d 243 257 [(2, 83), (0, x1), (0, x2), (0, x3), (0, x4), (0, x5), (0, x6)] [(0, x5), (0, x6), (0, x1), (1, 0), (1, 0), (0, 0), (0, z1), (2, 83)] σ :=
  (j_iconst q_243_249).trans <| (j_lconst0 q_243_250).trans <| (j_lconst0 q_243_251).trans <| (j_iload_n q_243_252 rfl).trans <| (j_iload q_243_253 rfl).trans <| (j_iload q_243_255 rfl).trans <| rfl
theorem k_243_257 {E : js_E} {d : Nat} {σ σ2 : js_S} {x1 x2 x3 x4 x5 x6 z1 z2 z3 z4 z5 z6 z7 : Int} {v : Int} (hd : 1 ≤ d) (hz : js_J E (d - 1) 217 0 [(2, 83), (0, z1), (0, z2), (1, z3), (9, 0), (1, z4), (9, 0), (0, z5), (0, z6), (0, z7), (9, 0)] [] σ = js_r E (0, v) σ2) : js_J E d 243 257 [(2, 83), (0, x1), (0, x2), (0, x3), (0, x4), (0, x5), (0, x6)] [(0, z7), (0, z6), (0, z5), (1, z4), (1, z3), (0, z2), (0, z1), (2, 83)] σ = js_J E d 243 260 [(2, 83), (0, x1), (0, x2), (0, x3), (0, x4), (0, x5), (0, x6)] [(0, v)] σ2 :=
  j_call (m := 1) (js_caV q_243_257 (js_Mo qy_243 qm_12_208)) (js_agV (av := [(0, z1), (0, z2), (1, z3), (1, z4), (0, z5), (0, z6), (0, z7)]) (st := []) rfl rfl js_o83 rfl) rfl rfl (by rw [ql_217]; exact Nat.le_of_ble_eq_true rfl) (Nat.le_of_ble_eq_true rfl) hd hz
theorem b_243_260 {E : js_E} {d : Nat} {σ : js_S} {x1 x2 x3 x4 x5 x6 z0 : Int} : js_J E d 243 260 [(2, 83), (0, x1), (0, x2), (0, x3), (0, x4), (0, x5), (0, x6)] [(0, z0)] σ = js_r E (0, z0) σ :=
  j_ireturn q_243_260 qr_243
-- 244: VitalTwinModel.make ()V
theorem b_244_0 {E : js_E} {d : Nat} {σ : js_S} : js_J E d 244 0 [(2, 83), (9, 0), (9, 0), (9, 0), (9, 0)] [] σ = js_J E d 244 27 [(2, 83), (0, 0), (9, 0), (9, 0), (9, 0)] [] (js_up (js_up (js_up (js_up (js_up σ 83 48 0) 83 49 0) 83 52 0) 83 46 0) 83 47 0) :=
  (j_aload_n q_244_0 rfl).trans <| (j_iconst q_244_1).trans <| (j_putI (ji := 48) q_244_2 (js_Fo qy_244 qf_12_437) rfl js_o83 rfl rfl rfl).trans <| (j_aload_n q_244_5 rfl).trans <| (j_iconst q_244_6).trans <| (j_putI (ji := 49) q_244_7 (js_Fo qy_244 qf_12_428) rfl js_o83 rfl rfl rfl).trans <| (j_aload_n q_244_10 rfl).trans <| (j_iconst q_244_11).trans <| (j_putI (ji := 52) q_244_12 (js_Fo qy_244 qf_12_498) rfl js_o83 rfl rfl rfl).trans <| (j_aload_n q_244_15 rfl).trans <| (j_iconst q_244_16).trans <| (j_putI (ji := 46) q_244_17 (js_Fo qy_244 qf_12_440) rfl js_o83 rfl rfl rfl).trans <| (j_aload_n q_244_20 rfl).trans <| (j_iconst q_244_21).trans <| (j_putI (ji := 47) q_244_22 (js_Fo qy_244 qf_12_443) rfl js_o83 rfl rfl rfl).trans <| (j_iconst q_244_25).trans <| (j_istore_n (l2 := [(2, 83), (0, 0), (9, 0), (9, 0), (9, 0)]) q_244_26 rfl (Nat.le_of_ble_eq_true rfl)).trans <| rfl
theorem b_244_27 {E : js_E} {d : Nat} {σ : js_S} {x1 : Int} : js_J E d 244 27 [(2, 83), (0, x1), (9, 0), (9, 0), (9, 0)] [] σ = (if js_w x1 < js_w (σ 83 11) then (if 0 ≤ js_w x1 ∧ js_w x1 < 400 then (if js_w (σ 86 (js_w x1)) < 1 then js_J E d 244 133 [(2, 83), (0, x1), (9, 0), (9, 0), (9, 0)] [] σ else (if 3 < js_w (σ 86 (js_w x1)) then js_J E d 244 133 [(2, 83), (0, x1), (9, 0), (9, 0), (9, 0)] [] σ else (if js_w (σ 86 (js_w x1)) = 1 then js_J E d 244 108 [(2, 83), (0, x1), (9, 0), (9, 0), (9, 0)] [] (js_up (js_up (js_up σ 90 (js_w x1) (σ 83 48)) 83 48 ((σ 83 48) + (σ 91 (js_w x1)))) 83 46 ((σ 83 46) + (σ 91 (js_w x1)))) else js_J E d 244 108 [(2, 83), (0, x1), (9, 0), (9, 0), (9, 0)] [] (js_up (js_up σ 90 (js_w x1) (σ 83 48)) 83 48 ((σ 83 48) + (σ 91 (js_w x1))))))) else none) else js_J E d 244 143 [(2, 83), (0, 0), (0, 0), (9, 0), (9, 0)] [] σ) :=
  (j_iload_n q_244_27 rfl).trans <| (j_aload_n q_244_28 rfl).trans <| (j_get (ji := 11) (v := (0, σ 83 11)) q_244_29 (js_Fo qy_244 qf_12_86) js_o83 rfl rfl rfl rfl).trans <| (j_cmpge (t := 139) q_244_32 rfl).trans (js_ite ((j_aload_n q_244_35 rfl).trans <| (j_get (ji := 12) (v := (2, 86)) q_244_36 (js_Fo qy_244 qf_12_99) js_o83 rfl rfl rfl rfl).trans <| (j_iload_n q_244_39 rfl).trans <| (j_iaload q_244_40 js_o86).trans <| js_itp fun g0 => (j_iconst q_244_41).trans <| (j_cmpltB (t := 133) q_244_42 rfl ww_1).trans (js_ite (rfl) ((j_aload_n q_244_45 rfl).trans <| (j_get (ji := 12) (v := (2, 86)) q_244_46 (js_Fo qy_244 qf_12_99) js_o83 rfl rfl rfl rfl).trans <| (j_iload_n q_244_49 rfl).trans <| (j_iaload q_244_50 js_o86).trans <| (if_pos g0).trans <| (j_iconst q_244_51).trans <| (j_cmpleB (t := 58) q_244_52 rfl ww_3).trans (js_ite ((j_goto (t := 133) q_244_55 rfl).trans <| rfl) ((j_aload_n q_244_58 rfl).trans <| (j_get (ji := 16) (v := (2, 90)) q_244_59 (js_Fo qy_244 qf_12_111) js_o83 rfl rfl rfl rfl).trans <| (j_iload_n q_244_62 rfl).trans <| (j_aload_n q_244_63 rfl).trans <| (j_get (ji := 48) (v := (0, σ 83 48)) q_244_64 (js_Fo qy_244 qf_12_437) js_o83 rfl rfl rfl rfl).trans <| (j_iastore q_244_67 js_o90).trans <| (if_pos g0).trans <| (j_aload_n q_244_68 rfl).trans <| (j_dupr q_244_69).trans <| (j_get (ji := 48) (v := (0, σ 83 48)) q_244_70 (js_Fo qy_244 qf_12_437) js_o83 rfl rfl rfl (congrArg (Prod.mk 0) ((js_up_na _ (by decide))))).trans <| (j_aload_n q_244_73 rfl).trans <| (j_get (ji := 17) (v := (2, 91)) q_244_74 (js_Fo qy_244 qf_12_114) js_o83 rfl rfl rfl rfl).trans <| (j_iload_n q_244_77 rfl).trans <| (j_ialoadv q_244_78 js_o91 ((js_up_na _ (by decide)))).trans <| (if_pos g0).trans <| (j_iadd q_244_79).trans <| (j_putI (ji := 48) q_244_80 (js_Fo qy_244 qf_12_437) rfl js_o83 rfl rfl rfl).trans <| (j_aload_n q_244_83 rfl).trans <| (j_get (ji := 12) (v := (2, 86)) q_244_84 (js_Fo qy_244 qf_12_99) js_o83 rfl rfl rfl rfl).trans <| (j_iload_n q_244_87 rfl).trans <| (j_ialoadv q_244_88 js_o86 ((js_up_na _ (by decide)).trans <| (js_up_na _ (by decide)))).trans <| (if_pos g0).trans <| (j_iconst q_244_89).trans <| (j_cmpneB (t := 108) q_244_90 rfl ww_1).trans (js_ite ((j_aload_n q_244_93 rfl).trans <| (j_dupr q_244_94).trans <| (j_get (ji := 46) (v := (0, σ 83 46)) q_244_95 (js_Fo qy_244 qf_12_440) js_o83 rfl rfl rfl (congrArg (Prod.mk 0) ((js_up_ni _ (by decide)).trans <| (js_up_na _ (by decide))))).trans <| (j_aload_n q_244_98 rfl).trans <| (j_get (ji := 17) (v := (2, 91)) q_244_99 (js_Fo qy_244 qf_12_114) js_o83 rfl rfl rfl rfl).trans <| (j_iload_n q_244_102 rfl).trans <| (j_ialoadv q_244_103 js_o91 ((js_up_na _ (by decide)).trans <| (js_up_na _ (by decide)))).trans <| (if_pos g0).trans <| (j_iadd q_244_104).trans <| (j_putI (ji := 46) q_244_105 (js_Fo qy_244 qf_12_440) rfl js_o83 rfl rfl rfl).trans <| rfl) (rfl))))))) ((j_iconst q_244_139).trans <| (j_istore_n (l2 := [(2, 83), (0, 0), (9, 0), (9, 0), (9, 0)]) q_244_140 rfl (Nat.le_of_ble_eq_true rfl)).trans <| (j_iconst q_244_141).trans <| (j_istore_n (l2 := [(2, 83), (0, 0), (0, 0), (9, 0), (9, 0)]) q_244_142 rfl (Nat.le_of_ble_eq_true rfl)).trans <| rfl))
theorem b_244_108 {E : js_E} {d : Nat} {σ : js_S} {x1 : Int} : js_J E d 244 108 [(2, 83), (0, x1), (9, 0), (9, 0), (9, 0)] [] σ = (if 0 ≤ js_w x1 ∧ js_w x1 < 400 then (if js_w (σ 86 (js_w x1)) = 2 then js_J E d 244 133 [(2, 83), (0, x1), (9, 0), (9, 0), (9, 0)] [] (js_up σ 83 47 ((σ 83 47) + (σ 91 (js_w x1)))) else js_J E d 244 133 [(2, 83), (0, x1), (9, 0), (9, 0), (9, 0)] [] σ) else none) :=
  (j_aload_n q_244_108 rfl).trans <| (j_get (ji := 12) (v := (2, 86)) q_244_109 (js_Fo qy_244 qf_12_99) js_o83 rfl rfl rfl rfl).trans <| (j_iload_n q_244_112 rfl).trans <| (j_iaload q_244_113 js_o86).trans <| js_itp fun g0 => (j_iconst q_244_114).trans <| (j_cmpneB (t := 133) q_244_115 rfl ww_2).trans (js_ite ((j_aload_n q_244_118 rfl).trans <| (j_dupr q_244_119).trans <| (j_get (ji := 47) (v := (0, σ 83 47)) q_244_120 (js_Fo qy_244 qf_12_443) js_o83 rfl rfl rfl rfl).trans <| (j_aload_n q_244_123 rfl).trans <| (j_get (ji := 17) (v := (2, 91)) q_244_124 (js_Fo qy_244 qf_12_114) js_o83 rfl rfl rfl rfl).trans <| (j_iload_n q_244_127 rfl).trans <| (j_iaload q_244_128 js_o91).trans <| (if_pos g0).trans <| (j_iadd q_244_129).trans <| (j_putI (ji := 47) q_244_130 (js_Fo qy_244 qf_12_443) rfl js_o83 rfl rfl rfl).trans <| rfl) (rfl))
theorem b_244_133 {E : js_E} {d : Nat} {σ : js_S} {x1 : Int} : js_J E d 244 133 [(2, 83), (0, x1), (9, 0), (9, 0), (9, 0)] [] σ = js_J E d 244 27 [(2, 83), (0, x1 + 1), (9, 0), (9, 0), (9, 0)] [] σ :=
  (j_iinc (l2 := [(2, 83), (0, x1 + 1), (9, 0), (9, 0), (9, 0)]) q_244_133 rfl rfl).trans <| (j_goto (t := 27) q_244_136 rfl).trans <| rfl
theorem b_244_143 {E : js_E} {d : Nat} {σ : js_S} {x1 x2 : Int} {ux3 : js_v} : js_J E d 244 143 [(2, 83), (0, x1), (0, x2), ux3, (9, 0)] [] σ = (if js_w x2 < js_w (σ 83 11) then (if 0 ≤ js_w x2 ∧ js_w x2 < 400 then (if js_w (σ 86 (js_w x2)) = 4 then js_J E d 244 166 [(2, 83), (0, x1), (0, x2), ux3, (9, 0)] [(0, x2), (2, 83)] σ else js_J E d 244 252 [(2, 83), (0, x1), (0, x2), ux3, (9, 0)] [] σ) else none) else js_J E d 244 260 [(2, 83), (0, x1), (0, x2), ux3, (9, 0)] [(0, (-1)), (2, 83)] σ) :=
  (j_iload_n q_244_143 rfl).trans <| (j_aload_n q_244_144 rfl).trans <| (j_get (ji := 11) (v := (0, σ 83 11)) q_244_145 (js_Fo qy_244 qf_12_86) js_o83 rfl rfl rfl rfl).trans <| (j_cmpge (t := 258) q_244_148 rfl).trans (js_ite ((j_aload_n q_244_151 rfl).trans <| (j_get (ji := 12) (v := (2, 86)) q_244_152 (js_Fo qy_244 qf_12_99) js_o83 rfl rfl rfl rfl).trans <| (j_iload_n q_244_155 rfl).trans <| (j_iaload q_244_156 js_o86).trans <| js_itp fun g0 => (j_iconst q_244_157).trans <| (j_cmpeqB (t := 164) q_244_158 rfl ww_4).trans (js_ite ((j_aload_n q_244_164 rfl).trans <| (j_iload_n q_244_165 rfl).trans <| rfl) ((j_goto (t := 252) q_244_161 rfl).trans <| rfl))) ((j_aload_n q_244_258 rfl).trans <| (j_iconst q_244_259).trans <| rfl))
theorem k_244_166 {E : js_E} {d : Nat} {σ σ2 : js_S} {x1 x2 z1 : Int} {ux3 : js_v} (hd : 1 ≤ d) (hz : js_J E (d - 1) 245 0 [(2, 83), (0, z1), (9, 0)] [] σ = js_r0 E σ2) : js_J E d 244 166 [(2, 83), (0, x1), (0, x2), ux3, (9, 0)] [(0, z1), (2, 83)] σ = js_J E d 244 169 [(2, 83), (0, x1), (0, x2), ux3, (9, 0)] [] σ2 :=
  j_call0 (m := 1) (js_caV q_244_166 (js_Mo qy_244 qm_12_560)) (js_agV (av := [(0, z1)]) (st := []) rfl rfl js_o83 rfl) rfl rfl (by rw [ql_245]; exact Nat.le_of_ble_eq_true rfl) (Nat.le_of_ble_eq_true rfl) hd hz
theorem b_244_169 {E : js_E} {d : Nat} {σ : js_S} {x1 x2 : Int} {ux3 : js_v} : js_J E d 244 169 [(2, 83), (0, x1), (0, x2), ux3, (9, 0)] [] σ = (if 0 ≤ js_w x2 ∧ js_w x2 < 400 then js_J E d 244 187 [(2, 83), (0, x1), (0, x2), ux3, (9, 0)] [(0, 0), (0, σ 108 (js_w x2)), (2, 83)] (js_up σ 90 (js_w x2) (σ 83 49)) else none) :=
  (j_aload_n q_244_169 rfl).trans <| (j_get (ji := 16) (v := (2, 90)) q_244_170 (js_Fo qy_244 qf_12_111) js_o83 rfl rfl rfl rfl).trans <| (j_iload_n q_244_173 rfl).trans <| (j_aload_n q_244_174 rfl).trans <| (j_get (ji := 49) (v := (0, σ 83 49)) q_244_175 (js_Fo qy_244 qf_12_428) js_o83 rfl rfl rfl rfl).trans <| (j_iastore q_244_178 js_o90).trans <| js_itp fun g0 => (j_aload_n q_244_179 rfl).trans <| (j_aload_n q_244_180 rfl).trans <| (j_get (ji := 56) (v := (2, 108)) q_244_181 (js_Fo qy_244 qf_12_337) js_o83 rfl rfl rfl rfl).trans <| (j_iload_n q_244_184 rfl).trans <| (j_ialoadv q_244_185 js_o108 ((js_up_na _ (by decide)))).trans <| (if_pos g0).trans <| (j_iconst q_244_186).trans <| rfl
theorem k_244_187 {E : js_E} {d : Nat} {σ σ2 : js_S} {x1 x2 z1 z2 : Int} {ux3 : js_v} {v : Int} (hd : 1 ≤ d) (hz : js_J E (d - 1) 246 0 [(2, 83), (0, z1), (0, z2), (9, 0), (9, 0), (9, 0)] [] σ = js_r E (1, v) σ2) : js_J E d 244 187 [(2, 83), (0, x1), (0, x2), ux3, (9, 0)] [(0, z2), (0, z1), (2, 83)] σ = js_J E d 244 190 [(2, 83), (0, x1), (0, x2), ux3, (9, 0)] [(1, v)] σ2 :=
  j_call (m := 3) (js_caV q_244_187 (js_Mo qy_244 qm_12_550)) (js_agV (av := [(0, z1), (0, z2)]) (st := []) rfl rfl js_o83 rfl) rfl rfl (by rw [ql_246]; exact Nat.le_of_ble_eq_true rfl) (Nat.le_of_ble_eq_true rfl) hd hz
theorem b_244_190 {E : js_E} {d : Nat} {σ : js_S} {x1 x2 z0 : Int} {ux3 : js_v} : js_J E d 244 190 [(2, 83), (0, x1), (0, x2), ux3, (9, 0)] [(1, z0)] σ = (if 0 ≤ js_w x2 ∧ js_w x2 < 400 then (if js_w (σ 109 (js_w x2)) < 0 then js_J E d 244 214 [(2, 83), (0, x1), (0, x2), (1, z0), (9, 0)] [] σ else js_J E d 244 209 [(2, 83), (0, x1), (0, x2), (1, z0), (9, 0)] [(0, 0), (0, σ 109 (js_w x2)), (2, 83), (1, z0)] σ) else none) :=
  (j_lstore_n (l2 := [(2, 83), (0, x1), (0, x2), (1, z0), (9, 0)]) q_244_190 rfl (Nat.le_of_ble_eq_true rfl)).trans <| (j_aload_n q_244_191 rfl).trans <| (j_get (ji := 57) (v := (2, 109)) q_244_192 (js_Fo qy_244 qf_12_340) js_o83 rfl rfl rfl rfl).trans <| (j_iload_n q_244_195 rfl).trans <| (j_iaload q_244_196 js_o109).trans <| js_itp fun g0 => (j_iflt (t := 214) q_244_197 rfl).trans (js_ite (rfl) ((j_lload_n q_244_200 rfl).trans <| (j_aload_n q_244_201 rfl).trans <| (j_aload_n q_244_202 rfl).trans <| (j_get (ji := 57) (v := (2, 109)) q_244_203 (js_Fo qy_244 qf_12_340) js_o83 rfl rfl rfl rfl).trans <| (j_iload_n q_244_206 rfl).trans <| (j_iaload q_244_207 js_o109).trans <| (if_pos g0).trans <| (j_iconst q_244_208).trans <| rfl))
theorem k_244_209 {E : js_E} {d : Nat} {σ σ2 : js_S} {x1 x2 x3 z0 z2 z3 : Int} {v : Int} (hd : 1 ≤ d) (hz : js_J E (d - 1) 248 0 [(2, 83), (0, z2), (0, z3), (9, 0), (9, 0), (9, 0), (9, 0), (9, 0)] [] σ = js_r E (1, v) σ2) : js_J E d 244 209 [(2, 83), (0, x1), (0, x2), (1, x3), (9, 0)] [(0, z3), (0, z2), (2, 83), (1, z0)] σ = js_J E d 244 212 [(2, 83), (0, x1), (0, x2), (1, x3), (9, 0)] [(1, v), (1, z0)] σ2 :=
  j_call (m := 5) (js_caV q_244_209 (js_Mo qy_244 qm_12_511)) (js_agV (av := [(0, z2), (0, z3)]) (st := [(1, z0)]) rfl rfl js_o83 rfl) rfl rfl (by rw [ql_248]; exact Nat.le_of_ble_eq_true rfl) (Nat.le_of_ble_eq_true rfl) hd hz
theorem b_244_212 {E : js_E} {d : Nat} {σ : js_S} {x1 x2 x3 z0 z1 : Int} : js_J E d 244 212 [(2, 83), (0, x1), (0, x2), (1, x3), (9, 0)] [(1, z1), (1, z0)] σ = js_J E d 244 214 [(2, 83), (0, x1), (0, x2), (1, z0 + z1), (9, 0)] [] σ :=
  (j_ladd q_244_212).trans <| (j_lstore_n (l2 := [(2, 83), (0, x1), (0, x2), (1, z0 + z1), (9, 0)]) q_244_213 rfl (Nat.le_of_ble_eq_true rfl)).trans <| rfl
theorem b_244_214 {E : js_E} {d : Nat} {σ : js_S} {x1 x2 x3 : Int} : js_J E d 244 214 [(2, 83), (0, x1), (0, x2), (1, x3), (9, 0)] [] σ = js_J E d 244 219 [(2, 83), (0, x1), (0, x2), (1, x3), (9, 0)] [(0, 0), (0, 0), (0, 28), (2, 83)] σ :=
  (j_aload_n q_244_214 rfl).trans <| (j_bi q_244_215 rfl).trans <| (j_iconst q_244_217).trans <| (j_iconst q_244_218).trans <| rfl
theorem k_244_219 {E : js_E} {d : Nat} {σ σ2 : js_S} {x1 x2 x3 z1 z2 z3 : Int} {v : Int} (hd : 1 ≤ d) (hz : js_J E (d - 1) 251 0 [(2, 83), (0, z1), (0, z2), (0, z3)] [] σ = js_r E (0, v) σ2) : js_J E d 244 219 [(2, 83), (0, x1), (0, x2), (1, x3), (9, 0)] [(0, z3), (0, z2), (0, z1), (2, 83)] σ = js_J E d 244 222 [(2, 83), (0, x1), (0, x2), (1, x3), (9, 0)] [(0, v)] σ2 :=
  j_call (m := 0) (js_caV q_244_219 (js_Mo qy_244 qm_12_505)) (js_agV (av := [(0, z1), (0, z2), (0, z3)]) (st := []) rfl rfl js_o83 rfl) rfl rfl (by rw [ql_251]; exact Nat.le_of_ble_eq_true rfl) (Nat.le_of_ble_eq_true rfl) hd hz
theorem b_244_222 {E : js_E} {d : Nat} {σ : js_S} {x1 x2 x3 z0 : Int} (hd : 4 ≤ d) : js_J E d 244 222 [(2, 83), (0, x1), (0, x2), (1, x3), (9, 0)] [(0, z0)] σ = (if 0 ≤ js_w x2 ∧ js_w x2 < 400 then js_J E d 244 252 [(2, 83), (0, x1), (0, x2), (1, x3), (9, 0)] [] (js_up (js_up σ 83 48 ((σ 83 48) + (σ 83 54))) 95 (js_w x2) (if js_l 400000 < js_l (x3 + 1) then 400000 else (x3 + 1))) else none) :=
  (j_pop0 q_244_222).trans <| (j_aload_n q_244_223 rfl).trans <| (j_dupr q_244_224).trans <| (j_get (ji := 48) (v := (0, σ 83 48)) q_244_225 (js_Fo qy_244 qf_12_437) js_o83 rfl rfl rfl rfl).trans <| (j_aload_n q_244_228 rfl).trans <| (j_get (ji := 54) (v := (0, σ 83 54)) q_244_229 (js_Fo qy_244 qf_12_487) js_o83 rfl rfl rfl rfl).trans <| (j_iadd q_244_232).trans <| (j_putI (ji := 48) q_244_233 (js_Fo qy_244 qf_12_437) rfl js_o83 rfl rfl rfl).trans <| (j_aload_n q_244_236 rfl).trans <| (j_get (ji := 21) (v := (2, 95)) q_244_237 (js_Fo qy_244 qf_12_129) js_o83 rfl rfl rfl rfl).trans <| (j_iload_n q_244_240 rfl).trans <| (j_lload_n q_244_241 rfl).trans <| (j_lconst1 q_244_242).trans <| (j_ladd q_244_243).trans <| (j_ldc2 (v := (1, 400000)) q_244_244 (js_Co qy_244 qc_12_563)).trans <| (j_lmin (js_clS q_244_247 (js_Mo qy_244 qm_12_234)) (Nat.le_of_ble_eq_true rfl) hd).trans <| (j_l2i q_244_250).trans <| (j_iastore q_244_251 js_o95).trans <| js_itp fun g0 => rfl
theorem b_244_252 {E : js_E} {d : Nat} {σ : js_S} {x1 x2 : Int} {ux3 : js_v} : js_J E d 244 252 [(2, 83), (0, x1), (0, x2), ux3, (9, 0)] [] σ = js_J E d 244 143 [(2, 83), (0, x1), (0, x2 + 1), ux3, (9, 0)] [] σ :=
  (j_iinc (l2 := [(2, 83), (0, x1), (0, x2 + 1), ux3, (9, 0)]) q_244_252 rfl rfl).trans <| (j_goto (t := 143) q_244_255 rfl).trans <| rfl
theorem k_244_260 {E : js_E} {d : Nat} {σ σ2 : js_S} {x1 x2 z1 : Int} {ux3 : js_v} (hd : 1 ≤ d) (hz : js_J E (d - 1) 245 0 [(2, 83), (0, z1), (9, 0)] [] σ = js_r0 E σ2) : js_J E d 244 260 [(2, 83), (0, x1), (0, x2), ux3, (9, 0)] [(0, z1), (2, 83)] σ = js_J E d 244 263 [(2, 83), (0, x1), (0, x2), ux3, (9, 0)] [] σ2 :=
  j_call0 (m := 1) (js_caV q_244_260 (js_Mo qy_244 qm_12_560)) (js_agV (av := [(0, z1)]) (st := []) rfl rfl js_o83 rfl) rfl rfl (by rw [ql_245]; exact Nat.le_of_ble_eq_true rfl) (Nat.le_of_ble_eq_true rfl) hd hz
theorem b_244_263 {E : js_E} {d : Nat} {σ : js_S} {x1 x2 : Int} {ux3 : js_v} : js_J E d 244 263 [(2, 83), (0, x1), (0, x2), ux3, (9, 0)] [] σ = js_J E d 244 277 [(2, 83), (0, x1), (0, x2), ux3, (9, 0)] [(0, 0), (0, σ 83 45), (2, 83)] (js_up σ 83 50 (σ 83 49)) :=
  (j_aload_n q_244_263 rfl).trans <| (j_aload_n q_244_264 rfl).trans <| (j_get (ji := 49) (v := (0, σ 83 49)) q_244_265 (js_Fo qy_244 qf_12_428) js_o83 rfl rfl rfl rfl).trans <| (j_putI (ji := 50) q_244_268 (js_Fo qy_244 qf_12_446) rfl js_o83 rfl rfl rfl).trans <| (j_aload_n q_244_271 rfl).trans <| (j_aload_n q_244_272 rfl).trans <| (j_get (ji := 45) (v := (0, σ 83 45)) q_244_273 (js_Fo qy_244 qf_12_455) js_o83 rfl rfl rfl (congrArg (Prod.mk 0) ((js_up_ni _ (by decide))))).trans <| (j_iconst q_244_276).trans <| rfl
theorem k_244_277 {E : js_E} {d : Nat} {σ σ2 : js_S} {x1 x2 z1 z2 : Int} {ux3 : js_v} {v : Int} (hd : 1 ≤ d) (hz : js_J E (d - 1) 246 0 [(2, 83), (0, z1), (0, z2), (9, 0), (9, 0), (9, 0)] [] σ = js_r E (1, v) σ2) : js_J E d 244 277 [(2, 83), (0, x1), (0, x2), ux3, (9, 0)] [(0, z2), (0, z1), (2, 83)] σ = js_J E d 244 280 [(2, 83), (0, x1), (0, x2), ux3, (9, 0)] [(1, v)] σ2 :=
  j_call (m := 3) (js_caV q_244_277 (js_Mo qy_244 qm_12_550)) (js_agV (av := [(0, z1), (0, z2)]) (st := []) rfl rfl js_o83 rfl) rfl rfl (by rw [ql_246]; exact Nat.le_of_ble_eq_true rfl) (Nat.le_of_ble_eq_true rfl) hd hz
theorem b_244_280 {E : js_E} {d : Nat} {σ : js_S} {x1 x2 z0 : Int} {ux3 : js_v} : js_J E d 244 280 [(2, 83), (0, x1), (0, x2), ux3, (9, 0)] [(1, z0)] σ = js_J E d 244 288 [(2, 83), (0, x1), (1, z0 + 1), (9, 0), (9, 0)] [(0, 0), (0, 0), (0, 29), (2, 83)] σ :=
  (j_lconst1 q_244_280).trans <| (j_ladd q_244_281).trans <| (j_lstore_n (l2 := [(2, 83), (0, x1), (1, z0 + 1), (9, 0), (9, 0)]) q_244_282 rfl (Nat.le_of_ble_eq_true rfl)).trans <| (j_aload_n q_244_283 rfl).trans <| (j_bi q_244_284 rfl).trans <| (j_iconst q_244_286).trans <| (j_iconst q_244_287).trans <| rfl
theorem k_244_288 {E : js_E} {d : Nat} {σ σ2 : js_S} {x1 x2 z1 z2 z3 : Int} {v : Int} (hd : 1 ≤ d) (hz : js_J E (d - 1) 251 0 [(2, 83), (0, z1), (0, z2), (0, z3)] [] σ = js_r E (0, v) σ2) : js_J E d 244 288 [(2, 83), (0, x1), (1, x2), (9, 0), (9, 0)] [(0, z3), (0, z2), (0, z1), (2, 83)] σ = js_J E d 244 291 [(2, 83), (0, x1), (1, x2), (9, 0), (9, 0)] [(0, v)] σ2 :=
  j_call (m := 0) (js_caV q_244_288 (js_Mo qy_244 qm_12_505)) (js_agV (av := [(0, z1), (0, z2), (0, z3)]) (st := []) rfl rfl js_o83 rfl) rfl rfl (by rw [ql_251]; exact Nat.le_of_ble_eq_true rfl) (Nat.le_of_ble_eq_true rfl) hd hz
theorem b_244_291 {E : js_E} {d : Nat} {σ : js_S} {x1 x2 z0 : Int} : js_J E d 244 291 [(2, 83), (0, x1), (1, x2), (9, 0), (9, 0)] [(0, z0)] σ = (if 8192 < js_w (σ 83 49) then js_J E d 244 334 [(2, 83), (0, x1), (1, x2), (9, 0), (9, 0)] [] (js_up σ 83 48 ((σ 83 48) + (σ 83 54))) else (if js_w (σ 83 55) < js_w ((σ 83 48) + (σ 83 54)) then js_J E d 244 334 [(2, 83), (0, x1), (1, x2), (9, 0), (9, 0)] [] (js_up σ 83 48 ((σ 83 48) + (σ 83 54))) else (if 100000 < js_l x2 then js_J E d 244 334 [(2, 83), (0, x1), (1, x2), (9, 0), (9, 0)] [] (js_up σ 83 48 ((σ 83 48) + (σ 83 54))) else js_J E d 244 344 [(2, 83), (0, x1), (1, x2), (9, 0), (9, 0)] [] (js_up σ 83 48 ((σ 83 48) + (σ 83 54)))))) :=
  (j_pop0 q_244_291).trans <| (j_aload_n q_244_292 rfl).trans <| (j_dupr q_244_293).trans <| (j_get (ji := 48) (v := (0, σ 83 48)) q_244_294 (js_Fo qy_244 qf_12_437) js_o83 rfl rfl rfl rfl).trans <| (j_aload_n q_244_297 rfl).trans <| (j_get (ji := 54) (v := (0, σ 83 54)) q_244_298 (js_Fo qy_244 qf_12_487) js_o83 rfl rfl rfl rfl).trans <| (j_iadd q_244_301).trans <| (j_putI (ji := 48) q_244_302 (js_Fo qy_244 qf_12_437) rfl js_o83 rfl rfl rfl).trans <| (j_aload_n q_244_305 rfl).trans <| (j_get (ji := 49) (v := (0, σ 83 49)) q_244_306 (js_Fo qy_244 qf_12_428) js_o83 rfl rfl rfl (congrArg (Prod.mk 0) ((js_up_ni _ (by decide))))).trans <| (j_si q_244_309 rfl).trans <| (j_cmpgtB (t := 334) q_244_312 rfl ww_8192).trans (js_ite (rfl) ((j_aload_n q_244_315 rfl).trans <| (j_get (ji := 48) (v := (0, (σ 83 48) + (σ 83 54))) q_244_316 (js_Fo qy_244 qf_12_437) js_o83 rfl rfl rfl (congrArg (Prod.mk 0) ((js_up_same _ _ _ _)))).trans <| (j_aload_n q_244_319 rfl).trans <| (j_get (ji := 55) (v := (0, σ 83 55)) q_244_320 (js_Fo qy_244 qf_12_422) js_o83 rfl rfl rfl (congrArg (Prod.mk 0) ((js_up_ni _ (by decide))))).trans <| (j_cmpgt (t := 334) q_244_323 rfl).trans (js_ite (rfl) ((j_lload_n q_244_326 rfl).trans <| (j_ldc2 (v := (1, 100000)) q_244_327 (js_Co qy_244 qc_12_565)).trans <| (j_lleB (t := 344) q_244_330 q_244_331 rfl wl_100000).trans (js_ite (rfl) (rfl))))))
theorem b_244_334 {E : js_E} {d : Nat} {σ : js_S} {x1 x2 : Int} : js_J E d 244 334 [(2, 83), (0, x1), (1, x2), (9, 0), (9, 0)] [] σ = js_J E d 244 341 [(2, 83), (0, x1), (1, x2), (9, 0), (9, 0)] [(0, σ 83 4), (0, 11), (2, 83)] σ :=
  (j_aload_n q_244_334 rfl).trans <| (j_bi q_244_335 rfl).trans <| (j_aload_n q_244_337 rfl).trans <| (j_get (ji := 4) (v := (0, σ 83 4)) q_244_338 (js_Fo qy_244 qf_12_19) js_o83 rfl rfl rfl rfl).trans <| rfl
theorem k_244_341 {E : js_E} {d : Nat} {σ σ2 : js_S} {x1 x2 z1 z2 : Int} (hd : 1 ≤ d) (hz : js_J E (d - 1) 199 0 [(2, 83), (0, z1), (0, z2)] [] σ = js_r0 E σ2) : js_J E d 244 341 [(2, 83), (0, x1), (1, x2), (9, 0), (9, 0)] [(0, z2), (0, z1), (2, 83)] σ = js_J E d 244 344 [(2, 83), (0, x1), (1, x2), (9, 0), (9, 0)] [] σ2 :=
  j_call0 (m := 0) (js_caV q_244_341 (js_Mo qy_244 qm_12_65)) (js_agV (av := [(0, z1), (0, z2)]) (st := []) rfl rfl js_o83 rfl) rfl rfl (by rw [ql_199]; exact Nat.le_of_ble_eq_true rfl) (Nat.le_of_ble_eq_true rfl) hd hz
theorem b_244_344 {E : js_E} {d : Nat} {σ : js_S} {x1 x2 : Int} (hd : 4 ≤ d) : js_J E d 244 344 [(2, 83), (0, x1), (1, x2), (9, 0), (9, 0)] [] σ = js_r0 E (js_up σ 83 51 (if js_l 2147483647 < js_l x2 then 2147483647 else x2)) :=
  (j_aload_n q_244_344 rfl).trans <| (j_lload_n q_244_345 rfl).trans <| (j_ldc2 (v := (1, 2147483647)) q_244_346 (js_Co qy_244 qc_12_569)).trans <| (j_lmin (js_clS q_244_349 (js_Mo qy_244 qm_12_234)) (Nat.le_of_ble_eq_true rfl) hd).trans <| (j_l2i q_244_352).trans <| (j_putI (ji := 51) q_244_353 (js_Fo qy_244 qf_12_449) rfl js_o83 rfl rfl rfl).trans <| j_return q_244_356 qr_244
-- 245: VitalTwinModel.placeAll (I)V
theorem b_245_0 {E : js_E} {d : Nat} {σ : js_S} {x1 : Int} : js_J E d 245 0 [(2, 83), (0, x1), (9, 0)] [] σ = js_J E d 245 2 [(2, 83), (0, x1), (0, 0)] [] σ :=
  (j_iconst q_245_0).trans <| (j_istore_n (l2 := [(2, 83), (0, x1), (0, 0)]) q_245_1 rfl (Nat.le_of_ble_eq_true rfl)).trans <| rfl
theorem b_245_2 {E : js_E} {d : Nat} {σ : js_S} {x1 x2 : Int} : js_J E d 245 2 [(2, 83), (0, x1), (0, x2)] [] σ = (if js_w x2 < js_w (σ 83 11) then (if 0 ≤ js_w x2 ∧ js_w x2 < 400 then (if js_w (σ 86 (js_w x2)) < 5 then js_J E d 245 69 [(2, 83), (0, x1), (0, x2)] [] σ else (if 7 < js_w (σ 86 (js_w x2)) then js_J E d 245 69 [(2, 83), (0, x1), (0, x2)] [] σ else (if js_w (σ 93 (js_w x2)) = js_w x1 then js_J E d 245 69 [(2, 83), (0, x1), (0, x2)] [] (js_up (js_up σ 90 (js_w x2) (σ 83 48)) 83 48 ((σ 83 48) + (σ 91 (js_w x2)))) else js_J E d 245 69 [(2, 83), (0, x1), (0, x2)] [] σ))) else none) else js_r0 E (js_up (js_up σ 83 53 (σ 83 48)) 83 54 0)) :=
  (j_iload_n q_245_2 rfl).trans <| (j_aload_n q_245_3 rfl).trans <| (j_get (ji := 11) (v := (0, σ 83 11)) q_245_4 (js_Fo qy_245 qf_12_86) js_o83 rfl rfl rfl rfl).trans <| (j_cmpge (t := 75) q_245_7 rfl).trans (js_ite ((j_aload_n q_245_10 rfl).trans <| (j_get (ji := 12) (v := (2, 86)) q_245_11 (js_Fo qy_245 qf_12_99) js_o83 rfl rfl rfl rfl).trans <| (j_iload_n q_245_14 rfl).trans <| (j_iaload q_245_15 js_o86).trans <| js_itp fun g0 => (j_iconst q_245_16).trans <| (j_cmpltB (t := 69) q_245_17 rfl ww_5).trans (js_ite (rfl) ((j_aload_n q_245_20 rfl).trans <| (j_get (ji := 12) (v := (2, 86)) q_245_21 (js_Fo qy_245 qf_12_99) js_o83 rfl rfl rfl rfl).trans <| (j_iload_n q_245_24 rfl).trans <| (j_iaload q_245_25 js_o86).trans <| (if_pos g0).trans <| (j_bi q_245_26 rfl).trans <| (j_cmpgtB (t := 69) q_245_28 rfl ww_7).trans (js_ite (rfl) ((j_aload_n q_245_31 rfl).trans <| (j_get (ji := 19) (v := (2, 93)) q_245_32 (js_Fo qy_245 qf_12_120) js_o83 rfl rfl rfl rfl).trans <| (j_iload_n q_245_35 rfl).trans <| (j_iaload q_245_36 js_o93).trans <| (if_pos g0).trans <| (j_iload_n q_245_37 rfl).trans <| (j_cmpeq (t := 44) q_245_38 rfl).trans (js_ite ((j_aload_n q_245_44 rfl).trans <| (j_get (ji := 16) (v := (2, 90)) q_245_45 (js_Fo qy_245 qf_12_111) js_o83 rfl rfl rfl rfl).trans <| (j_iload_n q_245_48 rfl).trans <| (j_aload_n q_245_49 rfl).trans <| (j_get (ji := 48) (v := (0, σ 83 48)) q_245_50 (js_Fo qy_245 qf_12_437) js_o83 rfl rfl rfl rfl).trans <| (j_iastore q_245_53 js_o90).trans <| (if_pos g0).trans <| (j_aload_n q_245_54 rfl).trans <| (j_dupr q_245_55).trans <| (j_get (ji := 48) (v := (0, σ 83 48)) q_245_56 (js_Fo qy_245 qf_12_437) js_o83 rfl rfl rfl (congrArg (Prod.mk 0) ((js_up_na _ (by decide))))).trans <| (j_aload_n q_245_59 rfl).trans <| (j_get (ji := 17) (v := (2, 91)) q_245_60 (js_Fo qy_245 qf_12_114) js_o83 rfl rfl rfl rfl).trans <| (j_iload_n q_245_63 rfl).trans <| (j_ialoadv q_245_64 js_o91 ((js_up_na _ (by decide)))).trans <| (if_pos g0).trans <| (j_iadd q_245_65).trans <| (j_putI (ji := 48) q_245_66 (js_Fo qy_245 qf_12_437) rfl js_o83 rfl rfl rfl).trans <| rfl) ((j_goto (t := 69) q_245_41 rfl).trans <| rfl))))))) ((j_aload_n q_245_75 rfl).trans <| (j_aload_n q_245_76 rfl).trans <| (j_get (ji := 48) (v := (0, σ 83 48)) q_245_77 (js_Fo qy_245 qf_12_437) js_o83 rfl rfl rfl rfl).trans <| (j_putI (ji := 53) q_245_80 (js_Fo qy_245 qf_12_490) rfl js_o83 rfl rfl rfl).trans <| (j_aload_n q_245_83 rfl).trans <| (j_iconst q_245_84).trans <| (j_putI (ji := 54) q_245_85 (js_Fo qy_245 qf_12_487) rfl js_o83 rfl rfl rfl).trans <| j_return q_245_88 qr_245))
theorem b_245_69 {E : js_E} {d : Nat} {σ : js_S} {x1 x2 : Int} : js_J E d 245 69 [(2, 83), (0, x1), (0, x2)] [] σ = js_J E d 245 2 [(2, 83), (0, x1), (0, x2 + 1)] [] σ :=
  (j_iinc (l2 := [(2, 83), (0, x1), (0, x2 + 1)]) q_245_69 rfl rfl).trans <| (j_goto (t := 2) q_245_72 rfl).trans <| rfl
-- 246: VitalTwinModel.genList (II)J
theorem b_246_0 {E : js_E} {d : Nat} {σ : js_S} {x1 x2 : Int} : js_J E d 246 0 [(2, 83), (0, x1), (0, x2), (9, 0), (9, 0), (9, 0)] [] σ = js_J E d 246 5 [(2, 83), (0, x1), (0, x2), (1, 0), (9, 0), (0, x1)] [] σ :=
  (j_lconst0 q_246_0).trans <| (j_lstore_n (l2 := [(2, 83), (0, x1), (0, x2), (1, 0), (9, 0), (9, 0)]) q_246_1 rfl (Nat.le_of_ble_eq_true rfl)).trans <| (j_iload_n q_246_2 rfl).trans <| (j_istore (l2 := [(2, 83), (0, x1), (0, x2), (1, 0), (9, 0), (0, x1)]) q_246_3 rfl (Nat.le_of_ble_eq_true rfl)).trans <| rfl
theorem b_246_5 {E : js_E} {d : Nat} {σ : js_S} {x1 x2 x3 x5 : Int} : js_J E d 246 5 [(2, 83), (0, x1), (0, x2), (1, x3), (9, 0), (0, x5)] [] σ = (if js_w x5 < 0 then js_r E (1, x3) σ else js_J E d 246 15 [(2, 83), (0, x1), (0, x2), (1, x3), (9, 0), (0, x5)] [(0, x2), (0, x5), (2, 83), (1, x3)] σ) :=
  (j_iload q_246_5 rfl).trans <| (j_iflt (t := 35) q_246_7 rfl).trans (js_ite ((j_lload_n q_246_35 rfl).trans <| j_lreturn q_246_36 qr_246) ((j_lload_n q_246_10 rfl).trans <| (j_aload_n q_246_11 rfl).trans <| (j_iload q_246_12 rfl).trans <| (j_iload_n q_246_14 rfl).trans <| rfl))
theorem k_246_15 {E : js_E} {d : Nat} {σ σ2 : js_S} {x1 x2 x3 x5 z0 z2 z3 : Int} {v : Int} (hd : 1 ≤ d) (hz : js_J E (d - 1) 247 0 [(2, 83), (0, z2), (0, z3), (9, 0), (9, 0), (9, 0), (9, 0)] [] σ = js_r E (1, v) σ2) : js_J E d 246 15 [(2, 83), (0, x1), (0, x2), (1, x3), (9, 0), (0, x5)] [(0, z3), (0, z2), (2, 83), (1, z0)] σ = js_J E d 246 18 [(2, 83), (0, x1), (0, x2), (1, x3), (9, 0), (0, x5)] [(1, v), (1, z0)] σ2 :=
  j_call (m := 4) (js_caV q_246_15 (js_Mo qy_246 qm_12_530)) (js_agV (av := [(0, z2), (0, z3)]) (st := [(1, z0)]) rfl rfl js_o83 rfl) rfl rfl (by rw [ql_247]; exact Nat.le_of_ble_eq_true rfl) (Nat.le_of_ble_eq_true rfl) hd hz
theorem b_246_18 {E : js_E} {d : Nat} {σ : js_S} {x1 x2 x3 x5 z0 z1 : Int} : js_J E d 246 18 [(2, 83), (0, x1), (0, x2), (1, x3), (9, 0), (0, x5)] [(1, z1), (1, z0)] σ = js_J E d 246 19 [(2, 83), (0, x1), (0, x2), (1, x3), (9, 0), (0, x5)] [(1, z0 + z1)] σ :=
  (j_ladd q_246_18).trans <| rfl
theorem k_246_19 {E : js_E} {d : Nat} {σ σ2 : js_S} {x1 x2 x3 x5 z0 : Int} {v : Int} (hd : 1 ≤ d) (hz : js_J E (d - 1) 253 0 [(1, z0), (9, 0)] [] σ = js_r E (1, v) σ2) : js_J E d 246 19 [(2, 83), (0, x1), (0, x2), (1, x3), (9, 0), (0, x5)] [(1, z0)] σ = js_J E d 246 22 [(2, 83), (0, x1), (0, x2), (1, x3), (9, 0), (0, x5)] [(1, v)] σ2 :=
  j_call (m := 0) (js_caS q_246_19 (js_Mo qy_246 qm_12_520)) (js_agS (av := [(1, z0)]) (st := []) rfl rfl) rfl rfl (by rw [ql_253]; exact Nat.le_of_ble_eq_true rfl) (Nat.le_of_ble_eq_true rfl) hd hz
theorem b_246_22 {E : js_E} {d : Nat} {σ : js_S} {x1 x2 x3 x5 z0 : Int} : js_J E d 246 22 [(2, 83), (0, x1), (0, x2), (1, x3), (9, 0), (0, x5)] [(1, z0)] σ = (if 0 ≤ js_w x5 ∧ js_w x5 < 66000 then js_J E d 246 5 [(2, 83), (0, x1), (0, x2), (1, z0), (9, 0), (0, σ 107 (js_w x5))] [] σ else none) :=
  (j_lstore_n (l2 := [(2, 83), (0, x1), (0, x2), (1, z0), (9, 0), (0, x5)]) q_246_22 rfl (Nat.le_of_ble_eq_true rfl)).trans <| (j_aload_n q_246_23 rfl).trans <| (j_get (ji := 41) (v := (2, 107)) q_246_24 (js_Fo qy_246 qf_12_190) js_o83 rfl rfl rfl rfl).trans <| (j_iload q_246_27 rfl).trans <| (j_iaload q_246_29 js_o107).trans <| js_itp fun g0 => (j_istore (l2 := [(2, 83), (0, x1), (0, x2), (1, z0), (9, 0), (0, σ 107 (js_w x5))]) q_246_30 rfl (Nat.le_of_ble_eq_true rfl)).trans <| (j_goto (t := 5) q_246_32 rfl).trans <| rfl
