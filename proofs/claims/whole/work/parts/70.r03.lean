/-! part 70.r03: block equations of the reference's methods 213 to 224 (printed by wip/whole/tools/gen71.py) -/
theorem qy_214 : vt_O 214 = 12 := by decide +kernel
theorem qr_214 : vt_rc.getD 214 0 = 1 := by decide +kernel
theorem ql_214 : vt_ml.getD 214 0 = 3 := by decide +kernel
theorem qy_237 : vt_O 237 = 12 := by decide +kernel
theorem qr_237 : vt_rc.getD 237 0 = 1 := by decide +kernel
theorem ql_237 : vt_ml.getD 237 0 = 3 := by decide +kernel
theorem qy_217 : vt_O 217 = 12 := by decide +kernel
theorem qr_217 : vt_rc.getD 217 0 = 1 := by decide +kernel
theorem ql_217 : vt_ml.getD 217 0 = 11 := by decide +kernel
theorem qy_238 : vt_O 238 = 12 := by decide +kernel
theorem qr_238 : vt_rc.getD 238 0 = 1 := by decide +kernel
theorem ql_238 : vt_ml.getD 238 0 = 9 := by decide +kernel
theorem qy_241 : vt_O 241 = 12 := by decide +kernel
theorem qr_241 : vt_rc.getD 241 0 = 1 := by decide +kernel
theorem ql_241 : vt_ml.getD 241 0 = 6 := by decide +kernel
theorem qy_242 : vt_O 242 = 12 := by decide +kernel
theorem qr_242 : vt_rc.getD 242 0 = 1 := by decide +kernel
theorem ql_242 : vt_ml.getD 242 0 = 5 := by decide +kernel
theorem qy_243 : vt_O 243 = 12 := by decide +kernel
theorem qr_243 : vt_rc.getD 243 0 = 1 := by decide +kernel
theorem ql_243 : vt_ml.getD 243 0 = 7 := by decide +kernel
theorem qy_219 : vt_O 219 = 12 := by decide +kernel
theorem qr_219 : vt_rc.getD 219 0 = 1 := by decide +kernel
theorem ql_219 : vt_ml.getD 219 0 = 5 := by decide +kernel
theorem qy_220 : vt_O 220 = 12 := by decide +kernel
theorem qr_220 : vt_rc.getD 220 0 = 1 := by decide +kernel
theorem ql_220 : vt_ml.getD 220 0 = 3 := by decide +kernel
theorem qy_221 : vt_O 221 = 12 := by decide +kernel
theorem qr_221 : vt_rc.getD 221 0 = 1 := by decide +kernel
theorem ql_221 : vt_ml.getD 221 0 = 3 := by decide +kernel
theorem qy_236 : vt_O 236 = 12 := by decide +kernel
theorem qr_236 : vt_rc.getD 236 0 = 1 := by decide +kernel
theorem ql_236 : vt_ml.getD 236 0 = 5 := by decide +kernel
theorem qy_222 : vt_O 222 = 12 := by decide +kernel
theorem qr_222 : vt_rc.getD 222 0 = 1 := by decide +kernel
theorem ql_222 : vt_ml.getD 222 0 = 5 := by decide +kernel
theorem qy_223 : vt_O 223 = 12 := by decide +kernel
theorem qr_223 : vt_rc.getD 223 0 = 1 := by decide +kernel
theorem ql_223 : vt_ml.getD 223 0 = 4 := by decide +kernel
theorem qy_224 : vt_O 224 = 12 := by decide +kernel
theorem qr_224 : vt_rc.getD 224 0 = 1 := by decide +kernel
theorem ql_224 : vt_ml.getD 224 0 = 4 := by decide +kernel
theorem qy_234 : vt_O 234 = 12 := by decide +kernel
theorem qr_234 : vt_rc.getD 234 0 = 1 := by decide +kernel
theorem ql_234 : vt_ml.getD 234 0 = 15 := by decide +kernel
theorem qy_225 : vt_O 225 = 12 := by decide +kernel
theorem qr_225 : vt_rc.getD 225 0 = 1 := by decide +kernel
theorem ql_225 : vt_ml.getD 225 0 = 4 := by decide +kernel
theorem q_213_0 : js_I 213 0 = some (.aload_n 0, 1) := by decide +kernel
theorem q_213_1 : js_I 213 1 = some (.getfield 25, 3) := by decide +kernel
theorem q_213_4 : js_I 213 4 = some (.lookupswitch 113 #[(2, 108), (305, 60), (307, 98), (309, 93), (310, 103), (312, 65)], 60) := by decide +kernel
theorem q_213_64 : js_I 213 64 = some (.aload_n 0, 1) := by decide +kernel
theorem q_213_65 : js_I 213 65 = some (.invokevirtual 296, 3) := by decide +kernel
theorem q_213_68 : js_I 213 68 = some (.ireturn, 1) := by decide +kernel
theorem q_213_69 : js_I 213 69 = some (.aload_n 0, 1) := by decide +kernel
theorem q_213_70 : js_I 213 70 = some (.invokevirtual 68, 3) := by decide +kernel
theorem q_213_73 : js_I 213 73 = some (.aload_n 0, 1) := by decide +kernel
theorem q_213_74 : js_I 213 74 = some (.invokevirtual 299, 3) := by decide +kernel
theorem q_213_77 : js_I 213 77 = some (.istore_n 1, 1) := by decide +kernel
theorem q_213_78 : js_I 213 78 = some (.aload_n 0, 1) := by decide +kernel
theorem q_213_79 : js_I 213 79 = some (.bipush 59, 2) := by decide +kernel
theorem q_213_81 : js_I 213 81 = some (.invokevirtual 75, 3) := by decide +kernel
theorem q_213_84 : js_I 213 84 = some (.aload_n 0, 1) := by decide +kernel
theorem q_213_85 : js_I 213 85 = some (.bipush 23, 2) := by decide +kernel
theorem q_213_87 : js_I 213 87 = some (.iconst 0, 1) := by decide +kernel
theorem q_213_88 : js_I 213 88 = some (.lconst 0, 1) := by decide +kernel
theorem q_213_89 : js_I 213 89 = some (.lconst 0, 1) := by decide +kernel
theorem q_213_90 : js_I 213 90 = some (.iload_n 1, 1) := by decide +kernel
theorem q_213_91 : js_I 213 91 = some (.iconst 0, 1) := by decide +kernel
theorem q_213_92 : js_I 213 92 = some (.iconst 0, 1) := by decide +kernel
theorem q_213_93 : js_I 213 93 = some (.invokevirtual 208, 3) := by decide +kernel
theorem q_213_96 : js_I 213 96 = some (.ireturn, 1) := by decide +kernel
theorem q_213_97 : js_I 213 97 = some (.aload_n 0, 1) := by decide +kernel
theorem q_213_98 : js_I 213 98 = some (.invokevirtual 302, 3) := by decide +kernel
theorem q_213_101 : js_I 213 101 = some (.ireturn, 1) := by decide +kernel
theorem q_213_102 : js_I 213 102 = some (.aload_n 0, 1) := by decide +kernel
theorem q_213_103 : js_I 213 103 = some (.invokevirtual 305, 3) := by decide +kernel
theorem q_213_106 : js_I 213 106 = some (.ireturn, 1) := by decide +kernel
theorem q_213_107 : js_I 213 107 = some (.aload_n 0, 1) := by decide +kernel
theorem q_213_108 : js_I 213 108 = some (.invokevirtual 308, 3) := by decide +kernel
theorem q_213_111 : js_I 213 111 = some (.ireturn, 1) := by decide +kernel
theorem q_213_112 : js_I 213 112 = some (.aload_n 0, 1) := by decide +kernel
theorem q_213_113 : js_I 213 113 = some (.invokevirtual 311, 3) := by decide +kernel
theorem q_213_116 : js_I 213 116 = some (.ireturn, 1) := by decide +kernel
theorem q_213_117 : js_I 213 117 = some (.aload_n 0, 1) := by decide +kernel
theorem q_213_118 : js_I 213 118 = some (.iconst 1, 1) := by decide +kernel
theorem q_213_119 : js_I 213 119 = some (.aload_n 0, 1) := by decide +kernel
theorem q_213_120 : js_I 213 120 = some (.getfield 35, 3) := by decide +kernel
theorem q_213_123 : js_I 213 123 = some (.invokevirtual 65, 3) := by decide +kernel
theorem q_213_126 : js_I 213 126 = some (.iconst (-1), 1) := by decide +kernel
theorem q_213_127 : js_I 213 127 = some (.ireturn, 1) := by decide +kernel
theorem q_214_0 : js_I 214 0 = some (.aload_n 0, 1) := by decide +kernel
theorem q_214_1 : js_I 214 1 = some (.invokevirtual 68, 3) := by decide +kernel
theorem q_214_4 : js_I 214 4 = some (.aload_n 0, 1) := by decide +kernel
theorem q_214_5 : js_I 214 5 = some (.bipush 6, 2) := by decide +kernel
theorem q_214_7 : js_I 214 7 = some (.iconst (-1), 1) := by decide +kernel
theorem q_214_8 : js_I 214 8 = some (.invokevirtual 314, 3) := by decide +kernel
theorem q_214_11 : js_I 214 11 = some (.istore_n 1, 1) := by decide +kernel
theorem q_214_12 : js_I 214 12 = some (.aload_n 0, 1) := by decide +kernel
theorem q_214_13 : js_I 214 13 = some (.iload_n 1, 1) := by decide +kernel
theorem q_214_14 : js_I 214 14 = some (.invokevirtual 317, 3) := by decide +kernel
theorem q_214_17 : js_I 214 17 = some (.aload_n 0, 1) := by decide +kernel
theorem q_214_18 : js_I 214 18 = some (.bipush 58, 2) := by decide +kernel
theorem q_214_20 : js_I 214 20 = some (.invokevirtual 75, 3) := by decide +kernel
theorem q_214_23 : js_I 214 23 = some (.aload_n 0, 1) := by decide +kernel
theorem q_214_24 : js_I 214 24 = some (.invokevirtual 320, 3) := by decide +kernel
theorem q_214_27 : js_I 214 27 = some (.aload_n 0, 1) := by decide +kernel
theorem q_214_28 : js_I 214 28 = some (.bipush 61, 2) := by decide +kernel
theorem q_214_30 : js_I 214 30 = some (.invokevirtual 75, 3) := by decide +kernel
theorem q_214_33 : js_I 214 33 = some (.aload_n 0, 1) := by decide +kernel
theorem q_214_34 : js_I 214 34 = some (.getfield 22, 3) := by decide +kernel
theorem q_214_37 : js_I 214 37 = some (.ifCond .le 5, 3) := by decide +kernel
theorem q_214_40 : js_I 214 40 = some (.iconst (-1), 1) := by decide +kernel
theorem q_214_41 : js_I 214 41 = some (.ireturn, 1) := by decide +kernel
theorem q_214_42 : js_I 214 42 = some (.aload_n 0, 1) := by decide +kernel
theorem q_214_43 : js_I 214 43 = some (.iload_n 1, 1) := by decide +kernel
theorem q_214_44 : js_I 214 44 = some (.invokevirtual 323, 3) := by decide +kernel
theorem q_214_47 : js_I 214 47 = some (.aload_n 0, 1) := by decide +kernel
theorem q_214_48 : js_I 214 48 = some (.getfield 117, 3) := by decide +kernel
theorem q_214_51 : js_I 214 51 = some (.iload_n 1, 1) := by decide +kernel
theorem q_214_52 : js_I 214 52 = some (.baload, 1) := by decide +kernel
theorem q_214_53 : js_I 214 53 = some (.ifCond .eq 42, 3) := by decide +kernel
theorem q_214_95 : js_I 214 95 = some (.aload_n 0, 1) := by decide +kernel
theorem q_214_96 : js_I 214 96 = some (.bipush 20, 2) := by decide +kernel
theorem q_214_98 : js_I 214 98 = some (.iconst 0, 1) := by decide +kernel
theorem q_214_99 : js_I 214 99 = some (.lconst 0, 1) := by decide +kernel
theorem q_214_100 : js_I 214 100 = some (.lconst 0, 1) := by decide +kernel
theorem q_214_101 : js_I 214 101 = some (.iload_n 1, 1) := by decide +kernel
theorem q_214_102 : js_I 214 102 = some (.aload_n 0, 1) := by decide +kernel
theorem q_214_103 : js_I 214 103 = some (.aload_n 0, 1) := by decide +kernel
theorem q_214_104 : js_I 214 104 = some (.getfield 147, 3) := by decide +kernel
theorem q_214_107 : js_I 214 107 = some (.aload_n 0, 1) := by decide +kernel
theorem q_214_108 : js_I 214 108 = some (.getfield 150, 3) := by decide +kernel
theorem q_214_111 : js_I 214 111 = some (.i2l, 1) := by decide +kernel
theorem q_214_112 : js_I 214 112 = some (.aload_n 0, 1) := by decide +kernel
theorem q_214_113 : js_I 214 113 = some (.getfield 153, 3) := by decide +kernel
theorem q_214_116 : js_I 214 116 = some (.i2l, 1) := by decide +kernel
theorem q_214_117 : js_I 214 117 = some (.invokevirtual 280, 3) := by decide +kernel
theorem q_214_56 : js_I 214 56 = some (.aload_n 0, 1) := by decide +kernel
theorem q_214_57 : js_I 214 57 = some (.invokevirtual 144, 3) := by decide +kernel
theorem q_214_60 : js_I 214 60 = some (.aload_n 0, 1) := by decide +kernel
theorem q_214_61 : js_I 214 61 = some (.iload_n 1, 1) := by decide +kernel
theorem q_214_62 : js_I 214 62 = some (.invokevirtual 326, 3) := by decide +kernel
theorem q_214_65 : js_I 214 65 = some (.aload_n 0, 1) := by decide +kernel
theorem q_214_66 : js_I 214 66 = some (.invokevirtual 68, 3) := by decide +kernel
theorem q_214_69 : js_I 214 69 = some (.aload_n 0, 1) := by decide +kernel
theorem q_214_70 : js_I 214 70 = some (.getfield 126, 3) := by decide +kernel
theorem q_214_73 : js_I 214 73 = some (.iload_n 1, 1) := by decide +kernel
theorem q_214_74 : js_I 214 74 = some (.iconst 0, 1) := by decide +kernel
theorem q_214_75 : js_I 214 75 = some (.iastore, 1) := by decide +kernel
theorem q_214_76 : js_I 214 76 = some (.aload_n 0, 1) := by decide +kernel
theorem q_214_77 : js_I 214 77 = some (.bipush 22, 2) := by decide +kernel
theorem q_214_79 : js_I 214 79 = some (.iconst 0, 1) := by decide +kernel
theorem q_214_80 : js_I 214 80 = some (.lconst 0, 1) := by decide +kernel
theorem q_214_81 : js_I 214 81 = some (.lconst 0, 1) := by decide +kernel
theorem q_214_82 : js_I 214 82 = some (.iload_n 1, 1) := by decide +kernel
theorem q_214_83 : js_I 214 83 = some (.aload_n 0, 1) := by decide +kernel
theorem q_214_84 : js_I 214 84 = some (.getfield 141, 3) := by decide +kernel
theorem q_214_87 : js_I 214 87 = some (.iconst 0, 1) := by decide +kernel
theorem q_214_88 : js_I 214 88 = some (.invokevirtual 208, 3) := by decide +kernel
theorem q_214_91 : js_I 214 91 = some (.istore_n 2, 1) := by decide +kernel
theorem q_214_92 : js_I 214 92 = some (.goto 33, 3) := by decide +kernel
theorem q_214_120 : js_I 214 120 = some (.iconst 0, 1) := by decide +kernel
theorem q_214_121 : js_I 214 121 = some (.invokevirtual 208, 3) := by decide +kernel
theorem q_214_124 : js_I 214 124 = some (.istore_n 2, 1) := by decide +kernel
theorem q_214_125 : js_I 214 125 = some (.aload_n 0, 1) := by decide +kernel
theorem q_214_126 : js_I 214 126 = some (.bipush 59, 2) := by decide +kernel
theorem q_214_128 : js_I 214 128 = some (.invokevirtual 75, 3) := by decide +kernel
theorem q_214_131 : js_I 214 131 = some (.aload_n 0, 1) := by decide +kernel
theorem q_214_132 : js_I 214 132 = some (.getfield 22, 3) := by decide +kernel
theorem q_214_135 : js_I 214 135 = some (.ifCond .ne 10, 3) := by decide +kernel
theorem q_214_138 : js_I 214 138 = some (.aload_n 0, 1) := by decide +kernel
theorem q_214_139 : js_I 214 139 = some (.getfield 89, 3) := by decide +kernel
theorem q_214_142 : js_I 214 142 = some (.iload_n 1, 1) := by decide +kernel
theorem q_214_143 : js_I 214 143 = some (.iconst 1, 1) := by decide +kernel
theorem q_214_144 : js_I 214 144 = some (.bastore, 1) := by decide +kernel
theorem q_214_145 : js_I 214 145 = some (.iload_n 2, 1) := by decide +kernel
theorem q_214_146 : js_I 214 146 = some (.ireturn, 1) := by decide +kernel
theorem q_215_0 : js_I 215 0 = some (.aload_n 0, 1) := by decide +kernel
theorem q_215_1 : js_I 215 1 = some (.getfield 25, 3) := by decide +kernel
theorem q_215_4 : js_I 215 4 = some (.bipush 91, 2) := by decide +kernel
theorem q_215_6 : js_I 215 6 = some (.if_icmp .eq 4, 3) := by decide +kernel
theorem q_215_10 : js_I 215 10 = some (.aload_n 0, 1) := by decide +kernel
theorem q_215_11 : js_I 215 11 = some (.bipush 91, 2) := by decide +kernel
theorem q_215_13 : js_I 215 13 = some (.invokevirtual 159, 3) := by decide +kernel
theorem q_215_9 : js_I 215 9 = some (.return_, 1) := by decide +kernel
theorem q_215_16 : js_I 215 16 = some (.aload_n 0, 1) := by decide +kernel
theorem q_215_17 : js_I 215 17 = some (.iconst 0, 1) := by decide +kernel
theorem q_215_18 : js_I 215 18 = some (.invokevirtual 156, 3) := by decide +kernel
theorem q_215_21 : js_I 215 21 = some (.aload_n 0, 1) := by decide +kernel
theorem q_215_22 : js_I 215 22 = some (.getfield 22, 3) := by decide +kernel
theorem q_215_25 : js_I 215 25 = some (.ifCond .ne 30, 3) := by decide +kernel
theorem q_215_28 : js_I 215 28 = some (.aload_n 0, 1) := by decide +kernel
theorem q_215_29 : js_I 215 29 = some (.getfield 141, 3) := by decide +kernel
theorem q_215_32 : js_I 215 32 = some (.iconst 1, 1) := by decide +kernel
theorem q_215_33 : js_I 215 33 = some (.if_icmp .lt 13, 3) := by decide +kernel
theorem q_215_36 : js_I 215 36 = some (.aload_n 0, 1) := by decide +kernel
theorem q_215_37 : js_I 215 37 = some (.getfield 141, 3) := by decide +kernel
theorem q_215_40 : js_I 215 40 = some (.sipush 4096, 3) := by decide +kernel
theorem q_215_43 : js_I 215 43 = some (.if_icmp .le 12, 3) := by decide +kernel
theorem q_215_46 : js_I 215 46 = some (.aload_n 0, 1) := by decide +kernel
theorem q_215_47 : js_I 215 47 = some (.iconst 4, 1) := by decide +kernel
theorem q_215_48 : js_I 215 48 = some (.aload_n 0, 1) := by decide +kernel
theorem q_215_49 : js_I 215 49 = some (.getfield 135, 3) := by decide +kernel
theorem q_215_52 : js_I 215 52 = some (.invokevirtual 65, 3) := by decide +kernel
theorem q_215_55 : js_I 215 55 = some (.aload_n 0, 1) := by decide +kernel
theorem q_215_56 : js_I 215 56 = some (.invokevirtual 68, 3) := by decide +kernel
theorem q_215_59 : js_I 215 59 = some (.aload_n 0, 1) := by decide +kernel
theorem q_215_60 : js_I 215 60 = some (.bipush 93, 2) := by decide +kernel
theorem q_215_62 : js_I 215 62 = some (.invokevirtual 162, 3) := by decide +kernel
theorem q_215_65 : js_I 215 65 = some (.aload_n 0, 1) := by decide +kernel
theorem q_215_66 : js_I 215 66 = some (.getfield 117, 3) := by decide +kernel
theorem q_215_69 : js_I 215 69 = some (.iload_n 1, 1) := by decide +kernel
theorem q_215_70 : js_I 215 70 = some (.iconst 1, 1) := by decide +kernel
theorem q_215_71 : js_I 215 71 = some (.bastore, 1) := by decide +kernel
theorem q_215_72 : js_I 215 72 = some (.aload_n 0, 1) := by decide +kernel
theorem q_215_73 : js_I 215 73 = some (.getfield 114, 3) := by decide +kernel
theorem q_215_76 : js_I 215 76 = some (.iload_n 1, 1) := by decide +kernel
theorem q_215_77 : js_I 215 77 = some (.aload_n 0, 1) := by decide +kernel
theorem q_215_78 : js_I 215 78 = some (.getfield 141, 3) := by decide +kernel
theorem q_215_81 : js_I 215 81 = some (.iastore, 1) := by decide +kernel
theorem q_215_82 : js_I 215 82 = some (.return_, 1) := by decide +kernel
theorem q_216_0 : js_I 216 0 = some (.aload_n 0, 1) := by decide +kernel
theorem q_216_1 : js_I 216 1 = some (.getfield 22, 3) := by decide +kernel
theorem q_216_4 : js_I 216 4 = some (.ifCond .ne 25, 3) := by decide +kernel
theorem q_216_7 : js_I 216 7 = some (.aload_n 0, 1) := by decide +kernel
theorem q_216_8 : js_I 216 8 = some (.getfield 138, 3) := by decide +kernel
theorem q_216_11 : js_I 216 11 = some (.aload_n 0, 1) := by decide +kernel
theorem q_216_12 : js_I 216 12 = some (.getfield 102, 3) := by decide +kernel
theorem q_216_15 : js_I 216 15 = some (.iload_n 1, 1) := by decide +kernel
theorem q_216_16 : js_I 216 16 = some (.iaload, 1) := by decide +kernel
theorem q_216_17 : js_I 216 17 = some (.if_icmp .eq 12, 3) := by decide +kernel
theorem q_216_20 : js_I 216 20 = some (.aload_n 0, 1) := by decide +kernel
theorem q_216_21 : js_I 216 21 = some (.iconst 5, 1) := by decide +kernel
theorem q_216_22 : js_I 216 22 = some (.aload_n 0, 1) := by decide +kernel
theorem q_216_23 : js_I 216 23 = some (.getfield 135, 3) := by decide +kernel
theorem q_216_26 : js_I 216 26 = some (.invokevirtual 65, 3) := by decide +kernel
theorem q_216_29 : js_I 216 29 = some (.aload_n 0, 1) := by decide +kernel
theorem q_216_30 : js_I 216 30 = some (.getfield 22, 3) := by decide +kernel
theorem q_216_33 : js_I 216 33 = some (.ifCond .ne 39, 3) := by decide +kernel
theorem q_216_36 : js_I 216 36 = some (.aload_n 0, 1) := by decide +kernel
theorem q_216_37 : js_I 216 37 = some (.getfield 141, 3) := by decide +kernel
theorem q_216_40 : js_I 216 40 = some (.aload_n 0, 1) := by decide +kernel
theorem q_216_41 : js_I 216 41 = some (.getfield 105, 3) := by decide +kernel
theorem q_216_44 : js_I 216 44 = some (.iload_n 1, 1) := by decide +kernel
theorem q_216_45 : js_I 216 45 = some (.iaload, 1) := by decide +kernel
theorem q_216_46 : js_I 216 46 = some (.if_icmp .lt 16, 3) := by decide +kernel
theorem q_216_49 : js_I 216 49 = some (.aload_n 0, 1) := by decide +kernel
theorem q_216_50 : js_I 216 50 = some (.getfield 141, 3) := by decide +kernel
theorem q_216_53 : js_I 216 53 = some (.aload_n 0, 1) := by decide +kernel
theorem q_216_54 : js_I 216 54 = some (.getfield 108, 3) := by decide +kernel
theorem q_216_57 : js_I 216 57 = some (.iload_n 1, 1) := by decide +kernel
theorem q_216_58 : js_I 216 58 = some (.iaload, 1) := by decide +kernel
theorem q_216_59 : js_I 216 59 = some (.if_icmp .le 13, 3) := by decide +kernel
theorem q_216_62 : js_I 216 62 = some (.aload_n 0, 1) := by decide +kernel
theorem q_216_63 : js_I 216 63 = some (.bipush 6, 2) := by decide +kernel
theorem q_216_65 : js_I 216 65 = some (.aload_n 0, 1) := by decide +kernel
theorem q_216_66 : js_I 216 66 = some (.getfield 135, 3) := by decide +kernel
theorem q_216_69 : js_I 216 69 = some (.invokevirtual 65, 3) := by decide +kernel
theorem q_216_72 : js_I 216 72 = some (.aload_n 0, 1) := by decide +kernel
theorem q_216_73 : js_I 216 73 = some (.getfield 126, 3) := by decide +kernel
theorem q_216_76 : js_I 216 76 = some (.iload_n 1, 1) := by decide +kernel
theorem q_216_77 : js_I 216 77 = some (.aload_n 0, 1) := by decide +kernel
theorem q_216_78 : js_I 216 78 = some (.getfield 141, 3) := by decide +kernel
theorem q_216_81 : js_I 216 81 = some (.iastore, 1) := by decide +kernel
theorem q_216_82 : js_I 216 82 = some (.return_, 1) := by decide +kernel
theorem q_217_0 : js_I 217 0 = some (.aload_n 0, 1) := by decide +kernel
theorem q_217_1 : js_I 217 1 = some (.getfield 22, 3) := by decide +kernel
theorem q_217_4 : js_I 217 4 = some (.ifCond .gt 12, 3) := by decide +kernel
theorem q_217_16 : js_I 217 16 = some (.iconst 0, 1) := by decide +kernel
theorem q_217_17 : js_I 217 17 = some (.ireturn, 1) := by decide +kernel
theorem q_217_7 : js_I 217 7 = some (.aload_n 0, 1) := by decide +kernel
theorem q_217_8 : js_I 217 8 = some (.getfield 165, 3) := by decide +kernel
theorem q_217_11 : js_I 217 11 = some (.ldc 168, 2) := by decide +kernel
theorem q_217_13 : js_I 217 13 = some (.if_icmp .ne 5, 3) := by decide +kernel
theorem q_217_18 : js_I 217 18 = some (.aload_n 0, 1) := by decide +kernel
theorem q_217_19 : js_I 217 19 = some (.getfield 165, 3) := by decide +kernel
theorem q_217_22 : js_I 217 22 = some (.istore 10, 2) := by decide +kernel
theorem q_217_24 : js_I 217 24 = some (.aload_n 0, 1) := by decide +kernel
theorem q_217_25 : js_I 217 25 = some (.getfield 169, 3) := by decide +kernel
theorem q_217_28 : js_I 217 28 = some (.iload 10, 2) := by decide +kernel
theorem q_217_30 : js_I 217 30 = some (.iload_n 1, 1) := by decide +kernel
theorem q_217_31 : js_I 217 31 = some (.i2b, 1) := by decide +kernel
theorem q_217_32 : js_I 217 32 = some (.bastore, 1) := by decide +kernel
theorem q_217_33 : js_I 217 33 = some (.aload_n 0, 1) := by decide +kernel
theorem q_217_34 : js_I 217 34 = some (.getfield 172, 3) := by decide +kernel
theorem q_217_37 : js_I 217 37 = some (.iload 10, 2) := by decide +kernel
theorem q_217_39 : js_I 217 39 = some (.iload_n 2, 1) := by decide +kernel
theorem q_217_40 : js_I 217 40 = some (.iastore, 1) := by decide +kernel
theorem q_217_41 : js_I 217 41 = some (.aload_n 0, 1) := by decide +kernel
theorem q_217_42 : js_I 217 42 = some (.getfield 175, 3) := by decide +kernel
theorem q_217_45 : js_I 217 45 = some (.iload 10, 2) := by decide +kernel
theorem q_217_47 : js_I 217 47 = some (.lload_n 3, 1) := by decide +kernel
theorem q_217_48 : js_I 217 48 = some (.l2i, 1) := by decide +kernel
theorem q_217_49 : js_I 217 49 = some (.iastore, 1) := by decide +kernel
theorem q_217_50 : js_I 217 50 = some (.aload_n 0, 1) := by decide +kernel
theorem q_217_51 : js_I 217 51 = some (.getfield 178, 3) := by decide +kernel
theorem q_217_54 : js_I 217 54 = some (.iload 10, 2) := by decide +kernel
theorem q_217_56 : js_I 217 56 = some (.lload 5, 2) := by decide +kernel
theorem q_217_58 : js_I 217 58 = some (.l2i, 1) := by decide +kernel
theorem q_217_59 : js_I 217 59 = some (.iastore, 1) := by decide +kernel
theorem q_217_60 : js_I 217 60 = some (.aload_n 0, 1) := by decide +kernel
theorem q_217_61 : js_I 217 61 = some (.getfield 181, 3) := by decide +kernel
theorem q_217_64 : js_I 217 64 = some (.iload 10, 2) := by decide +kernel
theorem q_217_66 : js_I 217 66 = some (.iload 7, 2) := by decide +kernel
theorem q_217_68 : js_I 217 68 = some (.iastore, 1) := by decide +kernel
theorem q_217_69 : js_I 217 69 = some (.aload_n 0, 1) := by decide +kernel
theorem q_217_70 : js_I 217 70 = some (.getfield 184, 3) := by decide +kernel
theorem q_217_73 : js_I 217 73 = some (.iload 10, 2) := by decide +kernel
theorem q_217_75 : js_I 217 75 = some (.iload 8, 2) := by decide +kernel
theorem q_217_77 : js_I 217 77 = some (.iastore, 1) := by decide +kernel
theorem q_217_78 : js_I 217 78 = some (.aload_n 0, 1) := by decide +kernel
theorem q_217_79 : js_I 217 79 = some (.getfield 187, 3) := by decide +kernel
theorem q_217_82 : js_I 217 82 = some (.iload 10, 2) := by decide +kernel
theorem q_217_84 : js_I 217 84 = some (.iload 9, 2) := by decide +kernel
theorem q_217_86 : js_I 217 86 = some (.iastore, 1) := by decide +kernel
theorem q_217_87 : js_I 217 87 = some (.aload_n 0, 1) := by decide +kernel
theorem q_217_88 : js_I 217 88 = some (.getfield 190, 3) := by decide +kernel
theorem q_217_91 : js_I 217 91 = some (.iload 10, 2) := by decide +kernel
theorem q_217_93 : js_I 217 93 = some (.iconst (-1), 1) := by decide +kernel
theorem q_217_94 : js_I 217 94 = some (.iastore, 1) := by decide +kernel
theorem q_217_95 : js_I 217 95 = some (.aload_n 0, 1) := by decide +kernel
theorem q_217_96 : js_I 217 96 = some (.dup, 1) := by decide +kernel
theorem q_217_97 : js_I 217 97 = some (.getfield 165, 3) := by decide +kernel
theorem q_217_100 : js_I 217 100 = some (.iconst 1, 1) := by decide +kernel
theorem q_217_101 : js_I 217 101 = some (.iadd, 1) := by decide +kernel
theorem q_217_102 : js_I 217 102 = some (.putfield 165, 3) := by decide +kernel
theorem q_217_105 : js_I 217 105 = some (.iload 10, 2) := by decide +kernel
theorem q_217_107 : js_I 217 107 = some (.ireturn, 1) := by decide +kernel
theorem q_218_0 : js_I 218 0 = some (.aload_n 0, 1) := by decide +kernel
theorem q_218_1 : js_I 218 1 = some (.getfield 35, 3) := by decide +kernel
theorem q_218_4 : js_I 218 4 = some (.istore 6, 2) := by decide +kernel
theorem q_218_6 : js_I 218 6 = some (.aload_n 0, 1) := by decide +kernel
theorem q_218_7 : js_I 218 7 = some (.invokevirtual 193, 3) := by decide +kernel
theorem q_218_10 : js_I 218 10 = some (.istore 7, 2) := by decide +kernel
theorem q_218_12 : js_I 218 12 = some (.aload_n 0, 1) := by decide +kernel
theorem q_218_13 : js_I 218 13 = some (.getfield 22, 3) := by decide +kernel
theorem q_218_16 : js_I 218 16 = some (.ifCond .le 5, 3) := by decide +kernel
theorem q_218_19 : js_I 218 19 = some (.iconst 0, 1) := by decide +kernel
theorem q_218_20 : js_I 218 20 = some (.ireturn, 1) := by decide +kernel
theorem q_218_21 : js_I 218 21 = some (.aload_n 0, 1) := by decide +kernel
theorem q_218_22 : js_I 218 22 = some (.getfield 172, 3) := by decide +kernel
theorem q_218_25 : js_I 218 25 = some (.iload 7, 2) := by decide +kernel
theorem q_218_27 : js_I 218 27 = some (.iaload, 1) := by decide +kernel
theorem q_218_28 : js_I 218 28 = some (.iload_n 1, 1) := by decide +kernel
theorem q_218_29 : js_I 218 29 = some (.if_icmp .eq 13, 3) := by decide +kernel
theorem q_218_42 : js_I 218 42 = some (.aload_n 0, 1) := by decide +kernel
theorem q_218_43 : js_I 218 43 = some (.getfield 175, 3) := by decide +kernel
theorem q_218_46 : js_I 218 46 = some (.iload 7, 2) := by decide +kernel
theorem q_218_48 : js_I 218 48 = some (.iaload, 1) := by decide +kernel
theorem q_218_49 : js_I 218 49 = some (.i2l, 1) := by decide +kernel
theorem q_218_50 : js_I 218 50 = some (.lload_n 2, 1) := by decide +kernel
theorem q_218_51 : js_I 218 51 = some (.lcmp, 1) := by decide +kernel
theorem q_218_52 : js_I 218 52 = some (.ifCond .lt 17, 3) := by decide +kernel
theorem q_218_55 : js_I 218 55 = some (.aload_n 0, 1) := by decide +kernel
theorem q_218_56 : js_I 218 56 = some (.getfield 178, 3) := by decide +kernel
theorem q_218_59 : js_I 218 59 = some (.iload 7, 2) := by decide +kernel
theorem q_218_61 : js_I 218 61 = some (.iaload, 1) := by decide +kernel
theorem q_218_62 : js_I 218 62 = some (.i2l, 1) := by decide +kernel
theorem q_218_63 : js_I 218 63 = some (.lload 4, 2) := by decide +kernel
theorem q_218_65 : js_I 218 65 = some (.lcmp, 1) := by decide +kernel
theorem q_218_66 : js_I 218 66 = some (.ifCond .le 11, 3) := by decide +kernel
theorem q_218_32 : js_I 218 32 = some (.aload_n 0, 1) := by decide +kernel
theorem q_218_33 : js_I 218 33 = some (.iconst 5, 1) := by decide +kernel
theorem q_218_34 : js_I 218 34 = some (.iload 6, 2) := by decide +kernel
theorem q_218_36 : js_I 218 36 = some (.invokevirtual 65, 3) := by decide +kernel
theorem q_218_39 : js_I 218 39 = some (.goto 38, 3) := by decide +kernel
theorem q_218_69 : js_I 218 69 = some (.aload_n 0, 1) := by decide +kernel
theorem q_218_70 : js_I 218 70 = some (.bipush 6, 2) := by decide +kernel
theorem q_218_72 : js_I 218 72 = some (.iload 6, 2) := by decide +kernel
theorem q_218_74 : js_I 218 74 = some (.invokevirtual 65, 3) := by decide +kernel
theorem q_218_77 : js_I 218 77 = some (.iload 7, 2) := by decide +kernel
theorem q_218_79 : js_I 218 79 = some (.ireturn, 1) := by decide +kernel
theorem q_219_0 : js_I 219 0 = some (.aload_n 0, 1) := by decide +kernel
theorem q_219_1 : js_I 219 1 = some (.invokevirtual 196, 3) := by decide +kernel
theorem q_219_4 : js_I 219 4 = some (.istore_n 1, 1) := by decide +kernel
theorem q_219_5 : js_I 219 5 = some (.aload_n 0, 1) := by decide +kernel
theorem q_219_6 : js_I 219 6 = some (.getfield 25, 3) := by decide +kernel
theorem q_219_9 : js_I 219 9 = some (.bipush 63, 2) := by decide +kernel
theorem q_219_11 : js_I 219 11 = some (.if_icmp .eq 5, 3) := by decide +kernel
theorem q_219_16 : js_I 219 16 = some (.aload_n 0, 1) := by decide +kernel
theorem q_219_17 : js_I 219 17 = some (.getfield 35, 3) := by decide +kernel
theorem q_219_20 : js_I 219 20 = some (.istore_n 2, 1) := by decide +kernel
theorem q_219_21 : js_I 219 21 = some (.aload_n 0, 1) := by decide +kernel
theorem q_219_22 : js_I 219 22 = some (.bipush 63, 2) := by decide +kernel
theorem q_219_24 : js_I 219 24 = some (.invokevirtual 159, 3) := by decide +kernel
theorem q_219_14 : js_I 219 14 = some (.iload_n 1, 1) := by decide +kernel
theorem q_219_15 : js_I 219 15 = some (.ireturn, 1) := by decide +kernel
theorem q_219_27 : js_I 219 27 = some (.aload_n 0, 1) := by decide +kernel
theorem q_219_28 : js_I 219 28 = some (.invokevirtual 193, 3) := by decide +kernel
theorem q_219_31 : js_I 219 31 = some (.istore_n 3, 1) := by decide +kernel
theorem q_219_32 : js_I 219 32 = some (.aload_n 0, 1) := by decide +kernel
theorem q_219_33 : js_I 219 33 = some (.bipush 58, 2) := by decide +kernel
theorem q_219_35 : js_I 219 35 = some (.invokevirtual 75, 3) := by decide +kernel
theorem q_219_38 : js_I 219 38 = some (.aload_n 0, 1) := by decide +kernel
theorem q_219_39 : js_I 219 39 = some (.invokevirtual 193, 3) := by decide +kernel
theorem q_219_42 : js_I 219 42 = some (.istore 4, 2) := by decide +kernel
theorem q_219_44 : js_I 219 44 = some (.aload_n 0, 1) := by decide +kernel
theorem q_219_45 : js_I 219 45 = some (.dup, 1) := by decide +kernel
theorem q_219_46 : js_I 219 46 = some (.getfield 72, 3) := by decide +kernel
theorem q_219_49 : js_I 219 49 = some (.iconst 1, 1) := by decide +kernel
theorem q_219_50 : js_I 219 50 = some (.isub, 1) := by decide +kernel
theorem q_219_51 : js_I 219 51 = some (.putfield 72, 3) := by decide +kernel
theorem q_219_54 : js_I 219 54 = some (.aload_n 0, 1) := by decide +kernel
theorem q_219_55 : js_I 219 55 = some (.getfield 22, 3) := by decide +kernel
theorem q_219_58 : js_I 219 58 = some (.ifCond .le 5, 3) := by decide +kernel
theorem q_219_61 : js_I 219 61 = some (.iconst 0, 1) := by decide +kernel
theorem q_219_62 : js_I 219 62 = some (.ireturn, 1) := by decide +kernel
theorem q_219_63 : js_I 219 63 = some (.aload_n 0, 1) := by decide +kernel
theorem q_219_64 : js_I 219 64 = some (.getfield 172, 3) := by decide +kernel
theorem q_219_67 : js_I 219 67 = some (.iload_n 1, 1) := by decide +kernel
theorem q_219_68 : js_I 219 68 = some (.iaload, 1) := by decide +kernel
theorem q_219_69 : js_I 219 69 = some (.iconst 1, 1) := by decide +kernel
theorem q_219_70 : js_I 219 70 = some (.if_icmp .ne 19, 3) := by decide +kernel
theorem q_219_73 : js_I 219 73 = some (.aload_n 0, 1) := by decide +kernel
theorem q_219_74 : js_I 219 74 = some (.getfield 172, 3) := by decide +kernel
theorem q_219_77 : js_I 219 77 = some (.iload_n 3, 1) := by decide +kernel
theorem q_219_78 : js_I 219 78 = some (.iaload, 1) := by decide +kernel
theorem q_219_79 : js_I 219 79 = some (.aload_n 0, 1) := by decide +kernel
theorem q_219_80 : js_I 219 80 = some (.getfield 172, 3) := by decide +kernel
theorem q_219_83 : js_I 219 83 = some (.iload 4, 2) := by decide +kernel
theorem q_219_85 : js_I 219 85 = some (.iaload, 1) := by decide +kernel
theorem q_219_86 : js_I 219 86 = some (.if_icmp .eq 11, 3) := by decide +kernel
theorem q_219_97 : js_I 219 97 = some (.aload_n 0, 1) := by decide +kernel
theorem q_219_98 : js_I 219 98 = some (.bipush 8, 2) := by decide +kernel
theorem q_219_100 : js_I 219 100 = some (.aload_n 0, 1) := by decide +kernel
theorem q_219_101 : js_I 219 101 = some (.getfield 172, 3) := by decide +kernel
theorem q_219_104 : js_I 219 104 = some (.iload_n 3, 1) := by decide +kernel
theorem q_219_105 : js_I 219 105 = some (.iaload, 1) := by decide +kernel
theorem q_219_106 : js_I 219 106 = some (.aload_n 0, 1) := by decide +kernel
theorem q_219_107 : js_I 219 107 = some (.getfield 175, 3) := by decide +kernel
theorem q_219_110 : js_I 219 110 = some (.iload_n 3, 1) := by decide +kernel
theorem q_219_111 : js_I 219 111 = some (.iaload, 1) := by decide +kernel
theorem q_219_112 : js_I 219 112 = some (.aload_n 0, 1) := by decide +kernel
theorem q_219_113 : js_I 219 113 = some (.getfield 175, 3) := by decide +kernel
theorem q_219_116 : js_I 219 116 = some (.iload 4, 2) := by decide +kernel
theorem q_219_118 : js_I 219 118 = some (.iaload, 1) := by decide +kernel
theorem q_219_119 : js_I 219 119 = some (.invokestatic 199, 3) := by decide +kernel
theorem q_219_122 : js_I 219 122 = some (.i2l, 1) := by decide +kernel
theorem q_219_123 : js_I 219 123 = some (.aload_n 0, 1) := by decide +kernel
theorem q_219_124 : js_I 219 124 = some (.getfield 178, 3) := by decide +kernel
theorem q_219_127 : js_I 219 127 = some (.iload_n 3, 1) := by decide +kernel
theorem q_219_128 : js_I 219 128 = some (.iaload, 1) := by decide +kernel
theorem q_219_129 : js_I 219 129 = some (.aload_n 0, 1) := by decide +kernel
theorem q_219_130 : js_I 219 130 = some (.getfield 178, 3) := by decide +kernel
theorem q_219_133 : js_I 219 133 = some (.iload 4, 2) := by decide +kernel
theorem q_219_135 : js_I 219 135 = some (.iaload, 1) := by decide +kernel
theorem q_219_136 : js_I 219 136 = some (.invokestatic 205, 3) := by decide +kernel
theorem q_219_139 : js_I 219 139 = some (.i2l, 1) := by decide +kernel
theorem q_219_140 : js_I 219 140 = some (.iload_n 1, 1) := by decide +kernel
theorem q_219_141 : js_I 219 141 = some (.iload_n 3, 1) := by decide +kernel
theorem q_219_142 : js_I 219 142 = some (.iload 4, 2) := by decide +kernel
theorem q_219_144 : js_I 219 144 = some (.invokevirtual 208, 3) := by decide +kernel
theorem q_219_89 : js_I 219 89 = some (.aload_n 0, 1) := by decide +kernel
theorem q_219_90 : js_I 219 90 = some (.iconst 5, 1) := by decide +kernel
theorem q_219_91 : js_I 219 91 = some (.iload_n 2, 1) := by decide +kernel
theorem q_219_92 : js_I 219 92 = some (.invokevirtual 65, 3) := by decide +kernel
theorem q_219_95 : js_I 219 95 = some (.iconst 0, 1) := by decide +kernel
theorem q_219_96 : js_I 219 96 = some (.ireturn, 1) := by decide +kernel
theorem q_219_147 : js_I 219 147 = some (.ireturn, 1) := by decide +kernel
theorem q_220_0 : js_I 220 0 = some (.aload_n 0, 1) := by decide +kernel
theorem q_220_1 : js_I 220 1 = some (.invokevirtual 212, 3) := by decide +kernel
theorem q_220_4 : js_I 220 4 = some (.istore_n 1, 1) := by decide +kernel
theorem q_220_5 : js_I 220 5 = some (.aload_n 0, 1) := by decide +kernel
theorem q_220_6 : js_I 220 6 = some (.getfield 25, 3) := by decide +kernel
theorem q_220_9 : js_I 220 9 = some (.sipush 206, 3) := by decide +kernel
theorem q_220_12 : js_I 220 12 = some (.if_icmp .ne 28, 3) := by decide +kernel
theorem q_220_15 : js_I 220 15 = some (.aload_n 0, 1) := by decide +kernel
theorem q_220_16 : js_I 220 16 = some (.getfield 35, 3) := by decide +kernel
theorem q_220_19 : js_I 220 19 = some (.istore_n 2, 1) := by decide +kernel
theorem q_220_20 : js_I 220 20 = some (.aload_n 0, 1) := by decide +kernel
theorem q_220_21 : js_I 220 21 = some (.invokevirtual 68, 3) := by decide +kernel
theorem q_220_40 : js_I 220 40 = some (.iload_n 1, 1) := by decide +kernel
theorem q_220_41 : js_I 220 41 = some (.ireturn, 1) := by decide +kernel
theorem q_220_24 : js_I 220 24 = some (.aload_n 0, 1) := by decide +kernel
theorem q_220_25 : js_I 220 25 = some (.bipush 7, 2) := by decide +kernel
theorem q_220_27 : js_I 220 27 = some (.iload_n 1, 1) := by decide +kernel
theorem q_220_28 : js_I 220 28 = some (.aload_n 0, 1) := by decide +kernel
theorem q_220_29 : js_I 220 29 = some (.invokevirtual 212, 3) := by decide +kernel
theorem q_220_32 : js_I 220 32 = some (.iload_n 2, 1) := by decide +kernel
theorem q_220_33 : js_I 220 33 = some (.invokevirtual 215, 3) := by decide +kernel
theorem q_220_36 : js_I 220 36 = some (.istore_n 1, 1) := by decide +kernel
theorem q_220_37 : js_I 220 37 = some (.goto (-32), 3) := by decide +kernel
theorem q_221_0 : js_I 221 0 = some (.aload_n 0, 1) := by decide +kernel
theorem q_221_1 : js_I 221 1 = some (.invokevirtual 219, 3) := by decide +kernel
theorem q_221_4 : js_I 221 4 = some (.istore_n 1, 1) := by decide +kernel
theorem q_221_5 : js_I 221 5 = some (.aload_n 0, 1) := by decide +kernel
theorem q_221_6 : js_I 221 6 = some (.getfield 25, 3) := by decide +kernel
theorem q_221_9 : js_I 221 9 = some (.sipush 205, 3) := by decide +kernel
theorem q_221_12 : js_I 221 12 = some (.if_icmp .ne 28, 3) := by decide +kernel
theorem q_221_15 : js_I 221 15 = some (.aload_n 0, 1) := by decide +kernel
theorem q_221_16 : js_I 221 16 = some (.getfield 35, 3) := by decide +kernel
theorem q_221_19 : js_I 221 19 = some (.istore_n 2, 1) := by decide +kernel
theorem q_221_20 : js_I 221 20 = some (.aload_n 0, 1) := by decide +kernel
theorem q_221_21 : js_I 221 21 = some (.invokevirtual 68, 3) := by decide +kernel
theorem q_221_40 : js_I 221 40 = some (.iload_n 1, 1) := by decide +kernel
theorem q_221_41 : js_I 221 41 = some (.ireturn, 1) := by decide +kernel
theorem q_221_24 : js_I 221 24 = some (.aload_n 0, 1) := by decide +kernel
theorem q_221_25 : js_I 221 25 = some (.bipush 6, 2) := by decide +kernel
theorem q_221_27 : js_I 221 27 = some (.iload_n 1, 1) := by decide +kernel
theorem q_221_28 : js_I 221 28 = some (.aload_n 0, 1) := by decide +kernel
theorem q_221_29 : js_I 221 29 = some (.invokevirtual 219, 3) := by decide +kernel
theorem q_221_32 : js_I 221 32 = some (.iload_n 2, 1) := by decide +kernel
theorem q_221_33 : js_I 221 33 = some (.invokevirtual 215, 3) := by decide +kernel
theorem q_221_36 : js_I 221 36 = some (.istore_n 1, 1) := by decide +kernel
theorem q_221_37 : js_I 221 37 = some (.goto (-32), 3) := by decide +kernel
theorem q_222_0 : js_I 222 0 = some (.aload_n 0, 1) := by decide +kernel
theorem q_222_1 : js_I 222 1 = some (.invokevirtual 222, 3) := by decide +kernel
theorem q_222_4 : js_I 222 4 = some (.istore_n 1, 1) := by decide +kernel
theorem q_222_5 : js_I 222 5 = some (.aload_n 0, 1) := by decide +kernel
theorem q_222_6 : js_I 222 6 = some (.getfield 25, 3) := by decide +kernel
theorem q_222_9 : js_I 222 9 = some (.bipush 60, 2) := by decide +kernel
theorem q_222_11 : js_I 222 11 = some (.if_icmp .ne 8, 3) := by decide +kernel
theorem q_222_14 : js_I 222 14 = some (.bipush 13, 2) := by decide +kernel
theorem q_222_16 : js_I 222 16 = some (.goto 78, 3) := by decide +kernel
theorem q_222_19 : js_I 222 19 = some (.aload_n 0, 1) := by decide +kernel
theorem q_222_20 : js_I 222 20 = some (.getfield 25, 3) := by decide +kernel
theorem q_222_23 : js_I 222 23 = some (.sipush 201, 3) := by decide +kernel
theorem q_222_26 : js_I 222 26 = some (.if_icmp .ne 8, 3) := by decide +kernel
theorem q_222_29 : js_I 222 29 = some (.bipush 14, 2) := by decide +kernel
theorem q_222_31 : js_I 222 31 = some (.goto 63, 3) := by decide +kernel
theorem q_222_34 : js_I 222 34 = some (.aload_n 0, 1) := by decide +kernel
theorem q_222_35 : js_I 222 35 = some (.getfield 25, 3) := by decide +kernel
theorem q_222_38 : js_I 222 38 = some (.bipush 62, 2) := by decide +kernel
theorem q_222_40 : js_I 222 40 = some (.if_icmp .ne 8, 3) := by decide +kernel
theorem q_222_43 : js_I 222 43 = some (.bipush 15, 2) := by decide +kernel
theorem q_222_45 : js_I 222 45 = some (.goto 49, 3) := by decide +kernel
theorem q_222_48 : js_I 222 48 = some (.aload_n 0, 1) := by decide +kernel
theorem q_222_49 : js_I 222 49 = some (.getfield 25, 3) := by decide +kernel
theorem q_222_52 : js_I 222 52 = some (.sipush 202, 3) := by decide +kernel
theorem q_222_55 : js_I 222 55 = some (.if_icmp .ne 8, 3) := by decide +kernel
theorem q_222_58 : js_I 222 58 = some (.bipush 16, 2) := by decide +kernel
theorem q_222_60 : js_I 222 60 = some (.goto 34, 3) := by decide +kernel
theorem q_222_63 : js_I 222 63 = some (.aload_n 0, 1) := by decide +kernel
theorem q_222_64 : js_I 222 64 = some (.getfield 25, 3) := by decide +kernel
theorem q_222_67 : js_I 222 67 = some (.sipush 203, 3) := by decide +kernel
theorem q_222_70 : js_I 222 70 = some (.if_icmp .ne 8, 3) := by decide +kernel
theorem q_222_73 : js_I 222 73 = some (.bipush 17, 2) := by decide +kernel
theorem q_222_75 : js_I 222 75 = some (.goto 19, 3) := by decide +kernel
theorem q_222_78 : js_I 222 78 = some (.aload_n 0, 1) := by decide +kernel
theorem q_222_79 : js_I 222 79 = some (.getfield 25, 3) := by decide +kernel
theorem q_222_82 : js_I 222 82 = some (.sipush 204, 3) := by decide +kernel
theorem q_222_85 : js_I 222 85 = some (.if_icmp .ne 8, 3) := by decide +kernel
theorem q_222_88 : js_I 222 88 = some (.bipush 18, 2) := by decide +kernel
theorem q_222_90 : js_I 222 90 = some (.goto 4, 3) := by decide +kernel
theorem q_222_93 : js_I 222 93 = some (.iconst (-1), 1) := by decide +kernel
theorem q_222_94 : js_I 222 94 = some (.istore_n 2, 1) := by decide +kernel
theorem q_222_95 : js_I 222 95 = some (.iload_n 2, 1) := by decide +kernel
theorem q_222_96 : js_I 222 96 = some (.ifCond .ge 5, 3) := by decide +kernel
theorem q_222_99 : js_I 222 99 = some (.iload_n 1, 1) := by decide +kernel
theorem q_222_100 : js_I 222 100 = some (.ireturn, 1) := by decide +kernel
theorem q_222_101 : js_I 222 101 = some (.aload_n 0, 1) := by decide +kernel
theorem q_222_102 : js_I 222 102 = some (.getfield 35, 3) := by decide +kernel
theorem q_222_105 : js_I 222 105 = some (.istore_n 3, 1) := by decide +kernel
theorem q_222_106 : js_I 222 106 = some (.aload_n 0, 1) := by decide +kernel
theorem q_222_107 : js_I 222 107 = some (.invokevirtual 68, 3) := by decide +kernel
theorem q_222_110 : js_I 222 110 = some (.aload_n 0, 1) := by decide +kernel
theorem q_222_111 : js_I 222 111 = some (.invokevirtual 222, 3) := by decide +kernel
theorem q_222_114 : js_I 222 114 = some (.istore 4, 2) := by decide +kernel
theorem q_222_116 : js_I 222 116 = some (.aload_n 0, 1) := by decide +kernel
theorem q_222_117 : js_I 222 117 = some (.getfield 22, 3) := by decide +kernel
theorem q_222_120 : js_I 222 120 = some (.ifCond .le 5, 3) := by decide +kernel
theorem q_222_123 : js_I 222 123 = some (.iconst 0, 1) := by decide +kernel
theorem q_222_124 : js_I 222 124 = some (.ireturn, 1) := by decide +kernel
theorem q_222_125 : js_I 222 125 = some (.aload_n 0, 1) := by decide +kernel
theorem q_222_126 : js_I 222 126 = some (.getfield 172, 3) := by decide +kernel
theorem q_222_129 : js_I 222 129 = some (.iload_n 1, 1) := by decide +kernel
theorem q_222_130 : js_I 222 130 = some (.iaload, 1) := by decide +kernel
theorem q_222_131 : js_I 222 131 = some (.aload_n 0, 1) := by decide +kernel
theorem q_222_132 : js_I 222 132 = some (.getfield 172, 3) := by decide +kernel
theorem q_222_135 : js_I 222 135 = some (.iload 4, 2) := by decide +kernel
theorem q_222_137 : js_I 222 137 = some (.iaload, 1) := by decide +kernel
theorem q_222_138 : js_I 222 138 = some (.if_icmp .ne 28, 3) := by decide +kernel
theorem q_222_141 : js_I 222 141 = some (.iload_n 2, 1) := by decide +kernel
theorem q_222_142 : js_I 222 142 = some (.bipush 17, 2) := by decide +kernel
theorem q_222_144 : js_I 222 144 = some (.if_icmp .ge 12, 3) := by decide +kernel
theorem q_222_147 : js_I 222 147 = some (.aload_n 0, 1) := by decide +kernel
theorem q_222_148 : js_I 222 148 = some (.getfield 172, 3) := by decide +kernel
theorem q_222_151 : js_I 222 151 = some (.iload_n 1, 1) := by decide +kernel
theorem q_222_152 : js_I 222 152 = some (.iaload, 1) := by decide +kernel
theorem q_222_153 : js_I 222 153 = some (.ifCond .ne 13, 3) := by decide +kernel
theorem q_222_156 : js_I 222 156 = some (.aload_n 0, 1) := by decide +kernel
theorem q_222_157 : js_I 222 157 = some (.getfield 172, 3) := by decide +kernel
theorem q_222_160 : js_I 222 160 = some (.iload_n 1, 1) := by decide +kernel
theorem q_222_161 : js_I 222 161 = some (.iaload, 1) := by decide +kernel
theorem q_222_162 : js_I 222 162 = some (.iconst 2, 1) := by decide +kernel
theorem q_222_163 : js_I 222 163 = some (.if_icmp .ne 9, 3) := by decide +kernel
theorem q_222_166 : js_I 222 166 = some (.aload_n 0, 1) := by decide +kernel
theorem q_222_167 : js_I 222 167 = some (.iconst 5, 1) := by decide +kernel
theorem q_222_168 : js_I 222 168 = some (.iload_n 3, 1) := by decide +kernel
theorem q_222_169 : js_I 222 169 = some (.invokevirtual 65, 3) := by decide +kernel
theorem q_222_172 : js_I 222 172 = some (.aload_n 0, 1) := by decide +kernel
theorem q_222_173 : js_I 222 173 = some (.iconst 4, 1) := by decide +kernel
theorem q_222_174 : js_I 222 174 = some (.iconst 1, 1) := by decide +kernel
theorem q_222_175 : js_I 222 175 = some (.lconst 0, 1) := by decide +kernel
theorem q_222_176 : js_I 222 176 = some (.lconst 1, 1) := by decide +kernel
theorem q_222_177 : js_I 222 177 = some (.iload_n 1, 1) := by decide +kernel
theorem q_222_178 : js_I 222 178 = some (.iload 4, 2) := by decide +kernel
theorem q_222_180 : js_I 222 180 = some (.iload_n 2, 1) := by decide +kernel
theorem q_222_181 : js_I 222 181 = some (.invokevirtual 208, 3) := by decide +kernel
theorem q_222_184 : js_I 222 184 = some (.ireturn, 1) := by decide +kernel
theorem q_223_0 : js_I 223 0 = some (.aload_n 0, 1) := by decide +kernel
theorem q_223_1 : js_I 223 1 = some (.invokevirtual 225, 3) := by decide +kernel
theorem q_223_4 : js_I 223 4 = some (.istore_n 1, 1) := by decide +kernel
theorem q_223_5 : js_I 223 5 = some (.aload_n 0, 1) := by decide +kernel
theorem q_223_6 : js_I 223 6 = some (.getfield 25, 3) := by decide +kernel
theorem q_223_9 : js_I 223 9 = some (.bipush 43, 2) := by decide +kernel
theorem q_223_11 : js_I 223 11 = some (.if_icmp .eq 12, 3) := by decide +kernel
theorem q_223_14 : js_I 223 14 = some (.aload_n 0, 1) := by decide +kernel
theorem q_223_15 : js_I 223 15 = some (.getfield 25, 3) := by decide +kernel
theorem q_223_18 : js_I 223 18 = some (.bipush 45, 2) := by decide +kernel
theorem q_223_20 : js_I 223 20 = some (.if_icmp .ne 44, 3) := by decide +kernel
theorem q_223_64 : js_I 223 64 = some (.iload_n 1, 1) := by decide +kernel
theorem q_223_65 : js_I 223 65 = some (.ireturn, 1) := by decide +kernel
theorem q_223_23 : js_I 223 23 = some (.aload_n 0, 1) := by decide +kernel
theorem q_223_24 : js_I 223 24 = some (.getfield 35, 3) := by decide +kernel
theorem q_223_27 : js_I 223 27 = some (.istore_n 2, 1) := by decide +kernel
theorem q_223_28 : js_I 223 28 = some (.aload_n 0, 1) := by decide +kernel
theorem q_223_29 : js_I 223 29 = some (.getfield 25, 3) := by decide +kernel
theorem q_223_32 : js_I 223 32 = some (.bipush 43, 2) := by decide +kernel
theorem q_223_34 : js_I 223 34 = some (.if_icmp .ne 8, 3) := by decide +kernel
theorem q_223_37 : js_I 223 37 = some (.bipush 6, 2) := by decide +kernel
theorem q_223_39 : js_I 223 39 = some (.goto 5, 3) := by decide +kernel
theorem q_223_42 : js_I 223 42 = some (.bipush 7, 2) := by decide +kernel
theorem q_223_44 : js_I 223 44 = some (.istore_n 3, 1) := by decide +kernel
theorem q_223_45 : js_I 223 45 = some (.aload_n 0, 1) := by decide +kernel
theorem q_223_46 : js_I 223 46 = some (.invokevirtual 68, 3) := by decide +kernel
theorem q_223_49 : js_I 223 49 = some (.aload_n 0, 1) := by decide +kernel
theorem q_223_50 : js_I 223 50 = some (.iload_n 3, 1) := by decide +kernel
theorem q_223_51 : js_I 223 51 = some (.iload_n 1, 1) := by decide +kernel
theorem q_223_52 : js_I 223 52 = some (.aload_n 0, 1) := by decide +kernel
theorem q_223_53 : js_I 223 53 = some (.invokevirtual 225, 3) := by decide +kernel
theorem q_223_56 : js_I 223 56 = some (.iload_n 2, 1) := by decide +kernel
theorem q_223_57 : js_I 223 57 = some (.invokevirtual 228, 3) := by decide +kernel
theorem q_223_60 : js_I 223 60 = some (.istore_n 1, 1) := by decide +kernel
theorem q_223_61 : js_I 223 61 = some (.goto (-56), 3) := by decide +kernel
theorem q_224_0 : js_I 224 0 = some (.aload_n 0, 1) := by decide +kernel
theorem q_224_1 : js_I 224 1 = some (.invokevirtual 231, 3) := by decide +kernel
theorem q_224_4 : js_I 224 4 = some (.istore_n 1, 1) := by decide +kernel
theorem q_224_5 : js_I 224 5 = some (.aload_n 0, 1) := by decide +kernel
theorem q_224_6 : js_I 224 6 = some (.getfield 25, 3) := by decide +kernel
theorem q_224_9 : js_I 224 9 = some (.bipush 42, 2) := by decide +kernel
theorem q_224_11 : js_I 224 11 = some (.if_icmp .eq 21, 3) := by decide +kernel
theorem q_224_14 : js_I 224 14 = some (.aload_n 0, 1) := by decide +kernel
theorem q_224_15 : js_I 224 15 = some (.getfield 25, 3) := by decide +kernel
theorem q_224_18 : js_I 224 18 = some (.bipush 47, 2) := by decide +kernel
theorem q_224_20 : js_I 224 20 = some (.if_icmp .eq 12, 3) := by decide +kernel
theorem q_224_23 : js_I 224 23 = some (.aload_n 0, 1) := by decide +kernel
theorem q_224_24 : js_I 224 24 = some (.getfield 25, 3) := by decide +kernel
theorem q_224_27 : js_I 224 27 = some (.bipush 37, 2) := by decide +kernel
theorem q_224_29 : js_I 224 29 = some (.if_icmp .ne 58, 3) := by decide +kernel
theorem q_224_87 : js_I 224 87 = some (.iload_n 1, 1) := by decide +kernel
theorem q_224_88 : js_I 224 88 = some (.ireturn, 1) := by decide +kernel
theorem q_224_32 : js_I 224 32 = some (.aload_n 0, 1) := by decide +kernel
theorem q_224_33 : js_I 224 33 = some (.getfield 35, 3) := by decide +kernel
theorem q_224_36 : js_I 224 36 = some (.istore_n 2, 1) := by decide +kernel
theorem q_224_37 : js_I 224 37 = some (.aload_n 0, 1) := by decide +kernel
theorem q_224_38 : js_I 224 38 = some (.getfield 25, 3) := by decide +kernel
theorem q_224_41 : js_I 224 41 = some (.bipush 42, 2) := by decide +kernel
theorem q_224_43 : js_I 224 43 = some (.if_icmp .ne 8, 3) := by decide +kernel
theorem q_224_46 : js_I 224 46 = some (.bipush 8, 2) := by decide +kernel
theorem q_224_48 : js_I 224 48 = some (.goto 19, 3) := by decide +kernel
theorem q_224_51 : js_I 224 51 = some (.aload_n 0, 1) := by decide +kernel
theorem q_224_52 : js_I 224 52 = some (.getfield 25, 3) := by decide +kernel
theorem q_224_55 : js_I 224 55 = some (.bipush 47, 2) := by decide +kernel
theorem q_224_57 : js_I 224 57 = some (.if_icmp .ne 8, 3) := by decide +kernel
theorem q_224_60 : js_I 224 60 = some (.bipush 9, 2) := by decide +kernel
theorem q_224_62 : js_I 224 62 = some (.goto 5, 3) := by decide +kernel
theorem q_224_65 : js_I 224 65 = some (.bipush 10, 2) := by decide +kernel
theorem q_224_67 : js_I 224 67 = some (.istore_n 3, 1) := by decide +kernel
theorem q_224_68 : js_I 224 68 = some (.aload_n 0, 1) := by decide +kernel
theorem q_224_69 : js_I 224 69 = some (.invokevirtual 68, 3) := by decide +kernel
theorem q_224_72 : js_I 224 72 = some (.aload_n 0, 1) := by decide +kernel
theorem q_224_73 : js_I 224 73 = some (.iload_n 3, 1) := by decide +kernel
theorem q_224_74 : js_I 224 74 = some (.iload_n 1, 1) := by decide +kernel
theorem q_224_75 : js_I 224 75 = some (.aload_n 0, 1) := by decide +kernel
theorem q_224_76 : js_I 224 76 = some (.invokevirtual 231, 3) := by decide +kernel
theorem q_224_79 : js_I 224 79 = some (.iload_n 2, 1) := by decide +kernel
theorem q_224_80 : js_I 224 80 = some (.invokevirtual 228, 3) := by decide +kernel
theorem q_224_83 : js_I 224 83 = some (.istore_n 1, 1) := by decide +kernel
theorem q_224_84 : js_I 224 84 = some (.goto (-79), 3) := by decide +kernel
theorem qf_12_169 : ip_lk (vt_FL.getD 12 []) 169 = some (12, 34) := by decide +kernel
theorem qf_12_172 : ip_lk (vt_FL.getD 12 []) 172 = some (12, 35) := by decide +kernel
theorem qf_12_175 : ip_lk (vt_FL.getD 12 []) 175 = some (12, 39) := by decide +kernel
theorem qf_12_178 : ip_lk (vt_FL.getD 12 []) 178 = some (12, 40) := by decide +kernel
theorem qf_12_181 : ip_lk (vt_FL.getD 12 []) 181 = some (12, 36) := by decide +kernel
theorem qf_12_184 : ip_lk (vt_FL.getD 12 []) 184 = some (12, 37) := by decide +kernel
theorem qf_12_187 : ip_lk (vt_FL.getD 12 []) 187 = some (12, 38) := by decide +kernel
theorem qm_12_296 : ip_lk (vt_ML.getD 12 []) 296 = some (214, 0, 1, 12) := by decide +kernel
theorem qm_12_299 : ip_lk (vt_ML.getD 12 []) 299 = some (237, 0, 1, 12) := by decide +kernel
theorem qm_12_208 : ip_lk (vt_ML.getD 12 []) 208 = some (217, 7, 1, 12) := by decide +kernel
theorem qm_12_302 : ip_lk (vt_ML.getD 12 []) 302 = some (238, 0, 1, 12) := by decide +kernel
theorem qm_12_305 : ip_lk (vt_ML.getD 12 []) 305 = some (241, 0, 1, 12) := by decide +kernel
theorem qm_12_308 : ip_lk (vt_ML.getD 12 []) 308 = some (242, 0, 1, 12) := by decide +kernel
theorem qm_12_311 : ip_lk (vt_ML.getD 12 []) 311 = some (243, 0, 1, 12) := by decide +kernel
theorem qm_12_193 : ip_lk (vt_ML.getD 12 []) 193 = some (219, 0, 1, 12) := by decide +kernel
theorem qm_12_196 : ip_lk (vt_ML.getD 12 []) 196 = some (220, 0, 1, 12) := by decide +kernel
theorem qm_12_199 : ip_lk (vt_ML.getD 12 []) 199 = some (0, 2, 4, 0) := by decide +kernel
theorem qm_12_205 : ip_lk (vt_ML.getD 12 []) 205 = some (1, 2, 4, 0) := by decide +kernel
theorem qm_12_212 : ip_lk (vt_ML.getD 12 []) 212 = some (221, 0, 1, 12) := by decide +kernel
theorem qm_12_215 : ip_lk (vt_ML.getD 12 []) 215 = some (236, 4, 1, 12) := by decide +kernel
theorem qm_12_219 : ip_lk (vt_ML.getD 12 []) 219 = some (222, 0, 1, 12) := by decide +kernel
theorem qm_12_222 : ip_lk (vt_ML.getD 12 []) 222 = some (223, 0, 1, 12) := by decide +kernel
theorem qm_12_225 : ip_lk (vt_ML.getD 12 []) 225 = some (224, 0, 1, 12) := by decide +kernel
theorem qm_12_228 : ip_lk (vt_ML.getD 12 []) 228 = some (234, 4, 1, 12) := by decide +kernel
theorem qm_12_231 : ip_lk (vt_ML.getD 12 []) 231 = some (225, 0, 1, 12) := by decide +kernel
theorem qc_12_168 : ip_lk (vt_CL.getD 12 []) 168 = some (js_V (0, 66000)) := by decide +kernel
theorem ww_4096 : js_w 4096 = 4096 := by decide +kernel
theorem ww_66000 : js_w 66000 = 66000 := by decide +kernel
theorem ww_206 : js_w 206 = 206 := by decide +kernel
theorem ww_205 : js_w 205 = 205 := by decide +kernel
theorem ww_201 : js_w 201 = 201 := by decide +kernel
theorem ww_202 : js_w 202 = 202 := by decide +kernel
theorem ww_203 : js_w 203 = 203 := by decide +kernel
theorem ww_204 : js_w 204 = 204 := by decide +kernel
theorem ww_17 : js_w 17 = 17 := by decide +kernel
-- 213: VitalTwinModel.statement ()I
theorem b_213_0 {E : js_E} {d : Nat} {σ : js_S} : js_J E d 213 0 [(2, 83), (9, 0)] [] σ = js_J E d 213 4 [(2, 83), (9, 0)] [(0, σ 83 5)] σ :=
  (j_aload_n q_213_0 rfl).trans <| (j_get (ji := 5) (v := (0, σ 83 5)) q_213_1 (js_Fo qy_213 qf_12_25) js_o83 rfl rfl rfl rfl).trans <| rfl
theorem s_213_4_2 {E : js_E} {d : Nat} {σ : js_S} {z0 : Int} (h : js_w z0 = 2) : js_J E d 213 4 [(2, 83), (9, 0)] [(0, z0)] σ = js_J E d 213 112 [(2, 83), (9, 0)] [] σ :=
  j_lsw (t := 112) q_213_4 (by rw [h]; rfl)
theorem s_213_4_305 {E : js_E} {d : Nat} {σ : js_S} {z0 : Int} (h : js_w z0 = 305) : js_J E d 213 4 [(2, 83), (9, 0)] [(0, z0)] σ = js_J E d 213 64 [(2, 83), (9, 0)] [] σ :=
  j_lsw (t := 64) q_213_4 (by rw [h]; rfl)
theorem s_213_4_307 {E : js_E} {d : Nat} {σ : js_S} {z0 : Int} (h : js_w z0 = 307) : js_J E d 213 4 [(2, 83), (9, 0)] [(0, z0)] σ = js_J E d 213 102 [(2, 83), (9, 0)] [] σ :=
  j_lsw (t := 102) q_213_4 (by rw [h]; rfl)
theorem s_213_4_309 {E : js_E} {d : Nat} {σ : js_S} {z0 : Int} (h : js_w z0 = 309) : js_J E d 213 4 [(2, 83), (9, 0)] [(0, z0)] σ = js_J E d 213 97 [(2, 83), (9, 0)] [] σ :=
  j_lsw (t := 97) q_213_4 (by rw [h]; rfl)
theorem s_213_4_310 {E : js_E} {d : Nat} {σ : js_S} {z0 : Int} (h : js_w z0 = 310) : js_J E d 213 4 [(2, 83), (9, 0)] [(0, z0)] σ = js_J E d 213 107 [(2, 83), (9, 0)] [] σ :=
  j_lsw (t := 107) q_213_4 (by rw [h]; rfl)
theorem s_213_4_312 {E : js_E} {d : Nat} {σ : js_S} {z0 : Int} (h : js_w z0 = 312) : js_J E d 213 4 [(2, 83), (9, 0)] [(0, z0)] σ = js_J E d 213 69 [(2, 83), (9, 0)] [] σ :=
  j_lsw (t := 69) q_213_4 (by rw [h]; rfl)
theorem s_213_4_d {E : js_E} {d : Nat} {σ : js_S} {z0 : Int} (h : js_w z0 ≠ 2 ∧ js_w z0 ≠ 305 ∧ js_w z0 ≠ 307 ∧ js_w z0 ≠ 309 ∧ js_w z0 ≠ 310 ∧ js_w z0 ≠ 312) : js_J E d 213 4 [(2, 83), (9, 0)] [(0, z0)] σ = js_J E d 213 117 [(2, 83), (9, 0)] [] σ :=
  j_lsw (t := 117) q_213_4 (by obtain ⟨h0, h1, h2, h3, h4, h5⟩ := h; simp [Op.lookupswitch.offset, Ne.symm h0, Ne.symm h1, Ne.symm h2, Ne.symm h3, Ne.symm h4, Ne.symm h5]; rfl)
theorem b_213_64 {E : js_E} {d : Nat} {σ : js_S} : js_J E d 213 64 [(2, 83), (9, 0)] [] σ = js_J E d 213 65 [(2, 83), (9, 0)] [(2, 83)] σ :=
  (j_aload_n q_213_64 rfl).trans <| rfl
theorem k_213_65 {E : js_E} {d : Nat} {σ σ2 : js_S} {v : Int} (hd : 1 ≤ d) (hz : js_J E (d - 1) 214 0 [(2, 83), (9, 0), (9, 0)] [] σ = js_r E (0, v) σ2) : js_J E d 213 65 [(2, 83), (9, 0)] [(2, 83)] σ = js_J E d 213 68 [(2, 83), (9, 0)] [(0, v)] σ2 :=
  j_call (m := 2) (js_caV q_213_65 (js_Mo qy_213 qm_12_296)) (js_agV (av := []) (st := []) rfl rfl js_o83 rfl) rfl rfl (by rw [ql_214]; exact Nat.le_of_ble_eq_true rfl) (Nat.le_of_ble_eq_true rfl) hd hz
theorem b_213_68 {E : js_E} {d : Nat} {σ : js_S} {z0 : Int} : js_J E d 213 68 [(2, 83), (9, 0)] [(0, z0)] σ = js_r E (0, z0) σ :=
  j_ireturn q_213_68 qr_213
theorem b_213_69 {E : js_E} {d : Nat} {σ : js_S} : js_J E d 213 69 [(2, 83), (9, 0)] [] σ = js_J E d 213 70 [(2, 83), (9, 0)] [(2, 83)] σ :=
  (j_aload_n q_213_69 rfl).trans <| rfl
theorem k_213_70 {E : js_E} {d : Nat} {σ σ2 : js_S} (hd : 1 ≤ d) (hz : js_J E (d - 1) 191 0 [(2, 83), (9, 0), (9, 0), (9, 0), (9, 0), (9, 0)] [] σ = js_r0 E σ2) : js_J E d 213 70 [(2, 83), (9, 0)] [(2, 83)] σ = js_J E d 213 73 [(2, 83), (9, 0)] [] σ2 :=
  j_call0 (m := 5) (js_caV q_213_70 (js_Mo qy_213 qm_12_68)) (js_agV (av := []) (st := []) rfl rfl js_o83 rfl) rfl rfl (by rw [ql_191]; exact Nat.le_of_ble_eq_true rfl) (Nat.le_of_ble_eq_true rfl) hd hz
theorem b_213_73 {E : js_E} {d : Nat} {σ : js_S} : js_J E d 213 73 [(2, 83), (9, 0)] [] σ = js_J E d 213 74 [(2, 83), (9, 0)] [(2, 83)] σ :=
  (j_aload_n q_213_73 rfl).trans <| rfl
theorem k_213_74 {E : js_E} {d : Nat} {σ σ2 : js_S} {v : Int} (hd : 1 ≤ d) (hz : js_J E (d - 1) 237 0 [(2, 83), (9, 0), (9, 0)] [] σ = js_r E (0, v) σ2) : js_J E d 213 74 [(2, 83), (9, 0)] [(2, 83)] σ = js_J E d 213 77 [(2, 83), (9, 0)] [(0, v)] σ2 :=
  j_call (m := 2) (js_caV q_213_74 (js_Mo qy_213 qm_12_299)) (js_agV (av := []) (st := []) rfl rfl js_o83 rfl) rfl rfl (by rw [ql_237]; exact Nat.le_of_ble_eq_true rfl) (Nat.le_of_ble_eq_true rfl) hd hz
theorem b_213_77 {E : js_E} {d : Nat} {σ : js_S} {z0 : Int} : js_J E d 213 77 [(2, 83), (9, 0)] [(0, z0)] σ = js_J E d 213 81 [(2, 83), (0, z0)] [(0, 59), (2, 83)] σ :=
  (j_istore_n (l2 := [(2, 83), (0, z0)]) q_213_77 rfl (Nat.le_of_ble_eq_true rfl)).trans <| (j_aload_n q_213_78 rfl).trans <| (j_bi q_213_79 rfl).trans <| rfl
theorem k_213_81 {E : js_E} {d : Nat} {σ σ2 : js_S} {x1 z1 : Int} (hd : 1 ≤ d) (hz : js_J E (d - 1) 202 0 [(2, 83), (0, z1)] [] σ = js_r0 E σ2) : js_J E d 213 81 [(2, 83), (0, x1)] [(0, z1), (2, 83)] σ = js_J E d 213 84 [(2, 83), (0, x1)] [] σ2 :=
  j_call0 (m := 0) (js_caV q_213_81 (js_Mo qy_213 qm_12_75)) (js_agV (av := [(0, z1)]) (st := []) rfl rfl js_o83 rfl) rfl rfl (by rw [ql_202]; exact Nat.le_of_ble_eq_true rfl) (Nat.le_of_ble_eq_true rfl) hd hz
theorem b_213_84 {E : js_E} {d : Nat} {σ : js_S} {x1 : Int} : js_J E d 213 84 [(2, 83), (0, x1)] [] σ = js_J E d 213 93 [(2, 83), (0, x1)] [(0, 0), (0, 0), (0, x1), (1, 0), (1, 0), (0, 0), (0, 23), (2, 83)] σ :=
  (j_aload_n q_213_84 rfl).trans <| (j_bi q_213_85 rfl).trans <| (j_iconst q_213_87).trans <| (j_lconst0 q_213_88).trans <| (j_lconst0 q_213_89).trans <| (j_iload_n q_213_90 rfl).trans <| (j_iconst q_213_91).trans <| (j_iconst q_213_92).trans <| rfl
theorem k_213_93 {E : js_E} {d : Nat} {σ σ2 : js_S} {x1 z1 z2 z3 z4 z5 z6 z7 : Int} {v : Int} (hd : 1 ≤ d) (hz : js_J E (d - 1) 217 0 [(2, 83), (0, z1), (0, z2), (1, z3), (9, 0), (1, z4), (9, 0), (0, z5), (0, z6), (0, z7), (9, 0)] [] σ = js_r E (0, v) σ2) : js_J E d 213 93 [(2, 83), (0, x1)] [(0, z7), (0, z6), (0, z5), (1, z4), (1, z3), (0, z2), (0, z1), (2, 83)] σ = js_J E d 213 96 [(2, 83), (0, x1)] [(0, v)] σ2 :=
  j_call (m := 1) (js_caV q_213_93 (js_Mo qy_213 qm_12_208)) (js_agV (av := [(0, z1), (0, z2), (1, z3), (1, z4), (0, z5), (0, z6), (0, z7)]) (st := []) rfl rfl js_o83 rfl) rfl rfl (by rw [ql_217]; exact Nat.le_of_ble_eq_true rfl) (Nat.le_of_ble_eq_true rfl) hd hz
theorem b_213_96 {E : js_E} {d : Nat} {σ : js_S} {x1 z0 : Int} : js_J E d 213 96 [(2, 83), (0, x1)] [(0, z0)] σ = js_r E (0, z0) σ :=
  j_ireturn q_213_96 qr_213
theorem b_213_97 {E : js_E} {d : Nat} {σ : js_S} : js_J E d 213 97 [(2, 83), (9, 0)] [] σ = js_J E d 213 98 [(2, 83), (9, 0)] [(2, 83)] σ :=
  (j_aload_n q_213_97 rfl).trans <| rfl
theorem k_213_98 {E : js_E} {d : Nat} {σ σ2 : js_S} {v : Int} (hd : 1 ≤ d) (hz : js_J E (d - 1) 238 0 [(2, 83), (9, 0), (9, 0), (9, 0), (9, 0), (9, 0), (9, 0), (9, 0), (9, 0)] [] σ = js_r E (0, v) σ2) : js_J E d 213 98 [(2, 83), (9, 0)] [(2, 83)] σ = js_J E d 213 101 [(2, 83), (9, 0)] [(0, v)] σ2 :=
  j_call (m := 8) (js_caV q_213_98 (js_Mo qy_213 qm_12_302)) (js_agV (av := []) (st := []) rfl rfl js_o83 rfl) rfl rfl (by rw [ql_238]; exact Nat.le_of_ble_eq_true rfl) (Nat.le_of_ble_eq_true rfl) hd hz
theorem b_213_101 {E : js_E} {d : Nat} {σ : js_S} {z0 : Int} : js_J E d 213 101 [(2, 83), (9, 0)] [(0, z0)] σ = js_r E (0, z0) σ :=
  j_ireturn q_213_101 qr_213
theorem b_213_102 {E : js_E} {d : Nat} {σ : js_S} : js_J E d 213 102 [(2, 83), (9, 0)] [] σ = js_J E d 213 103 [(2, 83), (9, 0)] [(2, 83)] σ :=
  (j_aload_n q_213_102 rfl).trans <| rfl
theorem k_213_103 {E : js_E} {d : Nat} {σ σ2 : js_S} {v : Int} (hd : 1 ≤ d) (hz : js_J E (d - 1) 241 0 [(2, 83), (9, 0), (9, 0), (9, 0), (9, 0), (9, 0)] [] σ = js_r E (0, v) σ2) : js_J E d 213 103 [(2, 83), (9, 0)] [(2, 83)] σ = js_J E d 213 106 [(2, 83), (9, 0)] [(0, v)] σ2 :=
  j_call (m := 5) (js_caV q_213_103 (js_Mo qy_213 qm_12_305)) (js_agV (av := []) (st := []) rfl rfl js_o83 rfl) rfl rfl (by rw [ql_241]; exact Nat.le_of_ble_eq_true rfl) (Nat.le_of_ble_eq_true rfl) hd hz
theorem b_213_106 {E : js_E} {d : Nat} {σ : js_S} {z0 : Int} : js_J E d 213 106 [(2, 83), (9, 0)] [(0, z0)] σ = js_r E (0, z0) σ :=
  j_ireturn q_213_106 qr_213
theorem b_213_107 {E : js_E} {d : Nat} {σ : js_S} : js_J E d 213 107 [(2, 83), (9, 0)] [] σ = js_J E d 213 108 [(2, 83), (9, 0)] [(2, 83)] σ :=
  (j_aload_n q_213_107 rfl).trans <| rfl
theorem k_213_108 {E : js_E} {d : Nat} {σ σ2 : js_S} {v : Int} (hd : 1 ≤ d) (hz : js_J E (d - 1) 242 0 [(2, 83), (9, 0), (9, 0), (9, 0), (9, 0)] [] σ = js_r E (0, v) σ2) : js_J E d 213 108 [(2, 83), (9, 0)] [(2, 83)] σ = js_J E d 213 111 [(2, 83), (9, 0)] [(0, v)] σ2 :=
  j_call (m := 4) (js_caV q_213_108 (js_Mo qy_213 qm_12_308)) (js_agV (av := []) (st := []) rfl rfl js_o83 rfl) rfl rfl (by rw [ql_242]; exact Nat.le_of_ble_eq_true rfl) (Nat.le_of_ble_eq_true rfl) hd hz
theorem b_213_111 {E : js_E} {d : Nat} {σ : js_S} {z0 : Int} : js_J E d 213 111 [(2, 83), (9, 0)] [(0, z0)] σ = js_r E (0, z0) σ :=
  j_ireturn q_213_111 qr_213
theorem b_213_112 {E : js_E} {d : Nat} {σ : js_S} : js_J E d 213 112 [(2, 83), (9, 0)] [] σ = js_J E d 213 113 [(2, 83), (9, 0)] [(2, 83)] σ :=
  (j_aload_n q_213_112 rfl).trans <| rfl
theorem k_213_113 {E : js_E} {d : Nat} {σ σ2 : js_S} {v : Int} (hd : 1 ≤ d) (hz : js_J E (d - 1) 243 0 [(2, 83), (9, 0), (9, 0), (9, 0), (9, 0), (9, 0), (9, 0)] [] σ = js_r E (0, v) σ2) : js_J E d 213 113 [(2, 83), (9, 0)] [(2, 83)] σ = js_J E d 213 116 [(2, 83), (9, 0)] [(0, v)] σ2 :=
  j_call (m := 6) (js_caV q_213_113 (js_Mo qy_213 qm_12_311)) (js_agV (av := []) (st := []) rfl rfl js_o83 rfl) rfl rfl (by rw [ql_243]; exact Nat.le_of_ble_eq_true rfl) (Nat.le_of_ble_eq_true rfl) hd hz
theorem b_213_116 {E : js_E} {d : Nat} {σ : js_S} {z0 : Int} : js_J E d 213 116 [(2, 83), (9, 0)] [(0, z0)] σ = js_r E (0, z0) σ :=
  j_ireturn q_213_116 qr_213
theorem b_213_117 {E : js_E} {d : Nat} {σ : js_S} : js_J E d 213 117 [(2, 83), (9, 0)] [] σ = js_J E d 213 123 [(2, 83), (9, 0)] [(0, σ 83 6), (0, 1), (2, 83)] σ :=
  (j_aload_n q_213_117 rfl).trans <| (j_iconst q_213_118).trans <| (j_aload_n q_213_119 rfl).trans <| (j_get (ji := 6) (v := (0, σ 83 6)) q_213_120 (js_Fo qy_213 qf_12_35) js_o83 rfl rfl rfl rfl).trans <| rfl
theorem k_213_123 {E : js_E} {d : Nat} {σ σ2 : js_S} {z1 z2 : Int} (hd : 1 ≤ d) (hz : js_J E (d - 1) 199 0 [(2, 83), (0, z1), (0, z2)] [] σ = js_r0 E σ2) : js_J E d 213 123 [(2, 83), (9, 0)] [(0, z2), (0, z1), (2, 83)] σ = js_J E d 213 126 [(2, 83), (9, 0)] [] σ2 :=
  j_call0 (m := 0) (js_caV q_213_123 (js_Mo qy_213 qm_12_65)) (js_agV (av := [(0, z1), (0, z2)]) (st := []) rfl rfl js_o83 rfl) rfl rfl (by rw [ql_199]; exact Nat.le_of_ble_eq_true rfl) (Nat.le_of_ble_eq_true rfl) hd hz
theorem b_213_126 {E : js_E} {d : Nat} {σ : js_S} : js_J E d 213 126 [(2, 83), (9, 0)] [] σ = js_r E (0, (-1)) σ :=
  (j_iconst q_213_126).trans <| j_ireturn q_213_127 qr_213
-- 214: VitalTwinModel.variable ()I
theorem b_214_0 {E : js_E} {d : Nat} {σ : js_S} : js_J E d 214 0 [(2, 83), (9, 0), (9, 0)] [] σ = js_J E d 214 1 [(2, 83), (9, 0), (9, 0)] [(2, 83)] σ :=
  (j_aload_n q_214_0 rfl).trans <| rfl
theorem k_214_1 {E : js_E} {d : Nat} {σ σ2 : js_S} (hd : 1 ≤ d) (hz : js_J E (d - 1) 191 0 [(2, 83), (9, 0), (9, 0), (9, 0), (9, 0), (9, 0)] [] σ = js_r0 E σ2) : js_J E d 214 1 [(2, 83), (9, 0), (9, 0)] [(2, 83)] σ = js_J E d 214 4 [(2, 83), (9, 0), (9, 0)] [] σ2 :=
  j_call0 (m := 5) (js_caV q_214_1 (js_Mo qy_214 qm_12_68)) (js_agV (av := []) (st := []) rfl rfl js_o83 rfl) rfl rfl (by rw [ql_191]; exact Nat.le_of_ble_eq_true rfl) (Nat.le_of_ble_eq_true rfl) hd hz
theorem b_214_4 {E : js_E} {d : Nat} {σ : js_S} : js_J E d 214 4 [(2, 83), (9, 0), (9, 0)] [] σ = js_J E d 214 8 [(2, 83), (9, 0), (9, 0)] [(0, (-1)), (0, 6), (2, 83)] σ :=
  (j_aload_n q_214_4 rfl).trans <| (j_bi q_214_5 rfl).trans <| (j_iconst q_214_7).trans <| rfl
theorem k_214_8 {E : js_E} {d : Nat} {σ σ2 : js_S} {z1 z2 : Int} {v : Int} (hd : 1 ≤ d) (hz : js_J E (d - 1) 198 0 [(2, 83), (0, z1), (0, z2), (9, 0), (9, 0)] [] σ = js_r E (0, v) σ2) : js_J E d 214 8 [(2, 83), (9, 0), (9, 0)] [(0, z2), (0, z1), (2, 83)] σ = js_J E d 214 11 [(2, 83), (9, 0), (9, 0)] [(0, v)] σ2 :=
  j_call (m := 2) (js_caV q_214_8 (js_Mo qy_214 qm_12_314)) (js_agV (av := [(0, z1), (0, z2)]) (st := []) rfl rfl js_o83 rfl) rfl rfl (by rw [ql_198]; exact Nat.le_of_ble_eq_true rfl) (Nat.le_of_ble_eq_true rfl) hd hz
theorem b_214_11 {E : js_E} {d : Nat} {σ : js_S} {z0 : Int} : js_J E d 214 11 [(2, 83), (9, 0), (9, 0)] [(0, z0)] σ = js_J E d 214 14 [(2, 83), (0, z0), (9, 0)] [(0, z0), (2, 83)] σ :=
  (j_istore_n (l2 := [(2, 83), (0, z0), (9, 0)]) q_214_11 rfl (Nat.le_of_ble_eq_true rfl)).trans <| (j_aload_n q_214_12 rfl).trans <| (j_iload_n q_214_13 rfl).trans <| rfl
theorem k_214_14 {E : js_E} {d : Nat} {σ σ2 : js_S} {x1 z1 : Int} (hd : 1 ≤ d) (hz : js_J E (d - 1) 215 0 [(2, 83), (0, z1)] [] σ = js_r0 E σ2) : js_J E d 214 14 [(2, 83), (0, x1), (9, 0)] [(0, z1), (2, 83)] σ = js_J E d 214 17 [(2, 83), (0, x1), (9, 0)] [] σ2 :=
  j_call0 (m := 0) (js_caV q_214_14 (js_Mo qy_214 qm_12_317)) (js_agV (av := [(0, z1)]) (st := []) rfl rfl js_o83 rfl) rfl rfl (by rw [ql_215]; exact Nat.le_of_ble_eq_true rfl) (Nat.le_of_ble_eq_true rfl) hd hz
theorem b_214_17 {E : js_E} {d : Nat} {σ : js_S} {x1 : Int} : js_J E d 214 17 [(2, 83), (0, x1), (9, 0)] [] σ = js_J E d 214 20 [(2, 83), (0, x1), (9, 0)] [(0, 58), (2, 83)] σ :=
  (j_aload_n q_214_17 rfl).trans <| (j_bi q_214_18 rfl).trans <| rfl
theorem k_214_20 {E : js_E} {d : Nat} {σ σ2 : js_S} {x1 z1 : Int} (hd : 1 ≤ d) (hz : js_J E (d - 1) 202 0 [(2, 83), (0, z1)] [] σ = js_r0 E σ2) : js_J E d 214 20 [(2, 83), (0, x1), (9, 0)] [(0, z1), (2, 83)] σ = js_J E d 214 23 [(2, 83), (0, x1), (9, 0)] [] σ2 :=
  j_call0 (m := 0) (js_caV q_214_20 (js_Mo qy_214 qm_12_75)) (js_agV (av := [(0, z1)]) (st := []) rfl rfl js_o83 rfl) rfl rfl (by rw [ql_202]; exact Nat.le_of_ble_eq_true rfl) (Nat.le_of_ble_eq_true rfl) hd hz
theorem b_214_23 {E : js_E} {d : Nat} {σ : js_S} {x1 : Int} : js_J E d 214 23 [(2, 83), (0, x1), (9, 0)] [] σ = js_J E d 214 24 [(2, 83), (0, x1), (9, 0)] [(2, 83)] σ :=
  (j_aload_n q_214_23 rfl).trans <| rfl
theorem k_214_24 {E : js_E} {d : Nat} {σ σ2 : js_S} {x1 : Int} (hd : 1 ≤ d) (hz : js_J E (d - 1) 208 0 [(2, 83), (9, 0)] [] σ = js_r0 E σ2) : js_J E d 214 24 [(2, 83), (0, x1), (9, 0)] [(2, 83)] σ = js_J E d 214 27 [(2, 83), (0, x1), (9, 0)] [] σ2 :=
  j_call0 (m := 1) (js_caV q_214_24 (js_Mo qy_214 qm_12_320)) (js_agV (av := []) (st := []) rfl rfl js_o83 rfl) rfl rfl (by rw [ql_208]; exact Nat.le_of_ble_eq_true rfl) (Nat.le_of_ble_eq_true rfl) hd hz
theorem b_214_27 {E : js_E} {d : Nat} {σ : js_S} {x1 : Int} : js_J E d 214 27 [(2, 83), (0, x1), (9, 0)] [] σ = js_J E d 214 30 [(2, 83), (0, x1), (9, 0)] [(0, 61), (2, 83)] σ :=
  (j_aload_n q_214_27 rfl).trans <| (j_bi q_214_28 rfl).trans <| rfl
theorem k_214_30 {E : js_E} {d : Nat} {σ σ2 : js_S} {x1 z1 : Int} (hd : 1 ≤ d) (hz : js_J E (d - 1) 202 0 [(2, 83), (0, z1)] [] σ = js_r0 E σ2) : js_J E d 214 30 [(2, 83), (0, x1), (9, 0)] [(0, z1), (2, 83)] σ = js_J E d 214 33 [(2, 83), (0, x1), (9, 0)] [] σ2 :=
  j_call0 (m := 0) (js_caV q_214_30 (js_Mo qy_214 qm_12_75)) (js_agV (av := [(0, z1)]) (st := []) rfl rfl js_o83 rfl) rfl rfl (by rw [ql_202]; exact Nat.le_of_ble_eq_true rfl) (Nat.le_of_ble_eq_true rfl) hd hz
theorem b_214_33 {E : js_E} {d : Nat} {σ : js_S} {x1 : Int} : js_J E d 214 33 [(2, 83), (0, x1), (9, 0)] [] σ = (if 0 < js_w (σ 83 9) then js_r E (0, (-1)) σ else js_J E d 214 44 [(2, 83), (0, x1), (9, 0)] [(0, x1), (2, 83)] σ) :=
  (j_aload_n q_214_33 rfl).trans <| (j_get (ji := 9) (v := (0, σ 83 9)) q_214_34 (js_Fo qy_214 qf_12_22) js_o83 rfl rfl rfl rfl).trans <| (j_ifle (t := 42) q_214_37 rfl).trans (js_ite ((j_iconst q_214_40).trans <| j_ireturn q_214_41 qr_214) ((j_aload_n q_214_42 rfl).trans <| (j_iload_n q_214_43 rfl).trans <| rfl))
theorem k_214_44 {E : js_E} {d : Nat} {σ σ2 : js_S} {x1 z1 : Int} (hd : 1 ≤ d) (hz : js_J E (d - 1) 210 0 [(2, 83), (0, z1)] [] σ = js_r0 E σ2) : js_J E d 214 44 [(2, 83), (0, x1), (9, 0)] [(0, z1), (2, 83)] σ = js_J E d 214 47 [(2, 83), (0, x1), (9, 0)] [] σ2 :=
  j_call0 (m := 0) (js_caV q_214_44 (js_Mo qy_214 qm_12_323)) (js_agV (av := [(0, z1)]) (st := []) rfl rfl js_o83 rfl) rfl rfl (by rw [ql_210]; exact Nat.le_of_ble_eq_true rfl) (Nat.le_of_ble_eq_true rfl) hd hz
theorem b_214_47 {E : js_E} {d : Nat} {σ : js_S} {x1 : Int} : js_J E d 214 47 [(2, 83), (0, x1), (9, 0)] [] σ = (if 0 ≤ js_w x1 ∧ js_w x1 < 400 then (if js_w (σ 92 (js_w x1)) = 0 then js_J E d 214 117 [(2, 83), (0, x1), (9, 0)] [(1, js_w (σ 83 32)), (1, js_w (σ 83 31)), (0, σ 83 30), (2, 83), (0, x1), (1, 0), (1, 0), (0, 0), (0, 20), (2, 83)] σ else js_J E d 214 57 [(2, 83), (0, x1), (9, 0)] [(2, 83)] σ) else none) :=
  (j_aload_n q_214_47 rfl).trans <| (j_get (ji := 18) (v := (2, 92)) q_214_48 (js_Fo qy_214 qf_12_117) js_o83 rfl rfl rfl rfl).trans <| (j_iload_n q_214_51 rfl).trans <| (j_zaload q_214_52 js_o92).trans <| js_itp fun g0 => (j_ifeq (t := 95) q_214_53 rfl).trans (js_ite ((j_aload_n q_214_95 rfl).trans <| (j_bi q_214_96 rfl).trans <| (j_iconst q_214_98).trans <| (j_lconst0 q_214_99).trans <| (j_lconst0 q_214_100).trans <| (j_iload_n q_214_101 rfl).trans <| (j_aload_n q_214_102 rfl).trans <| (j_aload_n q_214_103 rfl).trans <| (j_get (ji := 30) (v := (0, σ 83 30)) q_214_104 (js_Fo qy_214 qf_12_147) js_o83 rfl rfl rfl rfl).trans <| (j_aload_n q_214_107 rfl).trans <| (j_get (ji := 31) (v := (0, σ 83 31)) q_214_108 (js_Fo qy_214 qf_12_150) js_o83 rfl rfl rfl rfl).trans <| (j_i2l q_214_111).trans <| (j_aload_n q_214_112 rfl).trans <| (j_get (ji := 32) (v := (0, σ 83 32)) q_214_113 (js_Fo qy_214 qf_12_153) js_o83 rfl rfl rfl rfl).trans <| (j_i2l q_214_116).trans <| rfl) ((j_aload_n q_214_56 rfl).trans <| rfl))
theorem k_214_57 {E : js_E} {d : Nat} {σ σ2 : js_S} {x1 : Int} (hd : 1 ≤ d) (hz : js_J E (d - 1) 203 0 [(2, 83), (9, 0), (9, 0)] [] σ = js_r0 E σ2) : js_J E d 214 57 [(2, 83), (0, x1), (9, 0)] [(2, 83)] σ = js_J E d 214 60 [(2, 83), (0, x1), (9, 0)] [] σ2 :=
  j_call0 (m := 2) (js_caV q_214_57 (js_Mo qy_214 qm_12_144)) (js_agV (av := []) (st := []) rfl rfl js_o83 rfl) rfl rfl (by rw [ql_203]; exact Nat.le_of_ble_eq_true rfl) (Nat.le_of_ble_eq_true rfl) hd hz
theorem b_214_60 {E : js_E} {d : Nat} {σ : js_S} {x1 : Int} : js_J E d 214 60 [(2, 83), (0, x1), (9, 0)] [] σ = js_J E d 214 62 [(2, 83), (0, x1), (9, 0)] [(0, x1), (2, 83)] σ :=
  (j_aload_n q_214_60 rfl).trans <| (j_iload_n q_214_61 rfl).trans <| rfl
theorem k_214_62 {E : js_E} {d : Nat} {σ σ2 : js_S} {x1 z1 : Int} (hd : 1 ≤ d) (hz : js_J E (d - 1) 216 0 [(2, 83), (0, z1)] [] σ = js_r0 E σ2) : js_J E d 214 62 [(2, 83), (0, x1), (9, 0)] [(0, z1), (2, 83)] σ = js_J E d 214 65 [(2, 83), (0, x1), (9, 0)] [] σ2 :=
  j_call0 (m := 0) (js_caV q_214_62 (js_Mo qy_214 qm_12_326)) (js_agV (av := [(0, z1)]) (st := []) rfl rfl js_o83 rfl) rfl rfl (by rw [ql_216]; exact Nat.le_of_ble_eq_true rfl) (Nat.le_of_ble_eq_true rfl) hd hz
theorem b_214_65 {E : js_E} {d : Nat} {σ : js_S} {x1 : Int} : js_J E d 214 65 [(2, 83), (0, x1), (9, 0)] [] σ = js_J E d 214 66 [(2, 83), (0, x1), (9, 0)] [(2, 83)] σ :=
  (j_aload_n q_214_65 rfl).trans <| rfl
theorem k_214_66 {E : js_E} {d : Nat} {σ σ2 : js_S} {x1 : Int} (hd : 1 ≤ d) (hz : js_J E (d - 1) 191 0 [(2, 83), (9, 0), (9, 0), (9, 0), (9, 0), (9, 0)] [] σ = js_r0 E σ2) : js_J E d 214 66 [(2, 83), (0, x1), (9, 0)] [(2, 83)] σ = js_J E d 214 69 [(2, 83), (0, x1), (9, 0)] [] σ2 :=
  j_call0 (m := 5) (js_caV q_214_66 (js_Mo qy_214 qm_12_68)) (js_agV (av := []) (st := []) rfl rfl js_o83 rfl) rfl rfl (by rw [ql_191]; exact Nat.le_of_ble_eq_true rfl) (Nat.le_of_ble_eq_true rfl) hd hz
theorem b_214_69 {E : js_E} {d : Nat} {σ : js_S} {x1 : Int} : js_J E d 214 69 [(2, 83), (0, x1), (9, 0)] [] σ = (if 0 ≤ js_w x1 ∧ js_w x1 < 400 then js_J E d 214 88 [(2, 83), (0, x1), (9, 0)] [(0, 0), (0, σ 83 28), (0, x1), (1, 0), (1, 0), (0, 0), (0, 22), (2, 83)] (js_up σ 94 (js_w x1) 0) else none) :=
  (j_aload_n q_214_69 rfl).trans <| (j_get (ji := 20) (v := (2, 94)) q_214_70 (js_Fo qy_214 qf_12_126) js_o83 rfl rfl rfl rfl).trans <| (j_iload_n q_214_73 rfl).trans <| (j_iconst q_214_74).trans <| (j_iastore q_214_75 js_o94).trans <| js_itp fun g0 => (j_aload_n q_214_76 rfl).trans <| (j_bi q_214_77 rfl).trans <| (j_iconst q_214_79).trans <| (j_lconst0 q_214_80).trans <| (j_lconst0 q_214_81).trans <| (j_iload_n q_214_82 rfl).trans <| (j_aload_n q_214_83 rfl).trans <| (j_get (ji := 28) (v := (0, σ 83 28)) q_214_84 (js_Fo qy_214 qf_12_141) js_o83 rfl rfl rfl (congrArg (Prod.mk 0) ((js_up_na _ (by decide))))).trans <| (j_iconst q_214_87).trans <| rfl
theorem k_214_88 {E : js_E} {d : Nat} {σ σ2 : js_S} {x1 z1 z2 z3 z4 z5 z6 z7 : Int} {v : Int} (hd : 1 ≤ d) (hz : js_J E (d - 1) 217 0 [(2, 83), (0, z1), (0, z2), (1, z3), (9, 0), (1, z4), (9, 0), (0, z5), (0, z6), (0, z7), (9, 0)] [] σ = js_r E (0, v) σ2) : js_J E d 214 88 [(2, 83), (0, x1), (9, 0)] [(0, z7), (0, z6), (0, z5), (1, z4), (1, z3), (0, z2), (0, z1), (2, 83)] σ = js_J E d 214 91 [(2, 83), (0, x1), (9, 0)] [(0, v)] σ2 :=
  j_call (m := 1) (js_caV q_214_88 (js_Mo qy_214 qm_12_208)) (js_agV (av := [(0, z1), (0, z2), (1, z3), (1, z4), (0, z5), (0, z6), (0, z7)]) (st := []) rfl rfl js_o83 rfl) rfl rfl (by rw [ql_217]; exact Nat.le_of_ble_eq_true rfl) (Nat.le_of_ble_eq_true rfl) hd hz
theorem b_214_91 {E : js_E} {d : Nat} {σ : js_S} {x1 z0 : Int} : js_J E d 214 91 [(2, 83), (0, x1), (9, 0)] [(0, z0)] σ = js_J E d 214 125 [(2, 83), (0, x1), (0, z0)] [] σ :=
  (j_istore_n (l2 := [(2, 83), (0, x1), (0, z0)]) q_214_91 rfl (Nat.le_of_ble_eq_true rfl)).trans <| (j_goto (t := 125) q_214_92 rfl).trans <| rfl
theorem k_214_117 {E : js_E} {d : Nat} {σ σ2 : js_S} {x1 z1 z2 z3 z4 z5 z7 z8 z9 : Int} {v : Int} (hd : 1 ≤ d) (hz : js_J E (d - 1) 218 0 [(2, 83), (0, z7), (1, z8), (9, 0), (1, z9), (9, 0), (9, 0), (9, 0)] [] σ = js_r E (0, v) σ2) : js_J E d 214 117 [(2, 83), (0, x1), (9, 0)] [(1, z9), (1, z8), (0, z7), (2, 83), (0, z5), (1, z4), (1, z3), (0, z2), (0, z1), (2, 83)] σ = js_J E d 214 120 [(2, 83), (0, x1), (9, 0)] [(0, v), (0, z5), (1, z4), (1, z3), (0, z2), (0, z1), (2, 83)] σ2 :=
  j_call (m := 2) (js_caV q_214_117 (js_Mo qy_214 qm_12_280)) (js_agV (av := [(0, z7), (1, z8), (1, z9)]) (st := [(0, z5), (1, z4), (1, z3), (0, z2), (0, z1), (2, 83)]) rfl rfl js_o83 rfl) rfl rfl (by rw [ql_218]; exact Nat.le_of_ble_eq_true rfl) (Nat.le_of_ble_eq_true rfl) hd hz
theorem b_214_120 {E : js_E} {d : Nat} {σ : js_S} {x1 z1 z2 z3 z4 z5 z6 : Int} : js_J E d 214 120 [(2, 83), (0, x1), (9, 0)] [(0, z6), (0, z5), (1, z4), (1, z3), (0, z2), (0, z1), (2, 83)] σ = js_J E d 214 121 [(2, 83), (0, x1), (9, 0)] [(0, 0), (0, z6), (0, z5), (1, z4), (1, z3), (0, z2), (0, z1), (2, 83)] σ :=
  (j_iconst q_214_120).trans <| rfl
theorem k_214_121 {E : js_E} {d : Nat} {σ σ2 : js_S} {x1 z1 z2 z3 z4 z5 z6 z7 : Int} {v : Int} (hd : 1 ≤ d) (hz : js_J E (d - 1) 217 0 [(2, 83), (0, z1), (0, z2), (1, z3), (9, 0), (1, z4), (9, 0), (0, z5), (0, z6), (0, z7), (9, 0)] [] σ = js_r E (0, v) σ2) : js_J E d 214 121 [(2, 83), (0, x1), (9, 0)] [(0, z7), (0, z6), (0, z5), (1, z4), (1, z3), (0, z2), (0, z1), (2, 83)] σ = js_J E d 214 124 [(2, 83), (0, x1), (9, 0)] [(0, v)] σ2 :=
  j_call (m := 1) (js_caV q_214_121 (js_Mo qy_214 qm_12_208)) (js_agV (av := [(0, z1), (0, z2), (1, z3), (1, z4), (0, z5), (0, z6), (0, z7)]) (st := []) rfl rfl js_o83 rfl) rfl rfl (by rw [ql_217]; exact Nat.le_of_ble_eq_true rfl) (Nat.le_of_ble_eq_true rfl) hd hz
theorem b_214_124 {E : js_E} {d : Nat} {σ : js_S} {x1 z0 : Int} : js_J E d 214 124 [(2, 83), (0, x1), (9, 0)] [(0, z0)] σ = js_J E d 214 125 [(2, 83), (0, x1), (0, z0)] [] σ :=
  (j_istore_n (l2 := [(2, 83), (0, x1), (0, z0)]) q_214_124 rfl (Nat.le_of_ble_eq_true rfl)).trans <| rfl
theorem b_214_125 {E : js_E} {d : Nat} {σ : js_S} {x1 x2 : Int} : js_J E d 214 125 [(2, 83), (0, x1), (0, x2)] [] σ = js_J E d 214 128 [(2, 83), (0, x1), (0, x2)] [(0, 59), (2, 83)] σ :=
  (j_aload_n q_214_125 rfl).trans <| (j_bi q_214_126 rfl).trans <| rfl
theorem k_214_128 {E : js_E} {d : Nat} {σ σ2 : js_S} {x1 x2 z1 : Int} (hd : 1 ≤ d) (hz : js_J E (d - 1) 202 0 [(2, 83), (0, z1)] [] σ = js_r0 E σ2) : js_J E d 214 128 [(2, 83), (0, x1), (0, x2)] [(0, z1), (2, 83)] σ = js_J E d 214 131 [(2, 83), (0, x1), (0, x2)] [] σ2 :=
  j_call0 (m := 0) (js_caV q_214_128 (js_Mo qy_214 qm_12_75)) (js_agV (av := [(0, z1)]) (st := []) rfl rfl js_o83 rfl) rfl rfl (by rw [ql_202]; exact Nat.le_of_ble_eq_true rfl) (Nat.le_of_ble_eq_true rfl) hd hz
theorem b_214_131 {E : js_E} {d : Nat} {σ : js_S} {x1 x2 : Int} : js_J E d 214 131 [(2, 83), (0, x1), (0, x2)] [] σ = (if js_w (σ 83 9) = 0 then (if 0 ≤ js_w x1 ∧ js_w x1 < 400 then js_r E (0, x2) (js_up σ 99 (js_w x1) (js_iand 1 1)) else none) else js_r E (0, x2) σ) :=
  (j_aload_n q_214_131 rfl).trans <| (j_get (ji := 9) (v := (0, σ 83 9)) q_214_132 (js_Fo qy_214 qf_12_22) js_o83 rfl rfl rfl rfl).trans <| (j_ifne (t := 145) q_214_135 rfl).trans (js_ite ((j_aload_n q_214_138 rfl).trans <| (j_get (ji := 25) (v := (2, 99)) q_214_139 (js_Fo qy_214 qf_12_89) js_o83 rfl rfl rfl rfl).trans <| (j_iload_n q_214_142 rfl).trans <| (j_iconst q_214_143).trans <| (j_zastore q_214_144 js_o99).trans <| js_itp fun g0 => (j_iload_n q_214_145 rfl).trans <| j_ireturn q_214_146 qr_214) ((j_iload_n q_214_145 rfl).trans <| j_ireturn q_214_146 qr_214))
-- 215: VitalTwinModel.length (I)V
theorem b_215_0 {E : js_E} {d : Nat} {σ : js_S} {x1 : Int} : js_J E d 215 0 [(2, 83), (0, x1)] [] σ = (if js_w (σ 83 5) = 91 then js_J E d 215 13 [(2, 83), (0, x1)] [(0, 91), (2, 83)] σ else js_r0 E σ) :=
  (j_aload_n q_215_0 rfl).trans <| (j_get (ji := 5) (v := (0, σ 83 5)) q_215_1 (js_Fo qy_215 qf_12_25) js_o83 rfl rfl rfl rfl).trans <| (j_bi q_215_4 rfl).trans <| (j_cmpeqB (t := 10) q_215_6 rfl ww_91).trans (js_ite ((j_aload_n q_215_10 rfl).trans <| (j_bi q_215_11 rfl).trans <| rfl) (j_return q_215_9 qr_215))
theorem k_215_13 {E : js_E} {d : Nat} {σ σ2 : js_S} {x1 z1 : Int} (hd : 1 ≤ d) (hz : js_J E (d - 1) 207 0 [(2, 83), (0, z1)] [] σ = js_r0 E σ2) : js_J E d 215 13 [(2, 83), (0, x1)] [(0, z1), (2, 83)] σ = js_J E d 215 16 [(2, 83), (0, x1)] [] σ2 :=
  j_call0 (m := 0) (js_caV q_215_13 (js_Mo qy_215 qm_12_159)) (js_agV (av := [(0, z1)]) (st := []) rfl rfl js_o83 rfl) rfl rfl (by rw [ql_207]; exact Nat.le_of_ble_eq_true rfl) (Nat.le_of_ble_eq_true rfl) hd hz
theorem b_215_16 {E : js_E} {d : Nat} {σ : js_S} {x1 : Int} : js_J E d 215 16 [(2, 83), (0, x1)] [] σ = js_J E d 215 18 [(2, 83), (0, x1)] [(0, 0), (2, 83)] σ :=
  (j_aload_n q_215_16 rfl).trans <| (j_iconst q_215_17).trans <| rfl
theorem k_215_18 {E : js_E} {d : Nat} {σ σ2 : js_S} {x1 z1 : Int} (hd : 1 ≤ d) (hz : js_J E (d - 1) 209 0 [(2, 83), (0, z1)] [] σ = js_r0 E σ2) : js_J E d 215 18 [(2, 83), (0, x1)] [(0, z1), (2, 83)] σ = js_J E d 215 21 [(2, 83), (0, x1)] [] σ2 :=
  j_call0 (m := 0) (js_caV q_215_18 (js_Mo qy_215 qm_12_156)) (js_agV (av := [(0, z1)]) (st := []) rfl rfl js_o83 rfl) rfl rfl (by rw [ql_209]; exact Nat.le_of_ble_eq_true rfl) (Nat.le_of_ble_eq_true rfl) hd hz
theorem b_215_21 {E : js_E} {d : Nat} {σ : js_S} {x1 : Int} : js_J E d 215 21 [(2, 83), (0, x1)] [] σ = (if js_w (σ 83 9) = 0 then (if js_w (σ 83 28) < 1 then js_J E d 215 46 [(2, 83), (0, x1)] [] σ else (if 4096 < js_w (σ 83 28) then js_J E d 215 46 [(2, 83), (0, x1)] [] σ else js_J E d 215 55 [(2, 83), (0, x1)] [] σ)) else js_J E d 215 55 [(2, 83), (0, x1)] [] σ) :=
  (j_aload_n q_215_21 rfl).trans <| (j_get (ji := 9) (v := (0, σ 83 9)) q_215_22 (js_Fo qy_215 qf_12_22) js_o83 rfl rfl rfl rfl).trans <| (j_ifne (t := 55) q_215_25 rfl).trans (js_ite ((j_aload_n q_215_28 rfl).trans <| (j_get (ji := 28) (v := (0, σ 83 28)) q_215_29 (js_Fo qy_215 qf_12_141) js_o83 rfl rfl rfl rfl).trans <| (j_iconst q_215_32).trans <| (j_cmpltB (t := 46) q_215_33 rfl ww_1).trans (js_ite (rfl) ((j_aload_n q_215_36 rfl).trans <| (j_get (ji := 28) (v := (0, σ 83 28)) q_215_37 (js_Fo qy_215 qf_12_141) js_o83 rfl rfl rfl rfl).trans <| (j_si q_215_40 rfl).trans <| (j_cmpleB (t := 55) q_215_43 rfl ww_4096).trans (js_ite (rfl) (rfl))))) (rfl))
theorem b_215_46 {E : js_E} {d : Nat} {σ : js_S} {x1 : Int} : js_J E d 215 46 [(2, 83), (0, x1)] [] σ = js_J E d 215 52 [(2, 83), (0, x1)] [(0, σ 83 29), (0, 4), (2, 83)] σ :=
  (j_aload_n q_215_46 rfl).trans <| (j_iconst q_215_47).trans <| (j_aload_n q_215_48 rfl).trans <| (j_get (ji := 29) (v := (0, σ 83 29)) q_215_49 (js_Fo qy_215 qf_12_135) js_o83 rfl rfl rfl rfl).trans <| rfl
theorem k_215_52 {E : js_E} {d : Nat} {σ σ2 : js_S} {x1 z1 z2 : Int} (hd : 1 ≤ d) (hz : js_J E (d - 1) 199 0 [(2, 83), (0, z1), (0, z2)] [] σ = js_r0 E σ2) : js_J E d 215 52 [(2, 83), (0, x1)] [(0, z2), (0, z1), (2, 83)] σ = js_J E d 215 55 [(2, 83), (0, x1)] [] σ2 :=
  j_call0 (m := 0) (js_caV q_215_52 (js_Mo qy_215 qm_12_65)) (js_agV (av := [(0, z1), (0, z2)]) (st := []) rfl rfl js_o83 rfl) rfl rfl (by rw [ql_199]; exact Nat.le_of_ble_eq_true rfl) (Nat.le_of_ble_eq_true rfl) hd hz
theorem b_215_55 {E : js_E} {d : Nat} {σ : js_S} {x1 : Int} : js_J E d 215 55 [(2, 83), (0, x1)] [] σ = js_J E d 215 56 [(2, 83), (0, x1)] [(2, 83)] σ :=
  (j_aload_n q_215_55 rfl).trans <| rfl
theorem k_215_56 {E : js_E} {d : Nat} {σ σ2 : js_S} {x1 : Int} (hd : 1 ≤ d) (hz : js_J E (d - 1) 191 0 [(2, 83), (9, 0), (9, 0), (9, 0), (9, 0), (9, 0)] [] σ = js_r0 E σ2) : js_J E d 215 56 [(2, 83), (0, x1)] [(2, 83)] σ = js_J E d 215 59 [(2, 83), (0, x1)] [] σ2 :=
  j_call0 (m := 5) (js_caV q_215_56 (js_Mo qy_215 qm_12_68)) (js_agV (av := []) (st := []) rfl rfl js_o83 rfl) rfl rfl (by rw [ql_191]; exact Nat.le_of_ble_eq_true rfl) (Nat.le_of_ble_eq_true rfl) hd hz
theorem b_215_59 {E : js_E} {d : Nat} {σ : js_S} {x1 : Int} : js_J E d 215 59 [(2, 83), (0, x1)] [] σ = js_J E d 215 62 [(2, 83), (0, x1)] [(0, 93), (2, 83)] σ :=
  (j_aload_n q_215_59 rfl).trans <| (j_bi q_215_60 rfl).trans <| rfl
theorem k_215_62 {E : js_E} {d : Nat} {σ σ2 : js_S} {x1 z1 : Int} (hd : 1 ≤ d) (hz : js_J E (d - 1) 211 0 [(2, 83), (0, z1)] [] σ = js_r0 E σ2) : js_J E d 215 62 [(2, 83), (0, x1)] [(0, z1), (2, 83)] σ = js_J E d 215 65 [(2, 83), (0, x1)] [] σ2 :=
  j_call0 (m := 0) (js_caV q_215_62 (js_Mo qy_215 qm_12_162)) (js_agV (av := [(0, z1)]) (st := []) rfl rfl js_o83 rfl) rfl rfl (by rw [ql_211]; exact Nat.le_of_ble_eq_true rfl) (Nat.le_of_ble_eq_true rfl) hd hz
theorem b_215_65 {E : js_E} {d : Nat} {σ : js_S} {x1 : Int} : js_J E d 215 65 [(2, 83), (0, x1)] [] σ = (if 0 ≤ js_w x1 ∧ js_w x1 < 400 then js_r0 E (js_up (js_up σ 92 (js_w x1) (js_iand 1 1)) 91 (js_w x1) (σ 83 28)) else none) :=
  (j_aload_n q_215_65 rfl).trans <| (j_get (ji := 18) (v := (2, 92)) q_215_66 (js_Fo qy_215 qf_12_117) js_o83 rfl rfl rfl rfl).trans <| (j_iload_n q_215_69 rfl).trans <| (j_iconst q_215_70).trans <| (j_zastore q_215_71 js_o92).trans <| js_itp fun g0 => (j_aload_n q_215_72 rfl).trans <| (j_get (ji := 17) (v := (2, 91)) q_215_73 (js_Fo qy_215 qf_12_114) js_o83 rfl rfl rfl rfl).trans <| (j_iload_n q_215_76 rfl).trans <| (j_aload_n q_215_77 rfl).trans <| (j_get (ji := 28) (v := (0, σ 83 28)) q_215_78 (js_Fo qy_215 qf_12_141) js_o83 rfl rfl rfl (congrArg (Prod.mk 0) ((js_up_na _ (by decide))))).trans <| (j_iastore q_215_81 js_o91).trans <| (if_pos g0).trans <| j_return q_215_82 qr_215
-- 216: VitalTwinModel.fits (I)V
theorem b_216_0 {E : js_E} {d : Nat} {σ : js_S} {x1 : Int} : js_J E d 216 0 [(2, 83), (0, x1)] [] σ = (if js_w (σ 83 9) = 0 then (if 0 ≤ js_w x1 ∧ js_w x1 < 400 then (if js_w (σ 83 27) = js_w (σ 87 (js_w x1)) then js_J E d 216 29 [(2, 83), (0, x1)] [] σ else js_J E d 216 26 [(2, 83), (0, x1)] [(0, σ 83 29), (0, 5), (2, 83)] σ) else none) else js_J E d 216 29 [(2, 83), (0, x1)] [] σ) :=
  (j_aload_n q_216_0 rfl).trans <| (j_get (ji := 9) (v := (0, σ 83 9)) q_216_1 (js_Fo qy_216 qf_12_22) js_o83 rfl rfl rfl rfl).trans <| (j_ifne (t := 29) q_216_4 rfl).trans (js_ite ((j_aload_n q_216_7 rfl).trans <| (j_get (ji := 27) (v := (0, σ 83 27)) q_216_8 (js_Fo qy_216 qf_12_138) js_o83 rfl rfl rfl rfl).trans <| (j_aload_n q_216_11 rfl).trans <| (j_get (ji := 13) (v := (2, 87)) q_216_12 (js_Fo qy_216 qf_12_102) js_o83 rfl rfl rfl rfl).trans <| (j_iload_n q_216_15 rfl).trans <| (j_iaload q_216_16 js_o87).trans <| js_itp fun g0 => (j_cmpeq (t := 29) q_216_17 rfl).trans (js_ite (rfl) ((j_aload_n q_216_20 rfl).trans <| (j_iconst q_216_21).trans <| (j_aload_n q_216_22 rfl).trans <| (j_get (ji := 29) (v := (0, σ 83 29)) q_216_23 (js_Fo qy_216 qf_12_135) js_o83 rfl rfl rfl rfl).trans <| rfl))) (rfl))
theorem k_216_26 {E : js_E} {d : Nat} {σ σ2 : js_S} {x1 z1 z2 : Int} (hd : 1 ≤ d) (hz : js_J E (d - 1) 199 0 [(2, 83), (0, z1), (0, z2)] [] σ = js_r0 E σ2) : js_J E d 216 26 [(2, 83), (0, x1)] [(0, z2), (0, z1), (2, 83)] σ = js_J E d 216 29 [(2, 83), (0, x1)] [] σ2 :=
  j_call0 (m := 0) (js_caV q_216_26 (js_Mo qy_216 qm_12_65)) (js_agV (av := [(0, z1), (0, z2)]) (st := []) rfl rfl js_o83 rfl) rfl rfl (by rw [ql_199]; exact Nat.le_of_ble_eq_true rfl) (Nat.le_of_ble_eq_true rfl) hd hz
theorem b_216_29 {E : js_E} {d : Nat} {σ : js_S} {x1 : Int} : js_J E d 216 29 [(2, 83), (0, x1)] [] σ = (if js_w (σ 83 9) = 0 then (if 0 ≤ js_w x1 ∧ js_w x1 < 400 then (if js_w (σ 83 28) < js_w (σ 88 (js_w x1)) then js_J E d 216 62 [(2, 83), (0, x1)] [] σ else (if js_w (σ 89 (js_w x1)) < js_w (σ 83 28) then js_J E d 216 62 [(2, 83), (0, x1)] [] σ else js_J E d 216 72 [(2, 83), (0, x1)] [] σ)) else none) else js_J E d 216 72 [(2, 83), (0, x1)] [] σ) :=
  (j_aload_n q_216_29 rfl).trans <| (j_get (ji := 9) (v := (0, σ 83 9)) q_216_30 (js_Fo qy_216 qf_12_22) js_o83 rfl rfl rfl rfl).trans <| (j_ifne (t := 72) q_216_33 rfl).trans (js_ite ((j_aload_n q_216_36 rfl).trans <| (j_get (ji := 28) (v := (0, σ 83 28)) q_216_37 (js_Fo qy_216 qf_12_141) js_o83 rfl rfl rfl rfl).trans <| (j_aload_n q_216_40 rfl).trans <| (j_get (ji := 14) (v := (2, 88)) q_216_41 (js_Fo qy_216 qf_12_105) js_o83 rfl rfl rfl rfl).trans <| (j_iload_n q_216_44 rfl).trans <| (j_iaload q_216_45 js_o88).trans <| js_itp fun g0 => (j_cmplt (t := 62) q_216_46 rfl).trans (js_ite (rfl) ((j_aload_n q_216_49 rfl).trans <| (j_get (ji := 28) (v := (0, σ 83 28)) q_216_50 (js_Fo qy_216 qf_12_141) js_o83 rfl rfl rfl rfl).trans <| (j_aload_n q_216_53 rfl).trans <| (j_get (ji := 15) (v := (2, 89)) q_216_54 (js_Fo qy_216 qf_12_108) js_o83 rfl rfl rfl rfl).trans <| (j_iload_n q_216_57 rfl).trans <| (j_iaload q_216_58 js_o89).trans <| (if_pos g0).trans <| (j_cmple (t := 72) q_216_59 rfl).trans (js_ite (rfl) (rfl))))) (rfl))
theorem b_216_62 {E : js_E} {d : Nat} {σ : js_S} {x1 : Int} : js_J E d 216 62 [(2, 83), (0, x1)] [] σ = js_J E d 216 69 [(2, 83), (0, x1)] [(0, σ 83 29), (0, 6), (2, 83)] σ :=
  (j_aload_n q_216_62 rfl).trans <| (j_bi q_216_63 rfl).trans <| (j_aload_n q_216_65 rfl).trans <| (j_get (ji := 29) (v := (0, σ 83 29)) q_216_66 (js_Fo qy_216 qf_12_135) js_o83 rfl rfl rfl rfl).trans <| rfl
theorem k_216_69 {E : js_E} {d : Nat} {σ σ2 : js_S} {x1 z1 z2 : Int} (hd : 1 ≤ d) (hz : js_J E (d - 1) 199 0 [(2, 83), (0, z1), (0, z2)] [] σ = js_r0 E σ2) : js_J E d 216 69 [(2, 83), (0, x1)] [(0, z2), (0, z1), (2, 83)] σ = js_J E d 216 72 [(2, 83), (0, x1)] [] σ2 :=
  j_call0 (m := 0) (js_caV q_216_69 (js_Mo qy_216 qm_12_65)) (js_agV (av := [(0, z1), (0, z2)]) (st := []) rfl rfl js_o83 rfl) rfl rfl (by rw [ql_199]; exact Nat.le_of_ble_eq_true rfl) (Nat.le_of_ble_eq_true rfl) hd hz
theorem b_216_72 {E : js_E} {d : Nat} {σ : js_S} {x1 : Int} : js_J E d 216 72 [(2, 83), (0, x1)] [] σ = (if 0 ≤ js_w x1 ∧ js_w x1 < 400 then js_r0 E (js_up σ 94 (js_w x1) (σ 83 28)) else none) :=
  (j_aload_n q_216_72 rfl).trans <| (j_get (ji := 20) (v := (2, 94)) q_216_73 (js_Fo qy_216 qf_12_126) js_o83 rfl rfl rfl rfl).trans <| (j_iload_n q_216_76 rfl).trans <| (j_aload_n q_216_77 rfl).trans <| (j_get (ji := 28) (v := (0, σ 83 28)) q_216_78 (js_Fo qy_216 qf_12_141) js_o83 rfl rfl rfl rfl).trans <| (j_iastore q_216_81 js_o94).trans <| js_itp fun g0 => j_return q_216_82 qr_216
-- 217: VitalTwinModel.node (IIJJIII)I
theorem b_217_0 {E : js_E} {d : Nat} {σ : js_S} {x1 x2 x3 x5 x7 x8 x9 : Int} : js_J E d 217 0 [(2, 83), (0, x1), (0, x2), (1, x3), (9, 0), (1, x5), (9, 0), (0, x7), (0, x8), (0, x9), (9, 0)] [] σ = (if 0 < js_w (σ 83 9) then js_r E (0, 0) σ else (if js_w (σ 83 33) = 66000 then js_r E (0, 0) σ else (if 0 ≤ js_w (σ 83 33) ∧ js_w (σ 83 33) < 66000 then js_r E (0, σ 83 33) (js_up (js_up (js_up (js_up (js_up (js_up (js_up (js_up (js_up σ 100 (js_w (σ 83 33)) (js_i2b (js_i2b x1))) 101 (js_w (σ 83 33)) x2) 105 (js_w (σ 83 33)) x3) 106 (js_w (σ 83 33)) x5) 102 (js_w (σ 83 33)) x7) 103 (js_w (σ 83 33)) x8) 104 (js_w (σ 83 33)) x9) 107 (js_w (σ 83 33)) (-1)) 83 33 ((σ 83 33) + 1)) else none))) :=
  (j_aload_n q_217_0 rfl).trans <| (j_get (ji := 9) (v := (0, σ 83 9)) q_217_1 (js_Fo qy_217 qf_12_22) js_o83 rfl rfl rfl rfl).trans <| (j_ifgt (t := 16) q_217_4 rfl).trans (js_ite ((j_iconst q_217_16).trans <| j_ireturn q_217_17 qr_217) ((j_aload_n q_217_7 rfl).trans <| (j_get (ji := 33) (v := (0, σ 83 33)) q_217_8 (js_Fo qy_217 qf_12_165) js_o83 rfl rfl rfl rfl).trans <| (j_ldc (v := (0, 66000)) q_217_11 (js_Co qy_217 qc_12_168)).trans <| (j_cmpneB (t := 18) q_217_13 rfl ww_66000).trans (js_ite ((j_iconst q_217_16).trans <| j_ireturn q_217_17 qr_217) ((j_aload_n q_217_18 rfl).trans <| (j_get (ji := 33) (v := (0, σ 83 33)) q_217_19 (js_Fo qy_217 qf_12_165) js_o83 rfl rfl rfl rfl).trans <| (j_istore (l2 := [(2, 83), (0, x1), (0, x2), (1, x3), (9, 0), (1, x5), (9, 0), (0, x7), (0, x8), (0, x9), (0, σ 83 33)]) q_217_22 rfl (Nat.le_of_ble_eq_true rfl)).trans <| (j_aload_n q_217_24 rfl).trans <| (j_get (ji := 34) (v := (2, 100)) q_217_25 (js_Fo qy_217 qf_12_169) js_o83 rfl rfl rfl rfl).trans <| (j_iload q_217_28 rfl).trans <| (j_iload_n q_217_30 rfl).trans <| (j_i2b q_217_31).trans <| (j_bastore q_217_32 js_o100).trans <| js_itp fun g0 => (j_aload_n q_217_33 rfl).trans <| (j_get (ji := 35) (v := (2, 101)) q_217_34 (js_Fo qy_217 qf_12_172) js_o83 rfl rfl rfl rfl).trans <| (j_iload q_217_37 rfl).trans <| (j_iload_n q_217_39 rfl).trans <| (j_iastore q_217_40 js_o101).trans <| (if_pos g0).trans <| (j_aload_n q_217_41 rfl).trans <| (j_get (ji := 39) (v := (2, 105)) q_217_42 (js_Fo qy_217 qf_12_175) js_o83 rfl rfl rfl rfl).trans <| (j_iload q_217_45 rfl).trans <| (j_lload_n q_217_47 rfl).trans <| (j_l2i q_217_48).trans <| (j_iastore q_217_49 js_o105).trans <| (if_pos g0).trans <| (j_aload_n q_217_50 rfl).trans <| (j_get (ji := 40) (v := (2, 106)) q_217_51 (js_Fo qy_217 qf_12_178) js_o83 rfl rfl rfl rfl).trans <| (j_iload q_217_54 rfl).trans <| (j_lload q_217_56 rfl).trans <| (j_l2i q_217_58).trans <| (j_iastore q_217_59 js_o106).trans <| (if_pos g0).trans <| (j_aload_n q_217_60 rfl).trans <| (j_get (ji := 36) (v := (2, 102)) q_217_61 (js_Fo qy_217 qf_12_181) js_o83 rfl rfl rfl rfl).trans <| (j_iload q_217_64 rfl).trans <| (j_iload q_217_66 rfl).trans <| (j_iastore q_217_68 js_o102).trans <| (if_pos g0).trans <| (j_aload_n q_217_69 rfl).trans <| (j_get (ji := 37) (v := (2, 103)) q_217_70 (js_Fo qy_217 qf_12_184) js_o83 rfl rfl rfl rfl).trans <| (j_iload q_217_73 rfl).trans <| (j_iload q_217_75 rfl).trans <| (j_iastore q_217_77 js_o103).trans <| (if_pos g0).trans <| (j_aload_n q_217_78 rfl).trans <| (j_get (ji := 38) (v := (2, 104)) q_217_79 (js_Fo qy_217 qf_12_187) js_o83 rfl rfl rfl rfl).trans <| (j_iload q_217_82 rfl).trans <| (j_iload q_217_84 rfl).trans <| (j_iastore q_217_86 js_o104).trans <| (if_pos g0).trans <| (j_aload_n q_217_87 rfl).trans <| (j_get (ji := 41) (v := (2, 107)) q_217_88 (js_Fo qy_217 qf_12_190) js_o83 rfl rfl rfl rfl).trans <| (j_iload q_217_91 rfl).trans <| (j_iconst q_217_93).trans <| (j_iastore q_217_94 js_o107).trans <| (if_pos g0).trans <| (j_aload_n q_217_95 rfl).trans <| (j_dupr q_217_96).trans <| (j_get (ji := 33) (v := (0, σ 83 33)) q_217_97 (js_Fo qy_217 qf_12_165) js_o83 rfl rfl rfl (congrArg (Prod.mk 0) ((js_up_na _ (by decide)).trans <| (js_up_na _ (by decide)).trans <| (js_up_na _ (by decide)).trans <| (js_up_na _ (by decide)).trans <| (js_up_na _ (by decide)).trans <| (js_up_na _ (by decide)).trans <| (js_up_na _ (by decide)).trans <| (js_up_na _ (by decide))))).trans <| (j_iconst q_217_100).trans <| (j_iadd q_217_101).trans <| (j_putI (ji := 33) q_217_102 (js_Fo qy_217 qf_12_165) rfl js_o83 rfl rfl rfl).trans <| (j_iload q_217_105 rfl).trans <| j_ireturn q_217_107 qr_217))))
-- 218: VitalTwinModel.termFor (IJJ)I
theorem b_218_0 {E : js_E} {d : Nat} {σ : js_S} {x1 x2 x4 : Int} : js_J E d 218 0 [(2, 83), (0, x1), (1, x2), (9, 0), (1, x4), (9, 0), (9, 0), (9, 0)] [] σ = js_J E d 218 7 [(2, 83), (0, x1), (1, x2), (9, 0), (1, x4), (9, 0), (0, σ 83 6), (9, 0)] [(2, 83)] σ :=
  (j_aload_n q_218_0 rfl).trans <| (j_get (ji := 6) (v := (0, σ 83 6)) q_218_1 (js_Fo qy_218 qf_12_35) js_o83 rfl rfl rfl rfl).trans <| (j_istore (l2 := [(2, 83), (0, x1), (1, x2), (9, 0), (1, x4), (9, 0), (0, σ 83 6), (9, 0)]) q_218_4 rfl (Nat.le_of_ble_eq_true rfl)).trans <| (j_aload_n q_218_6 rfl).trans <| rfl
theorem k_218_7 {E : js_E} {d : Nat} {σ σ2 : js_S} {x1 x2 x4 x6 : Int} {v : Int} (hd : 1 ≤ d) (hz : js_J E (d - 1) 219 0 [(2, 83), (9, 0), (9, 0), (9, 0), (9, 0)] [] σ = js_r E (0, v) σ2) : js_J E d 218 7 [(2, 83), (0, x1), (1, x2), (9, 0), (1, x4), (9, 0), (0, x6), (9, 0)] [(2, 83)] σ = js_J E d 218 10 [(2, 83), (0, x1), (1, x2), (9, 0), (1, x4), (9, 0), (0, x6), (9, 0)] [(0, v)] σ2 :=
  j_call (m := 4) (js_caV q_218_7 (js_Mo qy_218 qm_12_193)) (js_agV (av := []) (st := []) rfl rfl js_o83 rfl) rfl rfl (by rw [ql_219]; exact Nat.le_of_ble_eq_true rfl) (Nat.le_of_ble_eq_true rfl) hd hz
theorem b_218_10 {E : js_E} {d : Nat} {σ : js_S} {x1 x2 x4 x6 z0 : Int} : js_J E d 218 10 [(2, 83), (0, x1), (1, x2), (9, 0), (1, x4), (9, 0), (0, x6), (9, 0)] [(0, z0)] σ = (if 0 < js_w (σ 83 9) then js_r E (0, 0) σ else (if 0 ≤ js_w z0 ∧ js_w z0 < 66000 then (if js_w (σ 101 (js_w z0)) = js_w x1 then (if js_l (js_w (σ 105 (js_w z0))) < js_l x2 then js_J E d 218 69 [(2, 83), (0, x1), (1, x2), (9, 0), (1, x4), (9, 0), (0, x6), (0, z0)] [] σ else (if js_l x4 < js_l (js_w (σ 106 (js_w z0))) then js_J E d 218 69 [(2, 83), (0, x1), (1, x2), (9, 0), (1, x4), (9, 0), (0, x6), (0, z0)] [] σ else js_J E d 218 77 [(2, 83), (0, x1), (1, x2), (9, 0), (1, x4), (9, 0), (0, x6), (0, z0)] [] σ)) else js_J E d 218 36 [(2, 83), (0, x1), (1, x2), (9, 0), (1, x4), (9, 0), (0, x6), (0, z0)] [(0, x6), (0, 5), (2, 83)] σ) else none)) :=
  (j_istore (l2 := [(2, 83), (0, x1), (1, x2), (9, 0), (1, x4), (9, 0), (0, x6), (0, z0)]) q_218_10 rfl (Nat.le_of_ble_eq_true rfl)).trans <| (j_aload_n q_218_12 rfl).trans <| (j_get (ji := 9) (v := (0, σ 83 9)) q_218_13 (js_Fo qy_218 qf_12_22) js_o83 rfl rfl rfl rfl).trans <| (j_ifle (t := 21) q_218_16 rfl).trans (js_ite ((j_iconst q_218_19).trans <| j_ireturn q_218_20 qr_218) ((j_aload_n q_218_21 rfl).trans <| (j_get (ji := 35) (v := (2, 101)) q_218_22 (js_Fo qy_218 qf_12_172) js_o83 rfl rfl rfl rfl).trans <| (j_iload q_218_25 rfl).trans <| (j_iaload q_218_27 js_o101).trans <| js_itp fun g0 => (j_iload_n q_218_28 rfl).trans <| (j_cmpeq (t := 42) q_218_29 rfl).trans (js_ite ((j_aload_n q_218_42 rfl).trans <| (j_get (ji := 39) (v := (2, 105)) q_218_43 (js_Fo qy_218 qf_12_175) js_o83 rfl rfl rfl rfl).trans <| (j_iload q_218_46 rfl).trans <| (j_iaload q_218_48 js_o105).trans <| (if_pos g0).trans <| (j_i2l q_218_49).trans <| (j_lload_n q_218_50 rfl).trans <| (j_llt (t := 69) q_218_51 q_218_52 rfl).trans (js_ite (rfl) ((j_aload_n q_218_55 rfl).trans <| (j_get (ji := 40) (v := (2, 106)) q_218_56 (js_Fo qy_218 qf_12_178) js_o83 rfl rfl rfl rfl).trans <| (j_iload q_218_59 rfl).trans <| (j_iaload q_218_61 js_o106).trans <| (if_pos g0).trans <| (j_i2l q_218_62).trans <| (j_lload q_218_63 rfl).trans <| (j_lle (t := 77) q_218_65 q_218_66 rfl).trans (js_ite (rfl) (rfl))))) ((j_aload_n q_218_32 rfl).trans <| (j_iconst q_218_33).trans <| (j_iload q_218_34 rfl).trans <| rfl))))
theorem k_218_36 {E : js_E} {d : Nat} {σ σ2 : js_S} {x1 x2 x4 x6 x7 z1 z2 : Int} (hd : 1 ≤ d) (hz : js_J E (d - 1) 199 0 [(2, 83), (0, z1), (0, z2)] [] σ = js_r0 E σ2) : js_J E d 218 36 [(2, 83), (0, x1), (1, x2), (9, 0), (1, x4), (9, 0), (0, x6), (0, x7)] [(0, z2), (0, z1), (2, 83)] σ = js_J E d 218 39 [(2, 83), (0, x1), (1, x2), (9, 0), (1, x4), (9, 0), (0, x6), (0, x7)] [] σ2 :=
  j_call0 (m := 0) (js_caV q_218_36 (js_Mo qy_218 qm_12_65)) (js_agV (av := [(0, z1), (0, z2)]) (st := []) rfl rfl js_o83 rfl) rfl rfl (by rw [ql_199]; exact Nat.le_of_ble_eq_true rfl) (Nat.le_of_ble_eq_true rfl) hd hz
theorem b_218_39 {E : js_E} {d : Nat} {σ : js_S} {x1 x2 x4 x6 x7 : Int} : js_J E d 218 39 [(2, 83), (0, x1), (1, x2), (9, 0), (1, x4), (9, 0), (0, x6), (0, x7)] [] σ = js_J E d 218 77 [(2, 83), (0, x1), (1, x2), (9, 0), (1, x4), (9, 0), (0, x6), (0, x7)] [] σ :=
  (j_goto (t := 77) q_218_39 rfl).trans <| rfl
theorem b_218_69 {E : js_E} {d : Nat} {σ : js_S} {x1 x2 x4 x6 x7 : Int} : js_J E d 218 69 [(2, 83), (0, x1), (1, x2), (9, 0), (1, x4), (9, 0), (0, x6), (0, x7)] [] σ = js_J E d 218 74 [(2, 83), (0, x1), (1, x2), (9, 0), (1, x4), (9, 0), (0, x6), (0, x7)] [(0, x6), (0, 6), (2, 83)] σ :=
  (j_aload_n q_218_69 rfl).trans <| (j_bi q_218_70 rfl).trans <| (j_iload q_218_72 rfl).trans <| rfl
theorem k_218_74 {E : js_E} {d : Nat} {σ σ2 : js_S} {x1 x2 x4 x6 x7 z1 z2 : Int} (hd : 1 ≤ d) (hz : js_J E (d - 1) 199 0 [(2, 83), (0, z1), (0, z2)] [] σ = js_r0 E σ2) : js_J E d 218 74 [(2, 83), (0, x1), (1, x2), (9, 0), (1, x4), (9, 0), (0, x6), (0, x7)] [(0, z2), (0, z1), (2, 83)] σ = js_J E d 218 77 [(2, 83), (0, x1), (1, x2), (9, 0), (1, x4), (9, 0), (0, x6), (0, x7)] [] σ2 :=
  j_call0 (m := 0) (js_caV q_218_74 (js_Mo qy_218 qm_12_65)) (js_agV (av := [(0, z1), (0, z2)]) (st := []) rfl rfl js_o83 rfl) rfl rfl (by rw [ql_199]; exact Nat.le_of_ble_eq_true rfl) (Nat.le_of_ble_eq_true rfl) hd hz
theorem b_218_77 {E : js_E} {d : Nat} {σ : js_S} {x1 x2 x4 x6 x7 : Int} : js_J E d 218 77 [(2, 83), (0, x1), (1, x2), (9, 0), (1, x4), (9, 0), (0, x6), (0, x7)] [] σ = js_r E (0, x7) σ :=
  (j_iload q_218_77 rfl).trans <| j_ireturn q_218_79 qr_218
-- 219: VitalTwinModel.term ()I
theorem b_219_0 {E : js_E} {d : Nat} {σ : js_S} : js_J E d 219 0 [(2, 83), (9, 0), (9, 0), (9, 0), (9, 0)] [] σ = js_J E d 219 1 [(2, 83), (9, 0), (9, 0), (9, 0), (9, 0)] [(2, 83)] σ :=
  (j_aload_n q_219_0 rfl).trans <| rfl
theorem k_219_1 {E : js_E} {d : Nat} {σ σ2 : js_S} {v : Int} (hd : 1 ≤ d) (hz : js_J E (d - 1) 220 0 [(2, 83), (9, 0), (9, 0)] [] σ = js_r E (0, v) σ2) : js_J E d 219 1 [(2, 83), (9, 0), (9, 0), (9, 0), (9, 0)] [(2, 83)] σ = js_J E d 219 4 [(2, 83), (9, 0), (9, 0), (9, 0), (9, 0)] [(0, v)] σ2 :=
  j_call (m := 2) (js_caV q_219_1 (js_Mo qy_219 qm_12_196)) (js_agV (av := []) (st := []) rfl rfl js_o83 rfl) rfl rfl (by rw [ql_220]; exact Nat.le_of_ble_eq_true rfl) (Nat.le_of_ble_eq_true rfl) hd hz
theorem b_219_4 {E : js_E} {d : Nat} {σ : js_S} {z0 : Int} : js_J E d 219 4 [(2, 83), (9, 0), (9, 0), (9, 0), (9, 0)] [(0, z0)] σ = (if js_w (σ 83 5) = 63 then js_J E d 219 24 [(2, 83), (0, z0), (0, σ 83 6), (9, 0), (9, 0)] [(0, 63), (2, 83)] σ else js_r E (0, z0) σ) :=
  (j_istore_n (l2 := [(2, 83), (0, z0), (9, 0), (9, 0), (9, 0)]) q_219_4 rfl (Nat.le_of_ble_eq_true rfl)).trans <| (j_aload_n q_219_5 rfl).trans <| (j_get (ji := 5) (v := (0, σ 83 5)) q_219_6 (js_Fo qy_219 qf_12_25) js_o83 rfl rfl rfl rfl).trans <| (j_bi q_219_9 rfl).trans <| (j_cmpeqB (t := 16) q_219_11 rfl ww_63).trans (js_ite ((j_aload_n q_219_16 rfl).trans <| (j_get (ji := 6) (v := (0, σ 83 6)) q_219_17 (js_Fo qy_219 qf_12_35) js_o83 rfl rfl rfl rfl).trans <| (j_istore_n (l2 := [(2, 83), (0, z0), (0, σ 83 6), (9, 0), (9, 0)]) q_219_20 rfl (Nat.le_of_ble_eq_true rfl)).trans <| (j_aload_n q_219_21 rfl).trans <| (j_bi q_219_22 rfl).trans <| rfl) ((j_iload_n q_219_14 rfl).trans <| j_ireturn q_219_15 qr_219))
theorem k_219_24 {E : js_E} {d : Nat} {σ σ2 : js_S} {x1 x2 z1 : Int} (hd : 1 ≤ d) (hz : js_J E (d - 1) 207 0 [(2, 83), (0, z1)] [] σ = js_r0 E σ2) : js_J E d 219 24 [(2, 83), (0, x1), (0, x2), (9, 0), (9, 0)] [(0, z1), (2, 83)] σ = js_J E d 219 27 [(2, 83), (0, x1), (0, x2), (9, 0), (9, 0)] [] σ2 :=
  j_call0 (m := 0) (js_caV q_219_24 (js_Mo qy_219 qm_12_159)) (js_agV (av := [(0, z1)]) (st := []) rfl rfl js_o83 rfl) rfl rfl (by rw [ql_207]; exact Nat.le_of_ble_eq_true rfl) (Nat.le_of_ble_eq_true rfl) hd hz
theorem b_219_27 {E : js_E} {d : Nat} {σ : js_S} {x1 x2 : Int} : js_J E d 219 27 [(2, 83), (0, x1), (0, x2), (9, 0), (9, 0)] [] σ = js_J E d 219 28 [(2, 83), (0, x1), (0, x2), (9, 0), (9, 0)] [(2, 83)] σ :=
  (j_aload_n q_219_27 rfl).trans <| rfl
theorem k_219_28 {E : js_E} {d : Nat} {σ σ2 : js_S} {x1 x2 : Int} {v : Int} (hd : 1 ≤ d) (hz : js_J E (d - 1) 219 0 [(2, 83), (9, 0), (9, 0), (9, 0), (9, 0)] [] σ = js_r E (0, v) σ2) : js_J E d 219 28 [(2, 83), (0, x1), (0, x2), (9, 0), (9, 0)] [(2, 83)] σ = js_J E d 219 31 [(2, 83), (0, x1), (0, x2), (9, 0), (9, 0)] [(0, v)] σ2 :=
  j_call (m := 4) (js_caV q_219_28 (js_Mo qy_219 qm_12_193)) (js_agV (av := []) (st := []) rfl rfl js_o83 rfl) rfl rfl (by rw [ql_219]; exact Nat.le_of_ble_eq_true rfl) (Nat.le_of_ble_eq_true rfl) hd hz
theorem b_219_31 {E : js_E} {d : Nat} {σ : js_S} {x1 x2 z0 : Int} : js_J E d 219 31 [(2, 83), (0, x1), (0, x2), (9, 0), (9, 0)] [(0, z0)] σ = js_J E d 219 35 [(2, 83), (0, x1), (0, x2), (0, z0), (9, 0)] [(0, 58), (2, 83)] σ :=
  (j_istore_n (l2 := [(2, 83), (0, x1), (0, x2), (0, z0), (9, 0)]) q_219_31 rfl (Nat.le_of_ble_eq_true rfl)).trans <| (j_aload_n q_219_32 rfl).trans <| (j_bi q_219_33 rfl).trans <| rfl
theorem k_219_35 {E : js_E} {d : Nat} {σ σ2 : js_S} {x1 x2 x3 z1 : Int} (hd : 1 ≤ d) (hz : js_J E (d - 1) 202 0 [(2, 83), (0, z1)] [] σ = js_r0 E σ2) : js_J E d 219 35 [(2, 83), (0, x1), (0, x2), (0, x3), (9, 0)] [(0, z1), (2, 83)] σ = js_J E d 219 38 [(2, 83), (0, x1), (0, x2), (0, x3), (9, 0)] [] σ2 :=
  j_call0 (m := 0) (js_caV q_219_35 (js_Mo qy_219 qm_12_75)) (js_agV (av := [(0, z1)]) (st := []) rfl rfl js_o83 rfl) rfl rfl (by rw [ql_202]; exact Nat.le_of_ble_eq_true rfl) (Nat.le_of_ble_eq_true rfl) hd hz
theorem b_219_38 {E : js_E} {d : Nat} {σ : js_S} {x1 x2 x3 : Int} : js_J E d 219 38 [(2, 83), (0, x1), (0, x2), (0, x3), (9, 0)] [] σ = js_J E d 219 39 [(2, 83), (0, x1), (0, x2), (0, x3), (9, 0)] [(2, 83)] σ :=
  (j_aload_n q_219_38 rfl).trans <| rfl
theorem k_219_39 {E : js_E} {d : Nat} {σ σ2 : js_S} {x1 x2 x3 : Int} {v : Int} (hd : 1 ≤ d) (hz : js_J E (d - 1) 219 0 [(2, 83), (9, 0), (9, 0), (9, 0), (9, 0)] [] σ = js_r E (0, v) σ2) : js_J E d 219 39 [(2, 83), (0, x1), (0, x2), (0, x3), (9, 0)] [(2, 83)] σ = js_J E d 219 42 [(2, 83), (0, x1), (0, x2), (0, x3), (9, 0)] [(0, v)] σ2 :=
  j_call (m := 4) (js_caV q_219_39 (js_Mo qy_219 qm_12_193)) (js_agV (av := []) (st := []) rfl rfl js_o83 rfl) rfl rfl (by rw [ql_219]; exact Nat.le_of_ble_eq_true rfl) (Nat.le_of_ble_eq_true rfl) hd hz
theorem b_219_42 {E : js_E} {d : Nat} {σ : js_S} {x1 x2 x3 z0 : Int} (hd : 4 ≤ d) : js_J E d 219 42 [(2, 83), (0, x1), (0, x2), (0, x3), (9, 0)] [(0, z0)] σ = (if 0 < js_w (σ 83 9) then js_r E (0, 0) (js_up σ 83 10 ((σ 83 10) - 1)) else (if 0 ≤ js_w x1 ∧ js_w x1 < 66000 then (if js_w (σ 101 (js_w x1)) = 1 then (if 0 ≤ js_w x3 ∧ js_w x3 < 66000 then (if 0 ≤ js_w z0 ∧ js_w z0 < 66000 then (if js_w (σ 101 (js_w x3)) = js_w (σ 101 (js_w z0)) then js_J E d 219 144 [(2, 83), (0, x1), (0, x2), (0, x3), (0, z0)] [(0, z0), (0, x3), (0, x1), (1, js_w (if js_w (σ 106 (js_w x3)) < js_w (σ 106 (js_w z0)) then (σ 106 (js_w z0)) else (σ 106 (js_w x3)))), (1, js_w (if js_w (σ 105 (js_w z0)) < js_w (σ 105 (js_w x3)) then (σ 105 (js_w z0)) else (σ 105 (js_w x3)))), (0, σ 101 (js_w x3)), (0, 8), (2, 83)] (js_up σ 83 10 ((σ 83 10) - 1)) else js_J E d 219 89 [(2, 83), (0, x1), (0, x2), (0, x3), (0, z0)] [] (js_up σ 83 10 ((σ 83 10) - 1))) else none) else none) else js_J E d 219 89 [(2, 83), (0, x1), (0, x2), (0, x3), (0, z0)] [] (js_up σ 83 10 ((σ 83 10) - 1))) else none)) :=
  (j_istore (l2 := [(2, 83), (0, x1), (0, x2), (0, x3), (0, z0)]) q_219_42 rfl (Nat.le_of_ble_eq_true rfl)).trans <| (j_aload_n q_219_44 rfl).trans <| (j_dupr q_219_45).trans <| (j_get (ji := 10) (v := (0, σ 83 10)) q_219_46 (js_Fo qy_219 qf_12_72) js_o83 rfl rfl rfl rfl).trans <| (j_iconst q_219_49).trans <| (j_isub q_219_50).trans <| (j_putI (ji := 10) q_219_51 (js_Fo qy_219 qf_12_72) rfl js_o83 rfl rfl rfl).trans <| (j_aload_n q_219_54 rfl).trans <| (j_get (ji := 9) (v := (0, σ 83 9)) q_219_55 (js_Fo qy_219 qf_12_22) js_o83 rfl rfl rfl (congrArg (Prod.mk 0) ((js_up_ni _ (by decide))))).trans <| (j_ifle (t := 63) q_219_58 rfl).trans (js_ite ((j_iconst q_219_61).trans <| j_ireturn q_219_62 qr_219) ((j_aload_n q_219_63 rfl).trans <| (j_get (ji := 35) (v := (2, 101)) q_219_64 (js_Fo qy_219 qf_12_172) js_o83 rfl rfl rfl rfl).trans <| (j_iload_n q_219_67 rfl).trans <| (j_ialoadv q_219_68 js_o101 ((js_up_na _ (by decide)))).trans <| js_itp fun g0 => (j_iconst q_219_69).trans <| (j_cmpneB (t := 89) q_219_70 rfl ww_1).trans (js_ite ((j_aload_n q_219_73 rfl).trans <| (j_get (ji := 35) (v := (2, 101)) q_219_74 (js_Fo qy_219 qf_12_172) js_o83 rfl rfl rfl rfl).trans <| (j_iload_n q_219_77 rfl).trans <| (j_ialoadv q_219_78 js_o101 ((js_up_na _ (by decide)))).trans <| js_itp fun g1 => (j_aload_n q_219_79 rfl).trans <| (j_get (ji := 35) (v := (2, 101)) q_219_80 (js_Fo qy_219 qf_12_172) js_o83 rfl rfl rfl rfl).trans <| (j_iload q_219_83 rfl).trans <| (j_ialoadv q_219_85 js_o101 ((js_up_na _ (by decide)))).trans <| js_itp fun g2 => (j_cmpeq (t := 97) q_219_86 rfl).trans (js_ite ((j_aload_n q_219_97 rfl).trans <| (j_bi q_219_98 rfl).trans <| (j_aload_n q_219_100 rfl).trans <| (j_get (ji := 35) (v := (2, 101)) q_219_101 (js_Fo qy_219 qf_12_172) js_o83 rfl rfl rfl rfl).trans <| (j_iload_n q_219_104 rfl).trans <| (j_ialoadv q_219_105 js_o101 ((js_up_na _ (by decide)))).trans <| (if_pos g1).trans <| (j_aload_n q_219_106 rfl).trans <| (j_get (ji := 39) (v := (2, 105)) q_219_107 (js_Fo qy_219 qf_12_175) js_o83 rfl rfl rfl rfl).trans <| (j_iload_n q_219_110 rfl).trans <| (j_ialoadv q_219_111 js_o105 ((js_up_na _ (by decide)))).trans <| (if_pos g1).trans <| (j_aload_n q_219_112 rfl).trans <| (j_get (ji := 39) (v := (2, 105)) q_219_113 (js_Fo qy_219 qf_12_175) js_o83 rfl rfl rfl rfl).trans <| (j_iload q_219_116 rfl).trans <| (j_ialoadv q_219_118 js_o105 ((js_up_na _ (by decide)))).trans <| (if_pos g2).trans <| (j_min (js_clS q_219_119 (js_Mo qy_219 qm_12_199)) (Nat.le_of_ble_eq_true rfl) hd).trans <| (j_i2l q_219_122).trans <| (j_aload_n q_219_123 rfl).trans <| (j_get (ji := 40) (v := (2, 106)) q_219_124 (js_Fo qy_219 qf_12_178) js_o83 rfl rfl rfl rfl).trans <| (j_iload_n q_219_127 rfl).trans <| (j_ialoadv q_219_128 js_o106 ((js_up_na _ (by decide)))).trans <| (if_pos g1).trans <| (j_aload_n q_219_129 rfl).trans <| (j_get (ji := 40) (v := (2, 106)) q_219_130 (js_Fo qy_219 qf_12_178) js_o83 rfl rfl rfl rfl).trans <| (j_iload q_219_133 rfl).trans <| (j_ialoadv q_219_135 js_o106 ((js_up_na _ (by decide)))).trans <| (if_pos g2).trans <| (j_max (js_clS q_219_136 (js_Mo qy_219 qm_12_205)) (Nat.le_of_ble_eq_true rfl) hd).trans <| (j_i2l q_219_139).trans <| (j_iload_n q_219_140 rfl).trans <| (j_iload_n q_219_141 rfl).trans <| (j_iload q_219_142 rfl).trans <| rfl) (rfl))) (rfl))))
theorem b_219_89 {E : js_E} {d : Nat} {σ : js_S} {x1 x2 x3 x4 : Int} : js_J E d 219 89 [(2, 83), (0, x1), (0, x2), (0, x3), (0, x4)] [] σ = js_J E d 219 92 [(2, 83), (0, x1), (0, x2), (0, x3), (0, x4)] [(0, x2), (0, 5), (2, 83)] σ :=
  (j_aload_n q_219_89 rfl).trans <| (j_iconst q_219_90).trans <| (j_iload_n q_219_91 rfl).trans <| rfl
theorem k_219_92 {E : js_E} {d : Nat} {σ σ2 : js_S} {x1 x2 x3 x4 z1 z2 : Int} (hd : 1 ≤ d) (hz : js_J E (d - 1) 199 0 [(2, 83), (0, z1), (0, z2)] [] σ = js_r0 E σ2) : js_J E d 219 92 [(2, 83), (0, x1), (0, x2), (0, x3), (0, x4)] [(0, z2), (0, z1), (2, 83)] σ = js_J E d 219 95 [(2, 83), (0, x1), (0, x2), (0, x3), (0, x4)] [] σ2 :=
  j_call0 (m := 0) (js_caV q_219_92 (js_Mo qy_219 qm_12_65)) (js_agV (av := [(0, z1), (0, z2)]) (st := []) rfl rfl js_o83 rfl) rfl rfl (by rw [ql_199]; exact Nat.le_of_ble_eq_true rfl) (Nat.le_of_ble_eq_true rfl) hd hz
theorem b_219_95 {E : js_E} {d : Nat} {σ : js_S} {x1 x2 x3 x4 : Int} : js_J E d 219 95 [(2, 83), (0, x1), (0, x2), (0, x3), (0, x4)] [] σ = js_r E (0, 0) σ :=
  (j_iconst q_219_95).trans <| j_ireturn q_219_96 qr_219
theorem k_219_144 {E : js_E} {d : Nat} {σ σ2 : js_S} {x1 x2 x3 x4 z1 z2 z3 z4 z5 z6 z7 : Int} {v : Int} (hd : 1 ≤ d) (hz : js_J E (d - 1) 217 0 [(2, 83), (0, z1), (0, z2), (1, z3), (9, 0), (1, z4), (9, 0), (0, z5), (0, z6), (0, z7), (9, 0)] [] σ = js_r E (0, v) σ2) : js_J E d 219 144 [(2, 83), (0, x1), (0, x2), (0, x3), (0, x4)] [(0, z7), (0, z6), (0, z5), (1, z4), (1, z3), (0, z2), (0, z1), (2, 83)] σ = js_J E d 219 147 [(2, 83), (0, x1), (0, x2), (0, x3), (0, x4)] [(0, v)] σ2 :=
  j_call (m := 1) (js_caV q_219_144 (js_Mo qy_219 qm_12_208)) (js_agV (av := [(0, z1), (0, z2), (1, z3), (1, z4), (0, z5), (0, z6), (0, z7)]) (st := []) rfl rfl js_o83 rfl) rfl rfl (by rw [ql_217]; exact Nat.le_of_ble_eq_true rfl) (Nat.le_of_ble_eq_true rfl) hd hz
theorem b_219_147 {E : js_E} {d : Nat} {σ : js_S} {x1 x2 x3 x4 z0 : Int} : js_J E d 219 147 [(2, 83), (0, x1), (0, x2), (0, x3), (0, x4)] [(0, z0)] σ = js_r E (0, z0) σ :=
  j_ireturn q_219_147 qr_219
-- 220: VitalTwinModel.either ()I
theorem b_220_0 {E : js_E} {d : Nat} {σ : js_S} : js_J E d 220 0 [(2, 83), (9, 0), (9, 0)] [] σ = js_J E d 220 1 [(2, 83), (9, 0), (9, 0)] [(2, 83)] σ :=
  (j_aload_n q_220_0 rfl).trans <| rfl
theorem k_220_1 {E : js_E} {d : Nat} {σ σ2 : js_S} {v : Int} (hd : 1 ≤ d) (hz : js_J E (d - 1) 221 0 [(2, 83), (9, 0), (9, 0)] [] σ = js_r E (0, v) σ2) : js_J E d 220 1 [(2, 83), (9, 0), (9, 0)] [(2, 83)] σ = js_J E d 220 4 [(2, 83), (9, 0), (9, 0)] [(0, v)] σ2 :=
  j_call (m := 2) (js_caV q_220_1 (js_Mo qy_220 qm_12_212)) (js_agV (av := []) (st := []) rfl rfl js_o83 rfl) rfl rfl (by rw [ql_221]; exact Nat.le_of_ble_eq_true rfl) (Nat.le_of_ble_eq_true rfl) hd hz
theorem b_220_4 {E : js_E} {d : Nat} {σ : js_S} {z0 : Int} : js_J E d 220 4 [(2, 83), (9, 0), (9, 0)] [(0, z0)] σ = js_J E d 220 5 [(2, 83), (0, z0), (9, 0)] [] σ :=
  (j_istore_n (l2 := [(2, 83), (0, z0), (9, 0)]) q_220_4 rfl (Nat.le_of_ble_eq_true rfl)).trans <| rfl
theorem b_220_5 {E : js_E} {d : Nat} {σ : js_S} {x1 : Int} {ux2 : js_v} : js_J E d 220 5 [(2, 83), (0, x1), ux2] [] σ = (if js_w (σ 83 5) = 206 then js_J E d 220 21 [(2, 83), (0, x1), (0, σ 83 6)] [(2, 83)] σ else js_r E (0, x1) σ) :=
  (j_aload_n q_220_5 rfl).trans <| (j_get (ji := 5) (v := (0, σ 83 5)) q_220_6 (js_Fo qy_220 qf_12_25) js_o83 rfl rfl rfl rfl).trans <| (j_si q_220_9 rfl).trans <| (j_cmpneB (t := 40) q_220_12 rfl ww_206).trans (js_ite ((j_aload_n q_220_15 rfl).trans <| (j_get (ji := 6) (v := (0, σ 83 6)) q_220_16 (js_Fo qy_220 qf_12_35) js_o83 rfl rfl rfl rfl).trans <| (j_istore_n (l2 := [(2, 83), (0, x1), (0, σ 83 6)]) q_220_19 rfl (Nat.le_of_ble_eq_true rfl)).trans <| (j_aload_n q_220_20 rfl).trans <| rfl) ((j_iload_n q_220_40 rfl).trans <| j_ireturn q_220_41 qr_220))
theorem k_220_21 {E : js_E} {d : Nat} {σ σ2 : js_S} {x1 x2 : Int} (hd : 1 ≤ d) (hz : js_J E (d - 1) 191 0 [(2, 83), (9, 0), (9, 0), (9, 0), (9, 0), (9, 0)] [] σ = js_r0 E σ2) : js_J E d 220 21 [(2, 83), (0, x1), (0, x2)] [(2, 83)] σ = js_J E d 220 24 [(2, 83), (0, x1), (0, x2)] [] σ2 :=
  j_call0 (m := 5) (js_caV q_220_21 (js_Mo qy_220 qm_12_68)) (js_agV (av := []) (st := []) rfl rfl js_o83 rfl) rfl rfl (by rw [ql_191]; exact Nat.le_of_ble_eq_true rfl) (Nat.le_of_ble_eq_true rfl) hd hz
theorem b_220_24 {E : js_E} {d : Nat} {σ : js_S} {x1 x2 : Int} : js_J E d 220 24 [(2, 83), (0, x1), (0, x2)] [] σ = js_J E d 220 29 [(2, 83), (0, x1), (0, x2)] [(2, 83), (0, x1), (0, 7), (2, 83)] σ :=
  (j_aload_n q_220_24 rfl).trans <| (j_bi q_220_25 rfl).trans <| (j_iload_n q_220_27 rfl).trans <| (j_aload_n q_220_28 rfl).trans <| rfl
theorem k_220_29 {E : js_E} {d : Nat} {σ σ2 : js_S} {x1 x2 z1 z2 : Int} {v : Int} (hd : 1 ≤ d) (hz : js_J E (d - 1) 221 0 [(2, 83), (9, 0), (9, 0)] [] σ = js_r E (0, v) σ2) : js_J E d 220 29 [(2, 83), (0, x1), (0, x2)] [(2, 83), (0, z2), (0, z1), (2, 83)] σ = js_J E d 220 32 [(2, 83), (0, x1), (0, x2)] [(0, v), (0, z2), (0, z1), (2, 83)] σ2 :=
  j_call (m := 2) (js_caV q_220_29 (js_Mo qy_220 qm_12_212)) (js_agV (av := []) (st := [(0, z2), (0, z1), (2, 83)]) rfl rfl js_o83 rfl) rfl rfl (by rw [ql_221]; exact Nat.le_of_ble_eq_true rfl) (Nat.le_of_ble_eq_true rfl) hd hz
theorem b_220_32 {E : js_E} {d : Nat} {σ : js_S} {x1 x2 z1 z2 z3 : Int} : js_J E d 220 32 [(2, 83), (0, x1), (0, x2)] [(0, z3), (0, z2), (0, z1), (2, 83)] σ = js_J E d 220 33 [(2, 83), (0, x1), (0, x2)] [(0, x2), (0, z3), (0, z2), (0, z1), (2, 83)] σ :=
  (j_iload_n q_220_32 rfl).trans <| rfl
theorem k_220_33 {E : js_E} {d : Nat} {σ σ2 : js_S} {x1 x2 z1 z2 z3 z4 : Int} {v : Int} (hd : 1 ≤ d) (hz : js_J E (d - 1) 236 0 [(2, 83), (0, z1), (0, z2), (0, z3), (0, z4)] [] σ = js_r E (0, v) σ2) : js_J E d 220 33 [(2, 83), (0, x1), (0, x2)] [(0, z4), (0, z3), (0, z2), (0, z1), (2, 83)] σ = js_J E d 220 36 [(2, 83), (0, x1), (0, x2)] [(0, v)] σ2 :=
  j_call (m := 0) (js_caV q_220_33 (js_Mo qy_220 qm_12_215)) (js_agV (av := [(0, z1), (0, z2), (0, z3), (0, z4)]) (st := []) rfl rfl js_o83 rfl) rfl rfl (by rw [ql_236]; exact Nat.le_of_ble_eq_true rfl) (Nat.le_of_ble_eq_true rfl) hd hz
theorem b_220_36 {E : js_E} {d : Nat} {σ : js_S} {x1 x2 z0 : Int} : js_J E d 220 36 [(2, 83), (0, x1), (0, x2)] [(0, z0)] σ = js_J E d 220 5 [(2, 83), (0, z0), (0, x2)] [] σ :=
  (j_istore_n (l2 := [(2, 83), (0, z0), (0, x2)]) q_220_36 rfl (Nat.le_of_ble_eq_true rfl)).trans <| (j_goto (t := 5) q_220_37 rfl).trans <| rfl
-- 221: VitalTwinModel.both ()I
theorem b_221_0 {E : js_E} {d : Nat} {σ : js_S} : js_J E d 221 0 [(2, 83), (9, 0), (9, 0)] [] σ = js_J E d 221 1 [(2, 83), (9, 0), (9, 0)] [(2, 83)] σ :=
  (j_aload_n q_221_0 rfl).trans <| rfl
theorem k_221_1 {E : js_E} {d : Nat} {σ σ2 : js_S} {v : Int} (hd : 1 ≤ d) (hz : js_J E (d - 1) 222 0 [(2, 83), (9, 0), (9, 0), (9, 0), (9, 0)] [] σ = js_r E (0, v) σ2) : js_J E d 221 1 [(2, 83), (9, 0), (9, 0)] [(2, 83)] σ = js_J E d 221 4 [(2, 83), (9, 0), (9, 0)] [(0, v)] σ2 :=
  j_call (m := 4) (js_caV q_221_1 (js_Mo qy_221 qm_12_219)) (js_agV (av := []) (st := []) rfl rfl js_o83 rfl) rfl rfl (by rw [ql_222]; exact Nat.le_of_ble_eq_true rfl) (Nat.le_of_ble_eq_true rfl) hd hz
theorem b_221_4 {E : js_E} {d : Nat} {σ : js_S} {z0 : Int} : js_J E d 221 4 [(2, 83), (9, 0), (9, 0)] [(0, z0)] σ = js_J E d 221 5 [(2, 83), (0, z0), (9, 0)] [] σ :=
  (j_istore_n (l2 := [(2, 83), (0, z0), (9, 0)]) q_221_4 rfl (Nat.le_of_ble_eq_true rfl)).trans <| rfl
theorem b_221_5 {E : js_E} {d : Nat} {σ : js_S} {x1 : Int} {ux2 : js_v} : js_J E d 221 5 [(2, 83), (0, x1), ux2] [] σ = (if js_w (σ 83 5) = 205 then js_J E d 221 21 [(2, 83), (0, x1), (0, σ 83 6)] [(2, 83)] σ else js_r E (0, x1) σ) :=
  (j_aload_n q_221_5 rfl).trans <| (j_get (ji := 5) (v := (0, σ 83 5)) q_221_6 (js_Fo qy_221 qf_12_25) js_o83 rfl rfl rfl rfl).trans <| (j_si q_221_9 rfl).trans <| (j_cmpneB (t := 40) q_221_12 rfl ww_205).trans (js_ite ((j_aload_n q_221_15 rfl).trans <| (j_get (ji := 6) (v := (0, σ 83 6)) q_221_16 (js_Fo qy_221 qf_12_35) js_o83 rfl rfl rfl rfl).trans <| (j_istore_n (l2 := [(2, 83), (0, x1), (0, σ 83 6)]) q_221_19 rfl (Nat.le_of_ble_eq_true rfl)).trans <| (j_aload_n q_221_20 rfl).trans <| rfl) ((j_iload_n q_221_40 rfl).trans <| j_ireturn q_221_41 qr_221))
theorem k_221_21 {E : js_E} {d : Nat} {σ σ2 : js_S} {x1 x2 : Int} (hd : 1 ≤ d) (hz : js_J E (d - 1) 191 0 [(2, 83), (9, 0), (9, 0), (9, 0), (9, 0), (9, 0)] [] σ = js_r0 E σ2) : js_J E d 221 21 [(2, 83), (0, x1), (0, x2)] [(2, 83)] σ = js_J E d 221 24 [(2, 83), (0, x1), (0, x2)] [] σ2 :=
  j_call0 (m := 5) (js_caV q_221_21 (js_Mo qy_221 qm_12_68)) (js_agV (av := []) (st := []) rfl rfl js_o83 rfl) rfl rfl (by rw [ql_191]; exact Nat.le_of_ble_eq_true rfl) (Nat.le_of_ble_eq_true rfl) hd hz
theorem b_221_24 {E : js_E} {d : Nat} {σ : js_S} {x1 x2 : Int} : js_J E d 221 24 [(2, 83), (0, x1), (0, x2)] [] σ = js_J E d 221 29 [(2, 83), (0, x1), (0, x2)] [(2, 83), (0, x1), (0, 6), (2, 83)] σ :=
  (j_aload_n q_221_24 rfl).trans <| (j_bi q_221_25 rfl).trans <| (j_iload_n q_221_27 rfl).trans <| (j_aload_n q_221_28 rfl).trans <| rfl
theorem k_221_29 {E : js_E} {d : Nat} {σ σ2 : js_S} {x1 x2 z1 z2 : Int} {v : Int} (hd : 1 ≤ d) (hz : js_J E (d - 1) 222 0 [(2, 83), (9, 0), (9, 0), (9, 0), (9, 0)] [] σ = js_r E (0, v) σ2) : js_J E d 221 29 [(2, 83), (0, x1), (0, x2)] [(2, 83), (0, z2), (0, z1), (2, 83)] σ = js_J E d 221 32 [(2, 83), (0, x1), (0, x2)] [(0, v), (0, z2), (0, z1), (2, 83)] σ2 :=
  j_call (m := 4) (js_caV q_221_29 (js_Mo qy_221 qm_12_219)) (js_agV (av := []) (st := [(0, z2), (0, z1), (2, 83)]) rfl rfl js_o83 rfl) rfl rfl (by rw [ql_222]; exact Nat.le_of_ble_eq_true rfl) (Nat.le_of_ble_eq_true rfl) hd hz
theorem b_221_32 {E : js_E} {d : Nat} {σ : js_S} {x1 x2 z1 z2 z3 : Int} : js_J E d 221 32 [(2, 83), (0, x1), (0, x2)] [(0, z3), (0, z2), (0, z1), (2, 83)] σ = js_J E d 221 33 [(2, 83), (0, x1), (0, x2)] [(0, x2), (0, z3), (0, z2), (0, z1), (2, 83)] σ :=
  (j_iload_n q_221_32 rfl).trans <| rfl
theorem k_221_33 {E : js_E} {d : Nat} {σ σ2 : js_S} {x1 x2 z1 z2 z3 z4 : Int} {v : Int} (hd : 1 ≤ d) (hz : js_J E (d - 1) 236 0 [(2, 83), (0, z1), (0, z2), (0, z3), (0, z4)] [] σ = js_r E (0, v) σ2) : js_J E d 221 33 [(2, 83), (0, x1), (0, x2)] [(0, z4), (0, z3), (0, z2), (0, z1), (2, 83)] σ = js_J E d 221 36 [(2, 83), (0, x1), (0, x2)] [(0, v)] σ2 :=
  j_call (m := 0) (js_caV q_221_33 (js_Mo qy_221 qm_12_215)) (js_agV (av := [(0, z1), (0, z2), (0, z3), (0, z4)]) (st := []) rfl rfl js_o83 rfl) rfl rfl (by rw [ql_236]; exact Nat.le_of_ble_eq_true rfl) (Nat.le_of_ble_eq_true rfl) hd hz
theorem b_221_36 {E : js_E} {d : Nat} {σ : js_S} {x1 x2 z0 : Int} : js_J E d 221 36 [(2, 83), (0, x1), (0, x2)] [(0, z0)] σ = js_J E d 221 5 [(2, 83), (0, z0), (0, x2)] [] σ :=
  (j_istore_n (l2 := [(2, 83), (0, z0), (0, x2)]) q_221_36 rfl (Nat.le_of_ble_eq_true rfl)).trans <| (j_goto (t := 5) q_221_37 rfl).trans <| rfl
-- 222: VitalTwinModel.is ()I
theorem b_222_0 {E : js_E} {d : Nat} {σ : js_S} : js_J E d 222 0 [(2, 83), (9, 0), (9, 0), (9, 0), (9, 0)] [] σ = js_J E d 222 1 [(2, 83), (9, 0), (9, 0), (9, 0), (9, 0)] [(2, 83)] σ :=
  (j_aload_n q_222_0 rfl).trans <| rfl
theorem k_222_1 {E : js_E} {d : Nat} {σ σ2 : js_S} {v : Int} (hd : 1 ≤ d) (hz : js_J E (d - 1) 223 0 [(2, 83), (9, 0), (9, 0), (9, 0)] [] σ = js_r E (0, v) σ2) : js_J E d 222 1 [(2, 83), (9, 0), (9, 0), (9, 0), (9, 0)] [(2, 83)] σ = js_J E d 222 4 [(2, 83), (9, 0), (9, 0), (9, 0), (9, 0)] [(0, v)] σ2 :=
  j_call (m := 3) (js_caV q_222_1 (js_Mo qy_222 qm_12_222)) (js_agV (av := []) (st := []) rfl rfl js_o83 rfl) rfl rfl (by rw [ql_223]; exact Nat.le_of_ble_eq_true rfl) (Nat.le_of_ble_eq_true rfl) hd hz
theorem b_222_4 {E : js_E} {d : Nat} {σ : js_S} {z0 : Int} : js_J E d 222 4 [(2, 83), (9, 0), (9, 0), (9, 0), (9, 0)] [(0, z0)] σ = (if js_w (σ 83 5) = 60 then js_J E d 222 94 [(2, 83), (0, z0), (9, 0), (9, 0), (9, 0)] [(0, 13)] σ else (if js_w (σ 83 5) = 201 then js_J E d 222 94 [(2, 83), (0, z0), (9, 0), (9, 0), (9, 0)] [(0, 14)] σ else (if js_w (σ 83 5) = 62 then js_J E d 222 94 [(2, 83), (0, z0), (9, 0), (9, 0), (9, 0)] [(0, 15)] σ else (if js_w (σ 83 5) = 202 then js_J E d 222 94 [(2, 83), (0, z0), (9, 0), (9, 0), (9, 0)] [(0, 16)] σ else (if js_w (σ 83 5) = 203 then js_J E d 222 94 [(2, 83), (0, z0), (9, 0), (9, 0), (9, 0)] [(0, 17)] σ else (if js_w (σ 83 5) = 204 then js_J E d 222 94 [(2, 83), (0, z0), (9, 0), (9, 0), (9, 0)] [(0, 18)] σ else js_J E d 222 94 [(2, 83), (0, z0), (9, 0), (9, 0), (9, 0)] [(0, (-1))] σ)))))) :=
  (j_istore_n (l2 := [(2, 83), (0, z0), (9, 0), (9, 0), (9, 0)]) q_222_4 rfl (Nat.le_of_ble_eq_true rfl)).trans <| (j_aload_n q_222_5 rfl).trans <| (j_get (ji := 5) (v := (0, σ 83 5)) q_222_6 (js_Fo qy_222 qf_12_25) js_o83 rfl rfl rfl rfl).trans <| (j_bi q_222_9 rfl).trans <| (j_cmpneB (t := 19) q_222_11 rfl ww_60).trans (js_ite ((j_bi q_222_14 rfl).trans <| (j_goto (t := 94) q_222_16 rfl).trans <| rfl) ((j_aload_n q_222_19 rfl).trans <| (j_get (ji := 5) (v := (0, σ 83 5)) q_222_20 (js_Fo qy_222 qf_12_25) js_o83 rfl rfl rfl rfl).trans <| (j_si q_222_23 rfl).trans <| (j_cmpneB (t := 34) q_222_26 rfl ww_201).trans (js_ite ((j_bi q_222_29 rfl).trans <| (j_goto (t := 94) q_222_31 rfl).trans <| rfl) ((j_aload_n q_222_34 rfl).trans <| (j_get (ji := 5) (v := (0, σ 83 5)) q_222_35 (js_Fo qy_222 qf_12_25) js_o83 rfl rfl rfl rfl).trans <| (j_bi q_222_38 rfl).trans <| (j_cmpneB (t := 48) q_222_40 rfl ww_62).trans (js_ite ((j_bi q_222_43 rfl).trans <| (j_goto (t := 94) q_222_45 rfl).trans <| rfl) ((j_aload_n q_222_48 rfl).trans <| (j_get (ji := 5) (v := (0, σ 83 5)) q_222_49 (js_Fo qy_222 qf_12_25) js_o83 rfl rfl rfl rfl).trans <| (j_si q_222_52 rfl).trans <| (j_cmpneB (t := 63) q_222_55 rfl ww_202).trans (js_ite ((j_bi q_222_58 rfl).trans <| (j_goto (t := 94) q_222_60 rfl).trans <| rfl) ((j_aload_n q_222_63 rfl).trans <| (j_get (ji := 5) (v := (0, σ 83 5)) q_222_64 (js_Fo qy_222 qf_12_25) js_o83 rfl rfl rfl rfl).trans <| (j_si q_222_67 rfl).trans <| (j_cmpneB (t := 78) q_222_70 rfl ww_203).trans (js_ite ((j_bi q_222_73 rfl).trans <| (j_goto (t := 94) q_222_75 rfl).trans <| rfl) ((j_aload_n q_222_78 rfl).trans <| (j_get (ji := 5) (v := (0, σ 83 5)) q_222_79 (js_Fo qy_222 qf_12_25) js_o83 rfl rfl rfl rfl).trans <| (j_si q_222_82 rfl).trans <| (j_cmpneB (t := 93) q_222_85 rfl ww_204).trans (js_ite ((j_bi q_222_88 rfl).trans <| (j_goto (t := 94) q_222_90 rfl).trans <| rfl) ((j_iconst q_222_93).trans <| rfl))))))))))))
theorem b_222_94 {E : js_E} {d : Nat} {σ : js_S} {x1 z0 : Int} : js_J E d 222 94 [(2, 83), (0, x1), (9, 0), (9, 0), (9, 0)] [(0, z0)] σ = (if js_w z0 < 0 then js_r E (0, x1) σ else js_J E d 222 107 [(2, 83), (0, x1), (0, z0), (0, σ 83 6), (9, 0)] [(2, 83)] σ) :=
  (j_istore_n (l2 := [(2, 83), (0, x1), (0, z0), (9, 0), (9, 0)]) q_222_94 rfl (Nat.le_of_ble_eq_true rfl)).trans <| (j_iload_n q_222_95 rfl).trans <| (j_ifge (t := 101) q_222_96 rfl).trans (js_ite ((j_iload_n q_222_99 rfl).trans <| j_ireturn q_222_100 qr_222) ((j_aload_n q_222_101 rfl).trans <| (j_get (ji := 6) (v := (0, σ 83 6)) q_222_102 (js_Fo qy_222 qf_12_35) js_o83 rfl rfl rfl rfl).trans <| (j_istore_n (l2 := [(2, 83), (0, x1), (0, z0), (0, σ 83 6), (9, 0)]) q_222_105 rfl (Nat.le_of_ble_eq_true rfl)).trans <| (j_aload_n q_222_106 rfl).trans <| rfl))
theorem k_222_107 {E : js_E} {d : Nat} {σ σ2 : js_S} {x1 x2 x3 : Int} (hd : 1 ≤ d) (hz : js_J E (d - 1) 191 0 [(2, 83), (9, 0), (9, 0), (9, 0), (9, 0), (9, 0)] [] σ = js_r0 E σ2) : js_J E d 222 107 [(2, 83), (0, x1), (0, x2), (0, x3), (9, 0)] [(2, 83)] σ = js_J E d 222 110 [(2, 83), (0, x1), (0, x2), (0, x3), (9, 0)] [] σ2 :=
  j_call0 (m := 5) (js_caV q_222_107 (js_Mo qy_222 qm_12_68)) (js_agV (av := []) (st := []) rfl rfl js_o83 rfl) rfl rfl (by rw [ql_191]; exact Nat.le_of_ble_eq_true rfl) (Nat.le_of_ble_eq_true rfl) hd hz
theorem b_222_110 {E : js_E} {d : Nat} {σ : js_S} {x1 x2 x3 : Int} : js_J E d 222 110 [(2, 83), (0, x1), (0, x2), (0, x3), (9, 0)] [] σ = js_J E d 222 111 [(2, 83), (0, x1), (0, x2), (0, x3), (9, 0)] [(2, 83)] σ :=
  (j_aload_n q_222_110 rfl).trans <| rfl
theorem k_222_111 {E : js_E} {d : Nat} {σ σ2 : js_S} {x1 x2 x3 : Int} {v : Int} (hd : 1 ≤ d) (hz : js_J E (d - 1) 223 0 [(2, 83), (9, 0), (9, 0), (9, 0)] [] σ = js_r E (0, v) σ2) : js_J E d 222 111 [(2, 83), (0, x1), (0, x2), (0, x3), (9, 0)] [(2, 83)] σ = js_J E d 222 114 [(2, 83), (0, x1), (0, x2), (0, x3), (9, 0)] [(0, v)] σ2 :=
  j_call (m := 3) (js_caV q_222_111 (js_Mo qy_222 qm_12_222)) (js_agV (av := []) (st := []) rfl rfl js_o83 rfl) rfl rfl (by rw [ql_223]; exact Nat.le_of_ble_eq_true rfl) (Nat.le_of_ble_eq_true rfl) hd hz
theorem b_222_114 {E : js_E} {d : Nat} {σ : js_S} {x1 x2 x3 z0 : Int} : js_J E d 222 114 [(2, 83), (0, x1), (0, x2), (0, x3), (9, 0)] [(0, z0)] σ = (if 0 < js_w (σ 83 9) then js_r E (0, 0) σ else (if 0 ≤ js_w x1 ∧ js_w x1 < 66000 then (if 0 ≤ js_w z0 ∧ js_w z0 < 66000 then (if js_w (σ 101 (js_w x1)) = js_w (σ 101 (js_w z0)) then (if js_w x2 < 17 then (if js_w (σ 101 (js_w x1)) = 0 then js_J E d 222 156 [(2, 83), (0, x1), (0, x2), (0, x3), (0, z0)] [] σ else js_J E d 222 166 [(2, 83), (0, x1), (0, x2), (0, x3), (0, z0)] [] σ) else js_J E d 222 156 [(2, 83), (0, x1), (0, x2), (0, x3), (0, z0)] [] σ) else js_J E d 222 166 [(2, 83), (0, x1), (0, x2), (0, x3), (0, z0)] [] σ) else none) else none)) :=
  (j_istore (l2 := [(2, 83), (0, x1), (0, x2), (0, x3), (0, z0)]) q_222_114 rfl (Nat.le_of_ble_eq_true rfl)).trans <| (j_aload_n q_222_116 rfl).trans <| (j_get (ji := 9) (v := (0, σ 83 9)) q_222_117 (js_Fo qy_222 qf_12_22) js_o83 rfl rfl rfl rfl).trans <| (j_ifle (t := 125) q_222_120 rfl).trans (js_ite ((j_iconst q_222_123).trans <| j_ireturn q_222_124 qr_222) ((j_aload_n q_222_125 rfl).trans <| (j_get (ji := 35) (v := (2, 101)) q_222_126 (js_Fo qy_222 qf_12_172) js_o83 rfl rfl rfl rfl).trans <| (j_iload_n q_222_129 rfl).trans <| (j_iaload q_222_130 js_o101).trans <| js_itp fun g0 => (j_aload_n q_222_131 rfl).trans <| (j_get (ji := 35) (v := (2, 101)) q_222_132 (js_Fo qy_222 qf_12_172) js_o83 rfl rfl rfl rfl).trans <| (j_iload q_222_135 rfl).trans <| (j_iaload q_222_137 js_o101).trans <| js_itp fun g1 => (j_cmpne (t := 166) q_222_138 rfl).trans (js_ite ((j_iload_n q_222_141 rfl).trans <| (j_bi q_222_142 rfl).trans <| (j_cmpgeB (t := 156) q_222_144 rfl ww_17).trans (js_ite ((j_aload_n q_222_147 rfl).trans <| (j_get (ji := 35) (v := (2, 101)) q_222_148 (js_Fo qy_222 qf_12_172) js_o83 rfl rfl rfl rfl).trans <| (j_iload_n q_222_151 rfl).trans <| (j_iaload q_222_152 js_o101).trans <| (if_pos g0).trans <| (j_ifne (t := 166) q_222_153 rfl).trans (js_ite (rfl) (rfl))) (rfl))) (rfl))))
theorem b_222_156 {E : js_E} {d : Nat} {σ : js_S} {x1 x2 x3 x4 : Int} : js_J E d 222 156 [(2, 83), (0, x1), (0, x2), (0, x3), (0, x4)] [] σ = (if 0 ≤ js_w x1 ∧ js_w x1 < 66000 then (if js_w (σ 101 (js_w x1)) = 2 then js_J E d 222 166 [(2, 83), (0, x1), (0, x2), (0, x3), (0, x4)] [] σ else js_J E d 222 172 [(2, 83), (0, x1), (0, x2), (0, x3), (0, x4)] [] σ) else none) :=
  (j_aload_n q_222_156 rfl).trans <| (j_get (ji := 35) (v := (2, 101)) q_222_157 (js_Fo qy_222 qf_12_172) js_o83 rfl rfl rfl rfl).trans <| (j_iload_n q_222_160 rfl).trans <| (j_iaload q_222_161 js_o101).trans <| js_itp fun g0 => (j_iconst q_222_162).trans <| (j_cmpneB (t := 172) q_222_163 rfl ww_2).trans (js_ite (rfl) (rfl))
theorem b_222_166 {E : js_E} {d : Nat} {σ : js_S} {x1 x2 x3 x4 : Int} : js_J E d 222 166 [(2, 83), (0, x1), (0, x2), (0, x3), (0, x4)] [] σ = js_J E d 222 169 [(2, 83), (0, x1), (0, x2), (0, x3), (0, x4)] [(0, x3), (0, 5), (2, 83)] σ :=
  (j_aload_n q_222_166 rfl).trans <| (j_iconst q_222_167).trans <| (j_iload_n q_222_168 rfl).trans <| rfl
theorem k_222_169 {E : js_E} {d : Nat} {σ σ2 : js_S} {x1 x2 x3 x4 z1 z2 : Int} (hd : 1 ≤ d) (hz : js_J E (d - 1) 199 0 [(2, 83), (0, z1), (0, z2)] [] σ = js_r0 E σ2) : js_J E d 222 169 [(2, 83), (0, x1), (0, x2), (0, x3), (0, x4)] [(0, z2), (0, z1), (2, 83)] σ = js_J E d 222 172 [(2, 83), (0, x1), (0, x2), (0, x3), (0, x4)] [] σ2 :=
  j_call0 (m := 0) (js_caV q_222_169 (js_Mo qy_222 qm_12_65)) (js_agV (av := [(0, z1), (0, z2)]) (st := []) rfl rfl js_o83 rfl) rfl rfl (by rw [ql_199]; exact Nat.le_of_ble_eq_true rfl) (Nat.le_of_ble_eq_true rfl) hd hz
theorem b_222_172 {E : js_E} {d : Nat} {σ : js_S} {x1 x2 x3 x4 : Int} : js_J E d 222 172 [(2, 83), (0, x1), (0, x2), (0, x3), (0, x4)] [] σ = js_J E d 222 181 [(2, 83), (0, x1), (0, x2), (0, x3), (0, x4)] [(0, x2), (0, x4), (0, x1), (1, 1), (1, 0), (0, 1), (0, 4), (2, 83)] σ :=
  (j_aload_n q_222_172 rfl).trans <| (j_iconst q_222_173).trans <| (j_iconst q_222_174).trans <| (j_lconst0 q_222_175).trans <| (j_lconst1 q_222_176).trans <| (j_iload_n q_222_177 rfl).trans <| (j_iload q_222_178 rfl).trans <| (j_iload_n q_222_180 rfl).trans <| rfl
theorem k_222_181 {E : js_E} {d : Nat} {σ σ2 : js_S} {x1 x2 x3 x4 z1 z2 z3 z4 z5 z6 z7 : Int} {v : Int} (hd : 1 ≤ d) (hz : js_J E (d - 1) 217 0 [(2, 83), (0, z1), (0, z2), (1, z3), (9, 0), (1, z4), (9, 0), (0, z5), (0, z6), (0, z7), (9, 0)] [] σ = js_r E (0, v) σ2) : js_J E d 222 181 [(2, 83), (0, x1), (0, x2), (0, x3), (0, x4)] [(0, z7), (0, z6), (0, z5), (1, z4), (1, z3), (0, z2), (0, z1), (2, 83)] σ = js_J E d 222 184 [(2, 83), (0, x1), (0, x2), (0, x3), (0, x4)] [(0, v)] σ2 :=
  j_call (m := 1) (js_caV q_222_181 (js_Mo qy_222 qm_12_208)) (js_agV (av := [(0, z1), (0, z2), (1, z3), (1, z4), (0, z5), (0, z6), (0, z7)]) (st := []) rfl rfl js_o83 rfl) rfl rfl (by rw [ql_217]; exact Nat.le_of_ble_eq_true rfl) (Nat.le_of_ble_eq_true rfl) hd hz
theorem b_222_184 {E : js_E} {d : Nat} {σ : js_S} {x1 x2 x3 x4 z0 : Int} : js_J E d 222 184 [(2, 83), (0, x1), (0, x2), (0, x3), (0, x4)] [(0, z0)] σ = js_r E (0, z0) σ :=
  j_ireturn q_222_184 qr_222
-- 223: VitalTwinModel.sum ()I
theorem b_223_0 {E : js_E} {d : Nat} {σ : js_S} : js_J E d 223 0 [(2, 83), (9, 0), (9, 0), (9, 0)] [] σ = js_J E d 223 1 [(2, 83), (9, 0), (9, 0), (9, 0)] [(2, 83)] σ :=
  (j_aload_n q_223_0 rfl).trans <| rfl
theorem k_223_1 {E : js_E} {d : Nat} {σ σ2 : js_S} {v : Int} (hd : 1 ≤ d) (hz : js_J E (d - 1) 224 0 [(2, 83), (9, 0), (9, 0), (9, 0)] [] σ = js_r E (0, v) σ2) : js_J E d 223 1 [(2, 83), (9, 0), (9, 0), (9, 0)] [(2, 83)] σ = js_J E d 223 4 [(2, 83), (9, 0), (9, 0), (9, 0)] [(0, v)] σ2 :=
  j_call (m := 3) (js_caV q_223_1 (js_Mo qy_223 qm_12_225)) (js_agV (av := []) (st := []) rfl rfl js_o83 rfl) rfl rfl (by rw [ql_224]; exact Nat.le_of_ble_eq_true rfl) (Nat.le_of_ble_eq_true rfl) hd hz
theorem b_223_4 {E : js_E} {d : Nat} {σ : js_S} {z0 : Int} : js_J E d 223 4 [(2, 83), (9, 0), (9, 0), (9, 0)] [(0, z0)] σ = js_J E d 223 5 [(2, 83), (0, z0), (9, 0), (9, 0)] [] σ :=
  (j_istore_n (l2 := [(2, 83), (0, z0), (9, 0), (9, 0)]) q_223_4 rfl (Nat.le_of_ble_eq_true rfl)).trans <| rfl
theorem b_223_5 {E : js_E} {d : Nat} {σ : js_S} {x1 : Int} {ux2 ux3 : js_v} : js_J E d 223 5 [(2, 83), (0, x1), ux2, ux3] [] σ = (if js_w (σ 83 5) = 43 then js_J E d 223 23 [(2, 83), (0, x1), ux2, ux3] [] σ else (if js_w (σ 83 5) = 45 then js_J E d 223 23 [(2, 83), (0, x1), ux2, ux3] [] σ else js_r E (0, x1) σ)) :=
  (j_aload_n q_223_5 rfl).trans <| (j_get (ji := 5) (v := (0, σ 83 5)) q_223_6 (js_Fo qy_223 qf_12_25) js_o83 rfl rfl rfl rfl).trans <| (j_bi q_223_9 rfl).trans <| (j_cmpeqB (t := 23) q_223_11 rfl ww_43).trans (js_ite (rfl) ((j_aload_n q_223_14 rfl).trans <| (j_get (ji := 5) (v := (0, σ 83 5)) q_223_15 (js_Fo qy_223 qf_12_25) js_o83 rfl rfl rfl rfl).trans <| (j_bi q_223_18 rfl).trans <| (j_cmpneB (t := 64) q_223_20 rfl ww_45).trans (js_ite (rfl) ((j_iload_n q_223_64 rfl).trans <| j_ireturn q_223_65 qr_223))))
theorem b_223_23 {E : js_E} {d : Nat} {σ : js_S} {x1 : Int} {ux2 ux3 : js_v} : js_J E d 223 23 [(2, 83), (0, x1), ux2, ux3] [] σ = (if js_w (σ 83 5) = 43 then js_J E d 223 44 [(2, 83), (0, x1), (0, σ 83 6), ux3] [(0, 6)] σ else js_J E d 223 44 [(2, 83), (0, x1), (0, σ 83 6), ux3] [(0, 7)] σ) :=
  (j_aload_n q_223_23 rfl).trans <| (j_get (ji := 6) (v := (0, σ 83 6)) q_223_24 (js_Fo qy_223 qf_12_35) js_o83 rfl rfl rfl rfl).trans <| (j_istore_n (l2 := [(2, 83), (0, x1), (0, σ 83 6), ux3]) q_223_27 rfl (Nat.le_of_ble_eq_true rfl)).trans <| (j_aload_n q_223_28 rfl).trans <| (j_get (ji := 5) (v := (0, σ 83 5)) q_223_29 (js_Fo qy_223 qf_12_25) js_o83 rfl rfl rfl rfl).trans <| (j_bi q_223_32 rfl).trans <| (j_cmpneB (t := 42) q_223_34 rfl ww_43).trans (js_ite ((j_bi q_223_37 rfl).trans <| (j_goto (t := 44) q_223_39 rfl).trans <| rfl) ((j_bi q_223_42 rfl).trans <| rfl))
theorem b_223_44 {E : js_E} {d : Nat} {σ : js_S} {x1 x2 z0 : Int} {ux3 : js_v} : js_J E d 223 44 [(2, 83), (0, x1), (0, x2), ux3] [(0, z0)] σ = js_J E d 223 46 [(2, 83), (0, x1), (0, x2), (0, z0)] [(2, 83)] σ :=
  (j_istore_n (l2 := [(2, 83), (0, x1), (0, x2), (0, z0)]) q_223_44 rfl (Nat.le_of_ble_eq_true rfl)).trans <| (j_aload_n q_223_45 rfl).trans <| rfl
theorem k_223_46 {E : js_E} {d : Nat} {σ σ2 : js_S} {x1 x2 x3 : Int} (hd : 1 ≤ d) (hz : js_J E (d - 1) 191 0 [(2, 83), (9, 0), (9, 0), (9, 0), (9, 0), (9, 0)] [] σ = js_r0 E σ2) : js_J E d 223 46 [(2, 83), (0, x1), (0, x2), (0, x3)] [(2, 83)] σ = js_J E d 223 49 [(2, 83), (0, x1), (0, x2), (0, x3)] [] σ2 :=
  j_call0 (m := 5) (js_caV q_223_46 (js_Mo qy_223 qm_12_68)) (js_agV (av := []) (st := []) rfl rfl js_o83 rfl) rfl rfl (by rw [ql_191]; exact Nat.le_of_ble_eq_true rfl) (Nat.le_of_ble_eq_true rfl) hd hz
theorem b_223_49 {E : js_E} {d : Nat} {σ : js_S} {x1 x2 x3 : Int} : js_J E d 223 49 [(2, 83), (0, x1), (0, x2), (0, x3)] [] σ = js_J E d 223 53 [(2, 83), (0, x1), (0, x2), (0, x3)] [(2, 83), (0, x1), (0, x3), (2, 83)] σ :=
  (j_aload_n q_223_49 rfl).trans <| (j_iload_n q_223_50 rfl).trans <| (j_iload_n q_223_51 rfl).trans <| (j_aload_n q_223_52 rfl).trans <| rfl
theorem k_223_53 {E : js_E} {d : Nat} {σ σ2 : js_S} {x1 x2 x3 z1 z2 : Int} {v : Int} (hd : 1 ≤ d) (hz : js_J E (d - 1) 224 0 [(2, 83), (9, 0), (9, 0), (9, 0)] [] σ = js_r E (0, v) σ2) : js_J E d 223 53 [(2, 83), (0, x1), (0, x2), (0, x3)] [(2, 83), (0, z2), (0, z1), (2, 83)] σ = js_J E d 223 56 [(2, 83), (0, x1), (0, x2), (0, x3)] [(0, v), (0, z2), (0, z1), (2, 83)] σ2 :=
  j_call (m := 3) (js_caV q_223_53 (js_Mo qy_223 qm_12_225)) (js_agV (av := []) (st := [(0, z2), (0, z1), (2, 83)]) rfl rfl js_o83 rfl) rfl rfl (by rw [ql_224]; exact Nat.le_of_ble_eq_true rfl) (Nat.le_of_ble_eq_true rfl) hd hz
theorem b_223_56 {E : js_E} {d : Nat} {σ : js_S} {x1 x2 x3 z1 z2 z3 : Int} : js_J E d 223 56 [(2, 83), (0, x1), (0, x2), (0, x3)] [(0, z3), (0, z2), (0, z1), (2, 83)] σ = js_J E d 223 57 [(2, 83), (0, x1), (0, x2), (0, x3)] [(0, x2), (0, z3), (0, z2), (0, z1), (2, 83)] σ :=
  (j_iload_n q_223_56 rfl).trans <| rfl
theorem k_223_57 {E : js_E} {d : Nat} {σ σ2 : js_S} {x1 x2 x3 z1 z2 z3 z4 : Int} {v : Int} (hd : 1 ≤ d) (hz : js_J E (d - 1) 234 0 [(2, 83), (0, z1), (0, z2), (0, z3), (0, z4), (9, 0), (9, 0), (9, 0), (9, 0), (9, 0), (9, 0), (9, 0), (9, 0), (9, 0), (9, 0)] [] σ = js_r E (0, v) σ2) : js_J E d 223 57 [(2, 83), (0, x1), (0, x2), (0, x3)] [(0, z4), (0, z3), (0, z2), (0, z1), (2, 83)] σ = js_J E d 223 60 [(2, 83), (0, x1), (0, x2), (0, x3)] [(0, v)] σ2 :=
  j_call (m := 10) (js_caV q_223_57 (js_Mo qy_223 qm_12_228)) (js_agV (av := [(0, z1), (0, z2), (0, z3), (0, z4)]) (st := []) rfl rfl js_o83 rfl) rfl rfl (by rw [ql_234]; exact Nat.le_of_ble_eq_true rfl) (Nat.le_of_ble_eq_true rfl) hd hz
theorem b_223_60 {E : js_E} {d : Nat} {σ : js_S} {x1 x2 x3 z0 : Int} : js_J E d 223 60 [(2, 83), (0, x1), (0, x2), (0, x3)] [(0, z0)] σ = js_J E d 223 5 [(2, 83), (0, z0), (0, x2), (0, x3)] [] σ :=
  (j_istore_n (l2 := [(2, 83), (0, z0), (0, x2), (0, x3)]) q_223_60 rfl (Nat.le_of_ble_eq_true rfl)).trans <| (j_goto (t := 5) q_223_61 rfl).trans <| rfl
-- 224: VitalTwinModel.product ()I
theorem b_224_0 {E : js_E} {d : Nat} {σ : js_S} : js_J E d 224 0 [(2, 83), (9, 0), (9, 0), (9, 0)] [] σ = js_J E d 224 1 [(2, 83), (9, 0), (9, 0), (9, 0)] [(2, 83)] σ :=
  (j_aload_n q_224_0 rfl).trans <| rfl
theorem k_224_1 {E : js_E} {d : Nat} {σ σ2 : js_S} {v : Int} (hd : 1 ≤ d) (hz : js_J E (d - 1) 225 0 [(2, 83), (9, 0), (9, 0), (9, 0)] [] σ = js_r E (0, v) σ2) : js_J E d 224 1 [(2, 83), (9, 0), (9, 0), (9, 0)] [(2, 83)] σ = js_J E d 224 4 [(2, 83), (9, 0), (9, 0), (9, 0)] [(0, v)] σ2 :=
  j_call (m := 3) (js_caV q_224_1 (js_Mo qy_224 qm_12_231)) (js_agV (av := []) (st := []) rfl rfl js_o83 rfl) rfl rfl (by rw [ql_225]; exact Nat.le_of_ble_eq_true rfl) (Nat.le_of_ble_eq_true rfl) hd hz
theorem b_224_4 {E : js_E} {d : Nat} {σ : js_S} {z0 : Int} : js_J E d 224 4 [(2, 83), (9, 0), (9, 0), (9, 0)] [(0, z0)] σ = js_J E d 224 5 [(2, 83), (0, z0), (9, 0), (9, 0)] [] σ :=
  (j_istore_n (l2 := [(2, 83), (0, z0), (9, 0), (9, 0)]) q_224_4 rfl (Nat.le_of_ble_eq_true rfl)).trans <| rfl
theorem b_224_5 {E : js_E} {d : Nat} {σ : js_S} {x1 : Int} {ux2 ux3 : js_v} : js_J E d 224 5 [(2, 83), (0, x1), ux2, ux3] [] σ = (if js_w (σ 83 5) = 42 then js_J E d 224 32 [(2, 83), (0, x1), ux2, ux3] [] σ else (if js_w (σ 83 5) = 47 then js_J E d 224 32 [(2, 83), (0, x1), ux2, ux3] [] σ else (if js_w (σ 83 5) = 37 then js_J E d 224 32 [(2, 83), (0, x1), ux2, ux3] [] σ else js_r E (0, x1) σ))) :=
  (j_aload_n q_224_5 rfl).trans <| (j_get (ji := 5) (v := (0, σ 83 5)) q_224_6 (js_Fo qy_224 qf_12_25) js_o83 rfl rfl rfl rfl).trans <| (j_bi q_224_9 rfl).trans <| (j_cmpeqB (t := 32) q_224_11 rfl ww_42).trans (js_ite (rfl) ((j_aload_n q_224_14 rfl).trans <| (j_get (ji := 5) (v := (0, σ 83 5)) q_224_15 (js_Fo qy_224 qf_12_25) js_o83 rfl rfl rfl rfl).trans <| (j_bi q_224_18 rfl).trans <| (j_cmpeqB (t := 32) q_224_20 rfl ww_47).trans (js_ite (rfl) ((j_aload_n q_224_23 rfl).trans <| (j_get (ji := 5) (v := (0, σ 83 5)) q_224_24 (js_Fo qy_224 qf_12_25) js_o83 rfl rfl rfl rfl).trans <| (j_bi q_224_27 rfl).trans <| (j_cmpneB (t := 87) q_224_29 rfl ww_37).trans (js_ite (rfl) ((j_iload_n q_224_87 rfl).trans <| j_ireturn q_224_88 qr_224))))))
theorem b_224_32 {E : js_E} {d : Nat} {σ : js_S} {x1 : Int} {ux2 ux3 : js_v} : js_J E d 224 32 [(2, 83), (0, x1), ux2, ux3] [] σ = (if js_w (σ 83 5) = 42 then js_J E d 224 67 [(2, 83), (0, x1), (0, σ 83 6), ux3] [(0, 8)] σ else (if js_w (σ 83 5) = 47 then js_J E d 224 67 [(2, 83), (0, x1), (0, σ 83 6), ux3] [(0, 9)] σ else js_J E d 224 67 [(2, 83), (0, x1), (0, σ 83 6), ux3] [(0, 10)] σ)) :=
  (j_aload_n q_224_32 rfl).trans <| (j_get (ji := 6) (v := (0, σ 83 6)) q_224_33 (js_Fo qy_224 qf_12_35) js_o83 rfl rfl rfl rfl).trans <| (j_istore_n (l2 := [(2, 83), (0, x1), (0, σ 83 6), ux3]) q_224_36 rfl (Nat.le_of_ble_eq_true rfl)).trans <| (j_aload_n q_224_37 rfl).trans <| (j_get (ji := 5) (v := (0, σ 83 5)) q_224_38 (js_Fo qy_224 qf_12_25) js_o83 rfl rfl rfl rfl).trans <| (j_bi q_224_41 rfl).trans <| (j_cmpneB (t := 51) q_224_43 rfl ww_42).trans (js_ite ((j_bi q_224_46 rfl).trans <| (j_goto (t := 67) q_224_48 rfl).trans <| rfl) ((j_aload_n q_224_51 rfl).trans <| (j_get (ji := 5) (v := (0, σ 83 5)) q_224_52 (js_Fo qy_224 qf_12_25) js_o83 rfl rfl rfl rfl).trans <| (j_bi q_224_55 rfl).trans <| (j_cmpneB (t := 65) q_224_57 rfl ww_47).trans (js_ite ((j_bi q_224_60 rfl).trans <| (j_goto (t := 67) q_224_62 rfl).trans <| rfl) ((j_bi q_224_65 rfl).trans <| rfl))))
theorem b_224_67 {E : js_E} {d : Nat} {σ : js_S} {x1 x2 z0 : Int} {ux3 : js_v} : js_J E d 224 67 [(2, 83), (0, x1), (0, x2), ux3] [(0, z0)] σ = js_J E d 224 69 [(2, 83), (0, x1), (0, x2), (0, z0)] [(2, 83)] σ :=
  (j_istore_n (l2 := [(2, 83), (0, x1), (0, x2), (0, z0)]) q_224_67 rfl (Nat.le_of_ble_eq_true rfl)).trans <| (j_aload_n q_224_68 rfl).trans <| rfl
theorem k_224_69 {E : js_E} {d : Nat} {σ σ2 : js_S} {x1 x2 x3 : Int} (hd : 1 ≤ d) (hz : js_J E (d - 1) 191 0 [(2, 83), (9, 0), (9, 0), (9, 0), (9, 0), (9, 0)] [] σ = js_r0 E σ2) : js_J E d 224 69 [(2, 83), (0, x1), (0, x2), (0, x3)] [(2, 83)] σ = js_J E d 224 72 [(2, 83), (0, x1), (0, x2), (0, x3)] [] σ2 :=
  j_call0 (m := 5) (js_caV q_224_69 (js_Mo qy_224 qm_12_68)) (js_agV (av := []) (st := []) rfl rfl js_o83 rfl) rfl rfl (by rw [ql_191]; exact Nat.le_of_ble_eq_true rfl) (Nat.le_of_ble_eq_true rfl) hd hz
theorem b_224_72 {E : js_E} {d : Nat} {σ : js_S} {x1 x2 x3 : Int} : js_J E d 224 72 [(2, 83), (0, x1), (0, x2), (0, x3)] [] σ = js_J E d 224 76 [(2, 83), (0, x1), (0, x2), (0, x3)] [(2, 83), (0, x1), (0, x3), (2, 83)] σ :=
  (j_aload_n q_224_72 rfl).trans <| (j_iload_n q_224_73 rfl).trans <| (j_iload_n q_224_74 rfl).trans <| (j_aload_n q_224_75 rfl).trans <| rfl
theorem k_224_76 {E : js_E} {d : Nat} {σ σ2 : js_S} {x1 x2 x3 z1 z2 : Int} {v : Int} (hd : 1 ≤ d) (hz : js_J E (d - 1) 225 0 [(2, 83), (9, 0), (9, 0), (9, 0)] [] σ = js_r E (0, v) σ2) : js_J E d 224 76 [(2, 83), (0, x1), (0, x2), (0, x3)] [(2, 83), (0, z2), (0, z1), (2, 83)] σ = js_J E d 224 79 [(2, 83), (0, x1), (0, x2), (0, x3)] [(0, v), (0, z2), (0, z1), (2, 83)] σ2 :=
  j_call (m := 3) (js_caV q_224_76 (js_Mo qy_224 qm_12_231)) (js_agV (av := []) (st := [(0, z2), (0, z1), (2, 83)]) rfl rfl js_o83 rfl) rfl rfl (by rw [ql_225]; exact Nat.le_of_ble_eq_true rfl) (Nat.le_of_ble_eq_true rfl) hd hz
theorem b_224_79 {E : js_E} {d : Nat} {σ : js_S} {x1 x2 x3 z1 z2 z3 : Int} : js_J E d 224 79 [(2, 83), (0, x1), (0, x2), (0, x3)] [(0, z3), (0, z2), (0, z1), (2, 83)] σ = js_J E d 224 80 [(2, 83), (0, x1), (0, x2), (0, x3)] [(0, x2), (0, z3), (0, z2), (0, z1), (2, 83)] σ :=
  (j_iload_n q_224_79 rfl).trans <| rfl
theorem k_224_80 {E : js_E} {d : Nat} {σ σ2 : js_S} {x1 x2 x3 z1 z2 z3 z4 : Int} {v : Int} (hd : 1 ≤ d) (hz : js_J E (d - 1) 234 0 [(2, 83), (0, z1), (0, z2), (0, z3), (0, z4), (9, 0), (9, 0), (9, 0), (9, 0), (9, 0), (9, 0), (9, 0), (9, 0), (9, 0), (9, 0)] [] σ = js_r E (0, v) σ2) : js_J E d 224 80 [(2, 83), (0, x1), (0, x2), (0, x3)] [(0, z4), (0, z3), (0, z2), (0, z1), (2, 83)] σ = js_J E d 224 83 [(2, 83), (0, x1), (0, x2), (0, x3)] [(0, v)] σ2 :=
  j_call (m := 10) (js_caV q_224_80 (js_Mo qy_224 qm_12_228)) (js_agV (av := [(0, z1), (0, z2), (0, z3), (0, z4)]) (st := []) rfl rfl js_o83 rfl) rfl rfl (by rw [ql_234]; exact Nat.le_of_ble_eq_true rfl) (Nat.le_of_ble_eq_true rfl) hd hz
theorem b_224_83 {E : js_E} {d : Nat} {σ : js_S} {x1 x2 x3 z0 : Int} : js_J E d 224 83 [(2, 83), (0, x1), (0, x2), (0, x3)] [(0, z0)] σ = js_J E d 224 5 [(2, 83), (0, z0), (0, x2), (0, x3)] [] σ :=
  (j_istore_n (l2 := [(2, 83), (0, z0), (0, x2), (0, x3)]) q_224_83 rfl (Nat.le_of_ble_eq_true rfl)).trans <| (j_goto (t := 5) q_224_84 rfl).trans <| rfl
