/-! part 70.r12: block equations of the reference's methods 291 to 298 (printed by wip/whole/tools/gen71.py) -/
theorem qy_291 : vt_O 291 = 12 := by decide +kernel
theorem qr_291 : vt_rc.getD 291 0 = 1 := by decide +kernel
theorem ql_291 : vt_ml.getD 291 0 = 3 := by decide +kernel
theorem qy_292 : vt_O 292 = 12 := by decide +kernel
theorem qr_292 : vt_rc.getD 292 0 = 1 := by decide +kernel
theorem ql_292 : vt_ml.getD 292 0 = 3 := by decide +kernel
theorem qy_293 : vt_O 293 = 12 := by decide +kernel
theorem qr_293 : vt_rc.getD 293 0 = 1 := by decide +kernel
theorem ql_293 : vt_ml.getD 293 0 = 3 := by decide +kernel
theorem qy_294 : vt_O 294 = 12 := by decide +kernel
theorem qr_294 : vt_rc.getD 294 0 = 3 := by decide +kernel
theorem ql_294 : vt_ml.getD 294 0 = 3 := by decide +kernel
theorem qy_295 : vt_O 295 = 12 := by decide +kernel
theorem qr_295 : vt_rc.getD 295 0 = 1 := by decide +kernel
theorem ql_295 : vt_ml.getD 295 0 = 6 := by decide +kernel
theorem qy_296 : vt_O 296 = 12 := by decide +kernel
theorem qr_296 : vt_rc.getD 296 0 = 0 := by decide +kernel
theorem ql_296 : vt_ml.getD 296 0 = 2 := by decide +kernel
theorem qy_297 : vt_O 297 = 12 := by decide +kernel
theorem qr_297 : vt_rc.getD 297 0 = 0 := by decide +kernel
theorem ql_297 : vt_ml.getD 297 0 = 7 := by decide +kernel
theorem qy_298 : vt_O 298 = 12 := by decide +kernel
theorem qr_298 : vt_rc.getD 298 0 = 1 := by decide +kernel
theorem ql_298 : vt_ml.getD 298 0 = 2 := by decide +kernel
theorem q_291_0 : js_I 291 0 = some (.aload_n 0, 1) := by decide +kernel
theorem q_291_1 : js_I 291 1 = some (.iconst 0, 1) := by decide +kernel
theorem q_291_2 : js_I 291 2 = some (.putfield 3, 3) := by decide +kernel
theorem q_291_5 : js_I 291 5 = some (.iload_n 1, 1) := by decide +kernel
theorem q_291_6 : js_I 291 6 = some (.ifCond .lt 11, 3) := by decide +kernel
theorem q_291_17 : js_I 291 17 = some (.iconst (-1), 1) := by decide +kernel
theorem q_291_18 : js_I 291 18 = some (.ireturn, 1) := by decide +kernel
theorem q_291_9 : js_I 291 9 = some (.iload_n 1, 1) := by decide +kernel
theorem q_291_10 : js_I 291 10 = some (.aload_n 0, 1) := by decide +kernel
theorem q_291_11 : js_I 291 11 = some (.getfield 86, 3) := by decide +kernel
theorem q_291_14 : js_I 291 14 = some (.if_icmp .lt 5, 3) := by decide +kernel
theorem q_291_19 : js_I 291 19 = some (.iload_n 2, 1) := by decide +kernel
theorem q_291_20 : js_I 291 20 = some (.tableswitch 115 0 8 #[52, 59, 66, 73, 80, 87, 94, 101, 108], 52) := by decide +kernel
theorem q_291_72 : js_I 291 72 = some (.aload_n 0, 1) := by decide +kernel
theorem q_291_73 : js_I 291 73 = some (.getfield 99, 3) := by decide +kernel
theorem q_291_76 : js_I 291 76 = some (.iload_n 1, 1) := by decide +kernel
theorem q_291_77 : js_I 291 77 = some (.iaload, 1) := by decide +kernel
theorem q_291_78 : js_I 291 78 = some (.ireturn, 1) := by decide +kernel
theorem q_291_79 : js_I 291 79 = some (.aload_n 0, 1) := by decide +kernel
theorem q_291_80 : js_I 291 80 = some (.getfield 102, 3) := by decide +kernel
theorem q_291_83 : js_I 291 83 = some (.iload_n 1, 1) := by decide +kernel
theorem q_291_84 : js_I 291 84 = some (.iaload, 1) := by decide +kernel
theorem q_291_85 : js_I 291 85 = some (.ireturn, 1) := by decide +kernel
theorem q_291_86 : js_I 291 86 = some (.aload_n 0, 1) := by decide +kernel
theorem q_291_87 : js_I 291 87 = some (.getfield 105, 3) := by decide +kernel
theorem q_291_90 : js_I 291 90 = some (.iload_n 1, 1) := by decide +kernel
theorem q_291_91 : js_I 291 91 = some (.iaload, 1) := by decide +kernel
theorem q_291_92 : js_I 291 92 = some (.ireturn, 1) := by decide +kernel
theorem q_291_93 : js_I 291 93 = some (.aload_n 0, 1) := by decide +kernel
theorem q_291_94 : js_I 291 94 = some (.getfield 108, 3) := by decide +kernel
theorem q_291_97 : js_I 291 97 = some (.iload_n 1, 1) := by decide +kernel
theorem q_291_98 : js_I 291 98 = some (.iaload, 1) := by decide +kernel
theorem q_291_99 : js_I 291 99 = some (.ireturn, 1) := by decide +kernel
theorem q_291_100 : js_I 291 100 = some (.aload_n 0, 1) := by decide +kernel
theorem q_291_101 : js_I 291 101 = some (.getfield 111, 3) := by decide +kernel
theorem q_291_104 : js_I 291 104 = some (.iload_n 1, 1) := by decide +kernel
theorem q_291_105 : js_I 291 105 = some (.iaload, 1) := by decide +kernel
theorem q_291_106 : js_I 291 106 = some (.ireturn, 1) := by decide +kernel
theorem q_291_107 : js_I 291 107 = some (.aload_n 0, 1) := by decide +kernel
theorem q_291_108 : js_I 291 108 = some (.getfield 114, 3) := by decide +kernel
theorem q_291_111 : js_I 291 111 = some (.iload_n 1, 1) := by decide +kernel
theorem q_291_112 : js_I 291 112 = some (.iaload, 1) := by decide +kernel
theorem q_291_113 : js_I 291 113 = some (.ireturn, 1) := by decide +kernel
theorem q_291_114 : js_I 291 114 = some (.aload_n 0, 1) := by decide +kernel
theorem q_291_115 : js_I 291 115 = some (.getfield 120, 3) := by decide +kernel
theorem q_291_118 : js_I 291 118 = some (.iload_n 1, 1) := by decide +kernel
theorem q_291_119 : js_I 291 119 = some (.iaload, 1) := by decide +kernel
theorem q_291_120 : js_I 291 120 = some (.ireturn, 1) := by decide +kernel
theorem q_291_121 : js_I 291 121 = some (.aload_n 0, 1) := by decide +kernel
theorem q_291_122 : js_I 291 122 = some (.getfield 126, 3) := by decide +kernel
theorem q_291_125 : js_I 291 125 = some (.iload_n 1, 1) := by decide +kernel
theorem q_291_126 : js_I 291 126 = some (.iaload, 1) := by decide +kernel
theorem q_291_127 : js_I 291 127 = some (.ireturn, 1) := by decide +kernel
theorem q_291_128 : js_I 291 128 = some (.aload_n 0, 1) := by decide +kernel
theorem q_291_129 : js_I 291 129 = some (.getfield 129, 3) := by decide +kernel
theorem q_291_132 : js_I 291 132 = some (.iload_n 1, 1) := by decide +kernel
theorem q_291_133 : js_I 291 133 = some (.iaload, 1) := by decide +kernel
theorem q_291_134 : js_I 291 134 = some (.ireturn, 1) := by decide +kernel
theorem q_291_135 : js_I 291 135 = some (.iconst (-1), 1) := by decide +kernel
theorem q_291_136 : js_I 291 136 = some (.ireturn, 1) := by decide +kernel
theorem q_292_0 : js_I 292 0 = some (.aload_n 0, 1) := by decide +kernel
theorem q_292_1 : js_I 292 1 = some (.iconst 0, 1) := by decide +kernel
theorem q_292_2 : js_I 292 2 = some (.putfield 3, 3) := by decide +kernel
theorem q_292_5 : js_I 292 5 = some (.iload_n 1, 1) := by decide +kernel
theorem q_292_6 : js_I 292 6 = some (.ifCond .lt 25, 3) := by decide +kernel
theorem q_292_31 : js_I 292 31 = some (.iconst (-1), 1) := by decide +kernel
theorem q_292_32 : js_I 292 32 = some (.goto 14, 3) := by decide +kernel
theorem q_292_46 : js_I 292 46 = some (.ireturn, 1) := by decide +kernel
theorem q_292_9 : js_I 292 9 = some (.iload_n 1, 1) := by decide +kernel
theorem q_292_10 : js_I 292 10 = some (.aload_n 0, 1) := by decide +kernel
theorem q_292_11 : js_I 292 11 = some (.getfield 86, 3) := by decide +kernel
theorem q_292_14 : js_I 292 14 = some (.if_icmp .ge 17, 3) := by decide +kernel
theorem q_292_17 : js_I 292 17 = some (.iload_n 2, 1) := by decide +kernel
theorem q_292_18 : js_I 292 18 = some (.ifCond .lt 13, 3) := by decide +kernel
theorem q_292_21 : js_I 292 21 = some (.iload_n 2, 1) := by decide +kernel
theorem q_292_22 : js_I 292 22 = some (.aload_n 0, 1) := by decide +kernel
theorem q_292_23 : js_I 292 23 = some (.getfield 79, 3) := by decide +kernel
theorem q_292_26 : js_I 292 26 = some (.iload_n 1, 1) := by decide +kernel
theorem q_292_27 : js_I 292 27 = some (.iaload, 1) := by decide +kernel
theorem q_292_28 : js_I 292 28 = some (.if_icmp .lt 7, 3) := by decide +kernel
theorem q_292_35 : js_I 292 35 = some (.aload_n 0, 1) := by decide +kernel
theorem q_292_36 : js_I 292 36 = some (.getfield 83, 3) := by decide +kernel
theorem q_292_39 : js_I 292 39 = some (.bipush 20, 2) := by decide +kernel
theorem q_292_41 : js_I 292 41 = some (.iload_n 1, 1) := by decide +kernel
theorem q_292_42 : js_I 292 42 = some (.imul, 1) := by decide +kernel
theorem q_292_43 : js_I 292 43 = some (.iload_n 2, 1) := by decide +kernel
theorem q_292_44 : js_I 292 44 = some (.iadd, 1) := by decide +kernel
theorem q_292_45 : js_I 292 45 = some (.baload, 1) := by decide +kernel
theorem q_293_0 : js_I 293 0 = some (.aload_n 0, 1) := by decide +kernel
theorem q_293_1 : js_I 293 1 = some (.iconst 0, 1) := by decide +kernel
theorem q_293_2 : js_I 293 2 = some (.putfield 3, 3) := by decide +kernel
theorem q_293_5 : js_I 293 5 = some (.iload_n 1, 1) := by decide +kernel
theorem q_293_6 : js_I 293 6 = some (.ifCond .lt 20, 3) := by decide +kernel
theorem q_293_26 : js_I 293 26 = some (.iconst (-1), 1) := by decide +kernel
theorem q_293_27 : js_I 293 27 = some (.ireturn, 1) := by decide +kernel
theorem q_293_9 : js_I 293 9 = some (.iload_n 1, 1) := by decide +kernel
theorem q_293_10 : js_I 293 10 = some (.aload_n 0, 1) := by decide +kernel
theorem q_293_11 : js_I 293 11 = some (.getfield 428, 3) := by decide +kernel
theorem q_293_14 : js_I 293 14 = some (.if_icmp .ge 12, 3) := by decide +kernel
theorem q_293_17 : js_I 293 17 = some (.iload_n 2, 1) := by decide +kernel
theorem q_293_18 : js_I 293 18 = some (.ifCond .lt 8, 3) := by decide +kernel
theorem q_293_21 : js_I 293 21 = some (.iload_n 2, 1) := by decide +kernel
theorem q_293_22 : js_I 293 22 = some (.iconst 2, 1) := by decide +kernel
theorem q_293_23 : js_I 293 23 = some (.if_icmp .le 5, 3) := by decide +kernel
theorem q_293_28 : js_I 293 28 = some (.iload_n 2, 1) := by decide +kernel
theorem q_293_29 : js_I 293 29 = some (.ifCond .ne 12, 3) := by decide +kernel
theorem q_293_32 : js_I 293 32 = some (.aload_n 0, 1) := by decide +kernel
theorem q_293_33 : js_I 293 33 = some (.getfield 346, 3) := by decide +kernel
theorem q_293_36 : js_I 293 36 = some (.iload_n 1, 1) := by decide +kernel
theorem q_293_37 : js_I 293 37 = some (.iaload, 1) := by decide +kernel
theorem q_293_38 : js_I 293 38 = some (.goto 23, 3) := by decide +kernel
theorem q_293_61 : js_I 293 61 = some (.ireturn, 1) := by decide +kernel
theorem q_293_41 : js_I 293 41 = some (.iload_n 2, 1) := by decide +kernel
theorem q_293_42 : js_I 293 42 = some (.iconst 1, 1) := by decide +kernel
theorem q_293_43 : js_I 293 43 = some (.if_icmp .ne 12, 3) := by decide +kernel
theorem q_293_46 : js_I 293 46 = some (.aload_n 0, 1) := by decide +kernel
theorem q_293_47 : js_I 293 47 = some (.getfield 349, 3) := by decide +kernel
theorem q_293_50 : js_I 293 50 = some (.iload_n 1, 1) := by decide +kernel
theorem q_293_51 : js_I 293 51 = some (.iaload, 1) := by decide +kernel
theorem q_293_52 : js_I 293 52 = some (.goto 9, 3) := by decide +kernel
theorem q_293_55 : js_I 293 55 = some (.aload_n 0, 1) := by decide +kernel
theorem q_293_56 : js_I 293 56 = some (.getfield 352, 3) := by decide +kernel
theorem q_293_59 : js_I 293 59 = some (.iload_n 1, 1) := by decide +kernel
theorem q_293_60 : js_I 293 60 = some (.iaload, 1) := by decide +kernel
theorem q_294_0 : js_I 294 0 = some (.aload_n 0, 1) := by decide +kernel
theorem q_294_1 : js_I 294 1 = some (.iload_n 1, 1) := by decide +kernel
theorem q_294_2 : js_I 294 2 = some (.ifCond .lt 20, 3) := by decide +kernel
theorem q_294_5 : js_I 294 5 = some (.iload_n 1, 1) := by decide +kernel
theorem q_294_6 : js_I 294 6 = some (.aload_n 0, 1) := by decide +kernel
theorem q_294_7 : js_I 294 7 = some (.getfield 428, 3) := by decide +kernel
theorem q_294_10 : js_I 294 10 = some (.if_icmp .ge 12, 3) := by decide +kernel
theorem q_294_13 : js_I 294 13 = some (.iload_n 2, 1) := by decide +kernel
theorem q_294_14 : js_I 294 14 = some (.ifCond .lt 8, 3) := by decide +kernel
theorem q_294_17 : js_I 294 17 = some (.iload_n 2, 1) := by decide +kernel
theorem q_294_18 : js_I 294 18 = some (.iconst 1, 1) := by decide +kernel
theorem q_294_19 : js_I 294 19 = some (.if_icmp .le 7, 3) := by decide +kernel
theorem q_294_26 : js_I 294 26 = some (.iconst 0, 1) := by decide +kernel
theorem q_294_22 : js_I 294 22 = some (.iconst 1, 1) := by decide +kernel
theorem q_294_23 : js_I 294 23 = some (.goto 4, 3) := by decide +kernel
theorem q_294_27 : js_I 294 27 = some (.putfield 3, 3) := by decide +kernel
theorem q_294_30 : js_I 294 30 = some (.aload_n 0, 1) := by decide +kernel
theorem q_294_31 : js_I 294 31 = some (.getfield 3, 3) := by decide +kernel
theorem q_294_34 : js_I 294 34 = some (.ifCond .le 5, 3) := by decide +kernel
theorem q_294_37 : js_I 294 37 = some (.lconst 0, 1) := by decide +kernel
theorem q_294_38 : js_I 294 38 = some (.lreturn, 1) := by decide +kernel
theorem q_294_39 : js_I 294 39 = some (.iload_n 2, 1) := by decide +kernel
theorem q_294_40 : js_I 294 40 = some (.ifCond .ne 12, 3) := by decide +kernel
theorem q_294_43 : js_I 294 43 = some (.aload_n 0, 1) := by decide +kernel
theorem q_294_44 : js_I 294 44 = some (.getfield 355, 3) := by decide +kernel
theorem q_294_47 : js_I 294 47 = some (.iload_n 1, 1) := by decide +kernel
theorem q_294_48 : js_I 294 48 = some (.laload, 1) := by decide +kernel
theorem q_294_49 : js_I 294 49 = some (.goto 9, 3) := by decide +kernel
theorem q_294_58 : js_I 294 58 = some (.lreturn, 1) := by decide +kernel
theorem q_294_52 : js_I 294 52 = some (.aload_n 0, 1) := by decide +kernel
theorem q_294_53 : js_I 294 53 = some (.getfield 359, 3) := by decide +kernel
theorem q_294_56 : js_I 294 56 = some (.iload_n 1, 1) := by decide +kernel
theorem q_294_57 : js_I 294 57 = some (.laload, 1) := by decide +kernel
theorem q_295_0 : js_I 295 0 = some (.aload_n 0, 1) := by decide +kernel
theorem q_295_1 : js_I 295 1 = some (.iconst 0, 1) := by decide +kernel
theorem q_295_2 : js_I 295 2 = some (.putfield 3, 3) := by decide +kernel
theorem q_295_5 : js_I 295 5 = some (.iload_n 1, 1) := by decide +kernel
theorem q_295_6 : js_I 295 6 = some (.ifCond .lt 24, 3) := by decide +kernel
theorem q_295_30 : js_I 295 30 = some (.iconst (-1), 1) := by decide +kernel
theorem q_295_31 : js_I 295 31 = some (.ireturn, 1) := by decide +kernel
theorem q_295_9 : js_I 295 9 = some (.iload_n 1, 1) := by decide +kernel
theorem q_295_10 : js_I 295 10 = some (.iconst 1, 1) := by decide +kernel
theorem q_295_11 : js_I 295 11 = some (.if_icmp .gt 19, 3) := by decide +kernel
theorem q_295_14 : js_I 295 14 = some (.iload_n 2, 1) := by decide +kernel
theorem q_295_15 : js_I 295 15 = some (.ifCond .lt 15, 3) := by decide +kernel
theorem q_295_18 : js_I 295 18 = some (.iload_n 2, 1) := by decide +kernel
theorem q_295_19 : js_I 295 19 = some (.aload_n 0, 1) := by decide +kernel
theorem q_295_20 : js_I 295 20 = some (.getfield 428, 3) := by decide +kernel
theorem q_295_23 : js_I 295 23 = some (.if_icmp .ge 7, 3) := by decide +kernel
theorem q_295_26 : js_I 295 26 = some (.iload_n 3, 1) := by decide +kernel
theorem q_295_27 : js_I 295 27 = some (.ifCond .ge 5, 3) := by decide +kernel
theorem q_295_32 : js_I 295 32 = some (.aload_n 0, 1) := by decide +kernel
theorem q_295_33 : js_I 295 33 = some (.iconst 0, 1) := by decide +kernel
theorem q_295_34 : js_I 295 34 = some (.putfield 658, 3) := by decide +kernel
theorem q_295_37 : js_I 295 37 = some (.iconst 0, 1) := by decide +kernel
theorem q_295_38 : js_I 295 38 = some (.istore 4, 2) := by decide +kernel
theorem q_295_40 : js_I 295 40 = some (.iconst 0, 1) := by decide +kernel
theorem q_295_41 : js_I 295 41 = some (.istore 5, 2) := by decide +kernel
theorem q_295_43 : js_I 295 43 = some (.iload 5, 2) := by decide +kernel
theorem q_295_45 : js_I 295 45 = some (.aload_n 0, 1) := by decide +kernel
theorem q_295_46 : js_I 295 46 = some (.getfield 346, 3) := by decide +kernel
theorem q_295_49 : js_I 295 49 = some (.iload_n 2, 1) := by decide +kernel
theorem q_295_50 : js_I 295 50 = some (.iaload, 1) := by decide +kernel
theorem q_295_51 : js_I 295 51 = some (.if_icmp .ge 30, 3) := by decide +kernel
theorem q_295_54 : js_I 295 54 = some (.aload_n 0, 1) := by decide +kernel
theorem q_295_55 : js_I 295 55 = some (.getfield 416, 3) := by decide +kernel
theorem q_295_58 : js_I 295 58 = some (.iload 4, 2) := by decide +kernel
theorem q_295_60 : js_I 295 60 = some (.baload, 1) := by decide +kernel
theorem q_295_61 : js_I 295 61 = some (.bipush 32, 2) := by decide +kernel
theorem q_295_63 : js_I 295 63 = some (.if_icmp .eq 9, 3) := by decide +kernel
theorem q_295_72 : js_I 295 72 = some (.iinc 4 1, 3) := by decide +kernel
theorem q_295_75 : js_I 295 75 = some (.iinc 5 1, 3) := by decide +kernel
theorem q_295_78 : js_I 295 78 = some (.goto (-35), 3) := by decide +kernel
theorem q_295_66 : js_I 295 66 = some (.iinc 4 1, 3) := by decide +kernel
theorem q_295_69 : js_I 295 69 = some (.goto (-15), 3) := by decide +kernel
theorem q_295_81 : js_I 295 81 = some (.aload_n 0, 1) := by decide +kernel
theorem q_295_82 : js_I 295 82 = some (.getfield 416, 3) := by decide +kernel
theorem q_295_85 : js_I 295 85 = some (.iload 4, 2) := by decide +kernel
theorem q_295_87 : js_I 295 87 = some (.baload, 1) := by decide +kernel
theorem q_295_88 : js_I 295 88 = some (.bipush 32, 2) := by decide +kernel
theorem q_295_90 : js_I 295 90 = some (.if_icmp .eq 20, 3) := by decide +kernel
theorem q_295_110 : js_I 295 110 = some (.aload_n 0, 1) := by decide +kernel
theorem q_295_111 : js_I 295 111 = some (.getfield 346, 3) := by decide +kernel
theorem q_295_114 : js_I 295 114 = some (.iload_n 2, 1) := by decide +kernel
theorem q_295_115 : js_I 295 115 = some (.iaload, 1) := by decide +kernel
theorem q_295_116 : js_I 295 116 = some (.istore 5, 2) := by decide +kernel
theorem q_295_118 : js_I 295 118 = some (.iload 5, 2) := by decide +kernel
theorem q_295_120 : js_I 295 120 = some (.ifCond .eq 17, 3) := by decide +kernel
theorem q_295_123 : js_I 295 123 = some (.iload 5, 2) := by decide +kernel
theorem q_295_125 : js_I 295 125 = some (.bipush 22, 2) := by decide +kernel
theorem q_295_127 : js_I 295 127 = some (.if_icmp .eq 10, 3) := by decide +kernel
theorem q_295_130 : js_I 295 130 = some (.iload 5, 2) := by decide +kernel
theorem q_295_132 : js_I 295 132 = some (.bipush 23, 2) := by decide +kernel
theorem q_295_134 : js_I 295 134 = some (.if_icmp .ne 35, 3) := by decide +kernel
theorem q_295_169 : js_I 295 169 = some (.iload 5, 2) := by decide +kernel
theorem q_295_171 : js_I 295 171 = some (.iconst 1, 1) := by decide +kernel
theorem q_295_172 : js_I 295 172 = some (.if_icmp .eq 35, 3) := by decide +kernel
theorem q_295_175 : js_I 295 175 = some (.iload 5, 2) := by decide +kernel
theorem q_295_177 : js_I 295 177 = some (.iconst 2, 1) := by decide +kernel
theorem q_295_178 : js_I 295 178 = some (.if_icmp .eq 29, 3) := by decide +kernel
theorem q_295_181 : js_I 295 181 = some (.iload 5, 2) := by decide +kernel
theorem q_295_183 : js_I 295 183 = some (.iconst 4, 1) := by decide +kernel
theorem q_295_184 : js_I 295 184 = some (.if_icmp .eq 23, 3) := by decide +kernel
theorem q_295_187 : js_I 295 187 = some (.iload 5, 2) := by decide +kernel
theorem q_295_189 : js_I 295 189 = some (.iconst 5, 1) := by decide +kernel
theorem q_295_190 : js_I 295 190 = some (.if_icmp .eq 17, 3) := by decide +kernel
theorem q_295_193 : js_I 295 193 = some (.iload 5, 2) := by decide +kernel
theorem q_295_195 : js_I 295 195 = some (.bipush 24, 2) := by decide +kernel
theorem q_295_197 : js_I 295 197 = some (.if_icmp .lt 21, 3) := by decide +kernel
theorem q_295_200 : js_I 295 200 = some (.iload 5, 2) := by decide +kernel
theorem q_295_202 : js_I 295 202 = some (.bipush 28, 2) := by decide +kernel
theorem q_295_204 : js_I 295 204 = some (.if_icmp .ge 14, 3) := by decide +kernel
theorem q_295_93 : js_I 295 93 = some (.aload_n 0, 1) := by decide +kernel
theorem q_295_94 : js_I 295 94 = some (.aload_n 0, 1) := by decide +kernel
theorem q_295_95 : js_I 295 95 = some (.getfield 416, 3) := by decide +kernel
theorem q_295_98 : js_I 295 98 = some (.iload 4, 2) := by decide +kernel
theorem q_295_100 : js_I 295 100 = some (.baload, 1) := by decide +kernel
theorem q_295_101 : js_I 295 101 = some (.invokevirtual 661, 3) := by decide +kernel
theorem q_295_104 : js_I 295 104 = some (.iinc 4 1, 3) := by decide +kernel
theorem q_295_107 : js_I 295 107 = some (.goto (-26), 3) := by decide +kernel
theorem q_295_137 : js_I 295 137 = some (.aload_n 0, 1) := by decide +kernel
theorem q_295_138 : js_I 295 138 = some (.iload_n 1, 1) := by decide +kernel
theorem q_295_139 : js_I 295 139 = some (.ifCond .ne 13, 3) := by decide +kernel
theorem q_295_142 : js_I 295 142 = some (.aload_n 0, 1) := by decide +kernel
theorem q_295_143 : js_I 295 143 = some (.getfield 349, 3) := by decide +kernel
theorem q_295_146 : js_I 295 146 = some (.iload_n 2, 1) := by decide +kernel
theorem q_295_147 : js_I 295 147 = some (.iaload, 1) := by decide +kernel
theorem q_295_148 : js_I 295 148 = some (.i2l, 1) := by decide +kernel
theorem q_295_149 : js_I 295 149 = some (.goto 14, 3) := by decide +kernel
theorem q_295_152 : js_I 295 152 = some (.ldc2_w 571, 3) := by decide +kernel
theorem q_295_155 : js_I 295 155 = some (.aload_n 0, 1) := by decide +kernel
theorem q_295_156 : js_I 295 156 = some (.getfield 349, 3) := by decide +kernel
theorem q_295_159 : js_I 295 159 = some (.iload_n 2, 1) := by decide +kernel
theorem q_295_160 : js_I 295 160 = some (.iaload, 1) := by decide +kernel
theorem q_295_161 : js_I 295 161 = some (.i2l, 1) := by decide +kernel
theorem q_295_162 : js_I 295 162 = some (.lmul, 1) := by decide +kernel
theorem q_295_163 : js_I 295 163 = some (.invokevirtual 666, 3) := by decide +kernel
theorem q_295_166 : js_I 295 166 = some (.goto 52, 3) := by decide +kernel
theorem q_295_207 : js_I 295 207 = some (.aload_n 0, 1) := by decide +kernel
theorem q_295_208 : js_I 295 208 = some (.aload_n 0, 1) := by decide +kernel
theorem q_295_209 : js_I 295 209 = some (.getfield 349, 3) := by decide +kernel
theorem q_295_212 : js_I 295 212 = some (.iload_n 2, 1) := by decide +kernel
theorem q_295_213 : js_I 295 213 = some (.iaload, 1) := by decide +kernel
theorem q_295_214 : js_I 295 214 = some (.i2l, 1) := by decide +kernel
theorem q_295_215 : js_I 295 215 = some (.invokevirtual 666, 3) := by decide +kernel
theorem q_295_218 : js_I 295 218 = some (.iload 5, 2) := by decide +kernel
theorem q_295_220 : js_I 295 220 = some (.iconst 4, 1) := by decide +kernel
theorem q_295_221 : js_I 295 221 = some (.if_icmp .eq 9, 3) := by decide +kernel
theorem q_295_224 : js_I 295 224 = some (.iload 5, 2) := by decide +kernel
theorem q_295_226 : js_I 295 226 = some (.iconst 5, 1) := by decide +kernel
theorem q_295_227 : js_I 295 227 = some (.if_icmp .ne 14, 3) := by decide +kernel
theorem q_295_230 : js_I 295 230 = some (.aload_n 0, 1) := by decide +kernel
theorem q_295_231 : js_I 295 231 = some (.aload_n 0, 1) := by decide +kernel
theorem q_295_232 : js_I 295 232 = some (.getfield 352, 3) := by decide +kernel
theorem q_295_235 : js_I 295 235 = some (.iload_n 2, 1) := by decide +kernel
theorem q_295_236 : js_I 295 236 = some (.iaload, 1) := by decide +kernel
theorem q_295_237 : js_I 295 237 = some (.i2l, 1) := by decide +kernel
theorem q_295_238 : js_I 295 238 = some (.invokevirtual 666, 3) := by decide +kernel
theorem q_295_241 : js_I 295 241 = some (.iload_n 3, 1) := by decide +kernel
theorem q_295_242 : js_I 295 242 = some (.aload_n 0, 1) := by decide +kernel
theorem q_295_243 : js_I 295 243 = some (.getfield 658, 3) := by decide +kernel
theorem q_295_246 : js_I 295 246 = some (.if_icmp .ge 12, 3) := by decide +kernel
theorem q_295_249 : js_I 295 249 = some (.aload_n 0, 1) := by decide +kernel
theorem q_295_250 : js_I 295 250 = some (.getfield 419, 3) := by decide +kernel
theorem q_295_253 : js_I 295 253 = some (.iload_n 3, 1) := by decide +kernel
theorem q_295_254 : js_I 295 254 = some (.baload, 1) := by decide +kernel
theorem q_295_255 : js_I 295 255 = some (.goto 4, 3) := by decide +kernel
theorem q_295_259 : js_I 295 259 = some (.ireturn, 1) := by decide +kernel
theorem q_295_258 : js_I 295 258 = some (.iconst (-1), 1) := by decide +kernel
theorem q_296_0 : js_I 296 0 = some (.aload_n 0, 1) := by decide +kernel
theorem q_296_1 : js_I 296 1 = some (.getfield 419, 3) := by decide +kernel
theorem q_296_4 : js_I 296 4 = some (.aload_n 0, 1) := by decide +kernel
theorem q_296_5 : js_I 296 5 = some (.getfield 658, 3) := by decide +kernel
theorem q_296_8 : js_I 296 8 = some (.iload_n 1, 1) := by decide +kernel
theorem q_296_9 : js_I 296 9 = some (.i2b, 1) := by decide +kernel
theorem q_296_10 : js_I 296 10 = some (.bastore, 1) := by decide +kernel
theorem q_296_11 : js_I 296 11 = some (.aload_n 0, 1) := by decide +kernel
theorem q_296_12 : js_I 296 12 = some (.dup, 1) := by decide +kernel
theorem q_296_13 : js_I 296 13 = some (.getfield 658, 3) := by decide +kernel
theorem q_296_16 : js_I 296 16 = some (.iconst 1, 1) := by decide +kernel
theorem q_296_17 : js_I 296 17 = some (.iadd, 1) := by decide +kernel
theorem q_296_18 : js_I 296 18 = some (.putfield 658, 3) := by decide +kernel
theorem q_296_21 : js_I 296 21 = some (.return_, 1) := by decide +kernel
theorem q_297_0 : js_I 297 0 = some (.aload_n 0, 1) := by decide +kernel
theorem q_297_1 : js_I 297 1 = some (.bipush 32, 2) := by decide +kernel
theorem q_297_3 : js_I 297 3 = some (.invokevirtual 661, 3) := by decide +kernel
theorem q_297_6 : js_I 297 6 = some (.lload_n 1, 1) := by decide +kernel
theorem q_297_7 : js_I 297 7 = some (.lconst 0, 1) := by decide +kernel
theorem q_297_8 : js_I 297 8 = some (.lcmp, 1) := by decide +kernel
theorem q_297_9 : js_I 297 9 = some (.ifCond .ge 9, 3) := by decide +kernel
theorem q_297_12 : js_I 297 12 = some (.aload_n 0, 1) := by decide +kernel
theorem q_297_13 : js_I 297 13 = some (.bipush 45, 2) := by decide +kernel
theorem q_297_15 : js_I 297 15 = some (.invokevirtual 661, 3) := by decide +kernel
theorem q_297_18 : js_I 297 18 = some (.lload_n 1, 1) := by decide +kernel
theorem q_297_19 : js_I 297 19 = some (.lconst 0, 1) := by decide +kernel
theorem q_297_20 : js_I 297 20 = some (.lcmp, 1) := by decide +kernel
theorem q_297_21 : js_I 297 21 = some (.ifCond .ge 8, 3) := by decide +kernel
theorem q_297_24 : js_I 297 24 = some (.lload_n 1, 1) := by decide +kernel
theorem q_297_25 : js_I 297 25 = some (.lneg, 1) := by decide +kernel
theorem q_297_26 : js_I 297 26 = some (.goto 4, 3) := by decide +kernel
theorem q_297_29 : js_I 297 29 = some (.lload_n 1, 1) := by decide +kernel
theorem q_297_30 : js_I 297 30 = some (.lstore_n 3, 1) := by decide +kernel
theorem q_297_31 : js_I 297 31 = some (.lconst 1, 1) := by decide +kernel
theorem q_297_32 : js_I 297 32 = some (.lstore 5, 2) := by decide +kernel
theorem q_297_34 : js_I 297 34 = some (.lload_n 3, 1) := by decide +kernel
theorem q_297_35 : js_I 297 35 = some (.lload 5, 2) := by decide +kernel
theorem q_297_37 : js_I 297 37 = some (.ldiv, 1) := by decide +kernel
theorem q_297_38 : js_I 297 38 = some (.ldc2_w 664, 3) := by decide +kernel
theorem q_297_41 : js_I 297 41 = some (.lcmp, 1) := by decide +kernel
theorem q_297_42 : js_I 297 42 = some (.ifCond .le 14, 3) := by decide +kernel
theorem q_297_45 : js_I 297 45 = some (.lload 5, 2) := by decide +kernel
theorem q_297_47 : js_I 297 47 = some (.ldc2_w 49, 3) := by decide +kernel
theorem q_297_50 : js_I 297 50 = some (.lmul, 1) := by decide +kernel
theorem q_297_51 : js_I 297 51 = some (.lstore 5, 2) := by decide +kernel
theorem q_297_53 : js_I 297 53 = some (.goto (-19), 3) := by decide +kernel
theorem q_297_56 : js_I 297 56 = some (.lload 5, 2) := by decide +kernel
theorem q_297_58 : js_I 297 58 = some (.lconst 0, 1) := by decide +kernel
theorem q_297_59 : js_I 297 59 = some (.lcmp, 1) := by decide +kernel
theorem q_297_60 : js_I 297 60 = some (.ifCond .le 31, 3) := by decide +kernel
theorem q_297_63 : js_I 297 63 = some (.aload_n 0, 1) := by decide +kernel
theorem q_297_64 : js_I 297 64 = some (.ldc2_w 51, 3) := by decide +kernel
theorem q_297_67 : js_I 297 67 = some (.lload_n 3, 1) := by decide +kernel
theorem q_297_68 : js_I 297 68 = some (.lload 5, 2) := by decide +kernel
theorem q_297_70 : js_I 297 70 = some (.ldiv, 1) := by decide +kernel
theorem q_297_71 : js_I 297 71 = some (.ldc2_w 49, 3) := by decide +kernel
theorem q_297_74 : js_I 297 74 = some (.lrem, 1) := by decide +kernel
theorem q_297_75 : js_I 297 75 = some (.ladd, 1) := by decide +kernel
theorem q_297_76 : js_I 297 76 = some (.l2i, 1) := by decide +kernel
theorem q_297_77 : js_I 297 77 = some (.invokevirtual 661, 3) := by decide +kernel
theorem q_297_91 : js_I 297 91 = some (.return_, 1) := by decide +kernel
theorem q_297_80 : js_I 297 80 = some (.lload 5, 2) := by decide +kernel
theorem q_297_82 : js_I 297 82 = some (.ldc2_w 49, 3) := by decide +kernel
theorem q_297_85 : js_I 297 85 = some (.ldiv, 1) := by decide +kernel
theorem q_297_86 : js_I 297 86 = some (.lstore 5, 2) := by decide +kernel
theorem q_297_88 : js_I 297 88 = some (.goto (-32), 3) := by decide +kernel
theorem q_298_0 : js_I 298 0 = some (.aload_n 0, 1) := by decide +kernel
theorem q_298_1 : js_I 298 1 = some (.iconst 0, 1) := by decide +kernel
theorem q_298_2 : js_I 298 2 = some (.putfield 3, 3) := by decide +kernel
theorem q_298_5 : js_I 298 5 = some (.iload_n 1, 1) := by decide +kernel
theorem q_298_6 : js_I 298 6 = some (.ifCond .ne 8, 3) := by decide +kernel
theorem q_298_9 : js_I 298 9 = some (.aload_n 0, 1) := by decide +kernel
theorem q_298_10 : js_I 298 10 = some (.getfield 11, 3) := by decide +kernel
theorem q_298_13 : js_I 298 13 = some (.ireturn, 1) := by decide +kernel
theorem q_298_14 : js_I 298 14 = some (.aload_n 0, 1) := by decide +kernel
theorem q_298_15 : js_I 298 15 = some (.getfield 464, 3) := by decide +kernel
theorem q_298_18 : js_I 298 18 = some (.ifCond .ne 5, 3) := by decide +kernel
theorem q_298_21 : js_I 298 21 = some (.iconst (-1), 1) := by decide +kernel
theorem q_298_22 : js_I 298 22 = some (.ireturn, 1) := by decide +kernel
theorem q_298_23 : js_I 298 23 = some (.iload_n 1, 1) := by decide +kernel
theorem q_298_24 : js_I 298 24 = some (.tableswitch 133 1 13 #[68, 73, 78, 83, 88, 93, 98, 103, 108, 113, 118, 123, 128], 68) := by decide +kernel
theorem q_298_92 : js_I 298 92 = some (.aload_n 0, 1) := by decide +kernel
theorem q_298_93 : js_I 298 93 = some (.getfield 86, 3) := by decide +kernel
theorem q_298_96 : js_I 298 96 = some (.ireturn, 1) := by decide +kernel
theorem q_298_97 : js_I 298 97 = some (.aload_n 0, 1) := by decide +kernel
theorem q_298_98 : js_I 298 98 = some (.getfield 428, 3) := by decide +kernel
theorem q_298_101 : js_I 298 101 = some (.ireturn, 1) := by decide +kernel
theorem q_298_102 : js_I 298 102 = some (.aload_n 0, 1) := by decide +kernel
theorem q_298_103 : js_I 298 103 = some (.getfield 437, 3) := by decide +kernel
theorem q_298_106 : js_I 298 106 = some (.ireturn, 1) := by decide +kernel
theorem q_298_107 : js_I 298 107 = some (.aload_n 0, 1) := by decide +kernel
theorem q_298_108 : js_I 298 108 = some (.getfield 446, 3) := by decide +kernel
theorem q_298_111 : js_I 298 111 = some (.ireturn, 1) := by decide +kernel
theorem q_298_112 : js_I 298 112 = some (.aload_n 0, 1) := by decide +kernel
theorem q_298_113 : js_I 298 113 = some (.getfield 449, 3) := by decide +kernel
theorem q_298_116 : js_I 298 116 = some (.ireturn, 1) := by decide +kernel
theorem q_298_117 : js_I 298 117 = some (.aload_n 0, 1) := by decide +kernel
theorem q_298_118 : js_I 298 118 = some (.getfield 440, 3) := by decide +kernel
theorem q_298_121 : js_I 298 121 = some (.ireturn, 1) := by decide +kernel
theorem q_298_122 : js_I 298 122 = some (.aload_n 0, 1) := by decide +kernel
theorem q_298_123 : js_I 298 123 = some (.getfield 443, 3) := by decide +kernel
theorem q_298_126 : js_I 298 126 = some (.ireturn, 1) := by decide +kernel
theorem q_298_127 : js_I 298 127 = some (.aload_n 0, 1) := by decide +kernel
theorem q_298_128 : js_I 298 128 = some (.getfield 588, 3) := by decide +kernel
theorem q_298_131 : js_I 298 131 = some (.ireturn, 1) := by decide +kernel
theorem q_298_132 : js_I 298 132 = some (.aload_n 0, 1) := by decide +kernel
theorem q_298_133 : js_I 298 133 = some (.getfield 579, 3) := by decide +kernel
theorem q_298_136 : js_I 298 136 = some (.ireturn, 1) := by decide +kernel
theorem q_298_137 : js_I 298 137 = some (.aload_n 0, 1) := by decide +kernel
theorem q_298_138 : js_I 298 138 = some (.getfield 573, 3) := by decide +kernel
theorem q_298_141 : js_I 298 141 = some (.ireturn, 1) := by decide +kernel
theorem q_298_142 : js_I 298 142 = some (.aload_n 0, 1) := by decide +kernel
theorem q_298_143 : js_I 298 143 = some (.getfield 585, 3) := by decide +kernel
theorem q_298_146 : js_I 298 146 = some (.ireturn, 1) := by decide +kernel
theorem q_298_147 : js_I 298 147 = some (.aload_n 0, 1) := by decide +kernel
theorem q_298_148 : js_I 298 148 = some (.getfield 594, 3) := by decide +kernel
theorem q_298_151 : js_I 298 151 = some (.ireturn, 1) := by decide +kernel
theorem q_298_152 : js_I 298 152 = some (.aload_n 0, 1) := by decide +kernel
theorem q_298_153 : js_I 298 153 = some (.getfield 591, 3) := by decide +kernel
theorem q_298_156 : js_I 298 156 = some (.ireturn, 1) := by decide +kernel
theorem q_298_157 : js_I 298 157 = some (.iconst (-1), 1) := by decide +kernel
theorem q_298_158 : js_I 298 158 = some (.ireturn, 1) := by decide +kernel
theorem qf_12_658 : ip_lk (vt_FL.getD 12 []) 658 = some (12, 96) := by decide +kernel
theorem qf_12_416 : ip_lk (vt_FL.getD 12 []) 416 = some (12, 94) := by decide +kernel
theorem qf_12_419 : ip_lk (vt_FL.getD 12 []) 419 = some (12, 95) := by decide +kernel
theorem qm_12_661 : ip_lk (vt_ML.getD 12 []) 661 = some (296, 1, 1, 12) := by decide +kernel
theorem qm_12_666 : ip_lk (vt_ML.getD 12 []) 666 = some (297, 1, 1, 12) := by decide +kernel
theorem qc_12_664 : ip_lk (vt_CL.getD 12 []) 664 = some (js_V (1, 9)) := by decide +kernel
theorem ww_22 : js_w 22 = 22 := by decide +kernel
theorem ww_23 : js_w 23 = 23 := by decide +kernel
theorem ww_24 : js_w 24 = 24 := by decide +kernel
theorem ww_28 : js_w 28 = 28 := by decide +kernel
theorem wl_9 : js_l 9 = 9 := by decide +kernel
theorem wl_10 : js_l 10 = 10 := by decide +kernel
-- 291: VitalTwinModel.symbol (II)I
theorem b_291_0 {E : js_E} {d : Nat} {σ : js_S} {x1 x2 : Int} : js_J E d 291 0 [(2, 83), (0, x1), (0, x2)] [] σ = (if js_w x1 < 0 then js_r E (0, (-1)) (js_up σ 83 0 0) else (if js_w x1 < js_w (σ 83 11) then js_J E d 291 20 [(2, 83), (0, x1), (0, x2)] [(0, x2)] (js_up σ 83 0 0) else js_r E (0, (-1)) (js_up σ 83 0 0))) :=
  (j_aload_n q_291_0 rfl).trans <| (j_iconst q_291_1).trans <| (j_putI (ji := 0) q_291_2 (js_Fo qy_291 qf_12_3) rfl js_o83 rfl rfl rfl).trans <| (j_iload_n q_291_5 rfl).trans <| (j_iflt (t := 17) q_291_6 rfl).trans (js_ite ((j_iconst q_291_17).trans <| j_ireturn q_291_18 qr_291) ((j_iload_n q_291_9 rfl).trans <| (j_aload_n q_291_10 rfl).trans <| (j_get (ji := 11) (v := (0, σ 83 11)) q_291_11 (js_Fo qy_291 qf_12_86) js_o83 rfl rfl rfl (congrArg (Prod.mk 0) ((js_up_ni _ (by decide))))).trans <| (j_cmplt (t := 19) q_291_14 rfl).trans (js_ite ((j_iload_n q_291_19 rfl).trans <| rfl) ((j_iconst q_291_17).trans <| j_ireturn q_291_18 qr_291))))
theorem s_291_20_0 {E : js_E} {d : Nat} {σ : js_S} {x1 x2 z0 : Int} (h : js_w z0 = 0) : js_J E d 291 20 [(2, 83), (0, x1), (0, x2)] [(0, z0)] σ = js_J E d 291 72 [(2, 83), (0, x1), (0, x2)] [] σ :=
  j_tsw (t := 72) (off := 52) q_291_20 (by rw [h]; decide) (by rw [h]; decide) (by rw [h]; rfl) rfl
theorem s_291_20_1 {E : js_E} {d : Nat} {σ : js_S} {x1 x2 z0 : Int} (h : js_w z0 = 1) : js_J E d 291 20 [(2, 83), (0, x1), (0, x2)] [(0, z0)] σ = js_J E d 291 79 [(2, 83), (0, x1), (0, x2)] [] σ :=
  j_tsw (t := 79) (off := 59) q_291_20 (by rw [h]; decide) (by rw [h]; decide) (by rw [h]; rfl) rfl
theorem s_291_20_2 {E : js_E} {d : Nat} {σ : js_S} {x1 x2 z0 : Int} (h : js_w z0 = 2) : js_J E d 291 20 [(2, 83), (0, x1), (0, x2)] [(0, z0)] σ = js_J E d 291 86 [(2, 83), (0, x1), (0, x2)] [] σ :=
  j_tsw (t := 86) (off := 66) q_291_20 (by rw [h]; decide) (by rw [h]; decide) (by rw [h]; rfl) rfl
theorem s_291_20_3 {E : js_E} {d : Nat} {σ : js_S} {x1 x2 z0 : Int} (h : js_w z0 = 3) : js_J E d 291 20 [(2, 83), (0, x1), (0, x2)] [(0, z0)] σ = js_J E d 291 93 [(2, 83), (0, x1), (0, x2)] [] σ :=
  j_tsw (t := 93) (off := 73) q_291_20 (by rw [h]; decide) (by rw [h]; decide) (by rw [h]; rfl) rfl
theorem s_291_20_4 {E : js_E} {d : Nat} {σ : js_S} {x1 x2 z0 : Int} (h : js_w z0 = 4) : js_J E d 291 20 [(2, 83), (0, x1), (0, x2)] [(0, z0)] σ = js_J E d 291 100 [(2, 83), (0, x1), (0, x2)] [] σ :=
  j_tsw (t := 100) (off := 80) q_291_20 (by rw [h]; decide) (by rw [h]; decide) (by rw [h]; rfl) rfl
theorem s_291_20_5 {E : js_E} {d : Nat} {σ : js_S} {x1 x2 z0 : Int} (h : js_w z0 = 5) : js_J E d 291 20 [(2, 83), (0, x1), (0, x2)] [(0, z0)] σ = js_J E d 291 107 [(2, 83), (0, x1), (0, x2)] [] σ :=
  j_tsw (t := 107) (off := 87) q_291_20 (by rw [h]; decide) (by rw [h]; decide) (by rw [h]; rfl) rfl
theorem s_291_20_6 {E : js_E} {d : Nat} {σ : js_S} {x1 x2 z0 : Int} (h : js_w z0 = 6) : js_J E d 291 20 [(2, 83), (0, x1), (0, x2)] [(0, z0)] σ = js_J E d 291 114 [(2, 83), (0, x1), (0, x2)] [] σ :=
  j_tsw (t := 114) (off := 94) q_291_20 (by rw [h]; decide) (by rw [h]; decide) (by rw [h]; rfl) rfl
theorem s_291_20_7 {E : js_E} {d : Nat} {σ : js_S} {x1 x2 z0 : Int} (h : js_w z0 = 7) : js_J E d 291 20 [(2, 83), (0, x1), (0, x2)] [(0, z0)] σ = js_J E d 291 121 [(2, 83), (0, x1), (0, x2)] [] σ :=
  j_tsw (t := 121) (off := 101) q_291_20 (by rw [h]; decide) (by rw [h]; decide) (by rw [h]; rfl) rfl
theorem s_291_20_8 {E : js_E} {d : Nat} {σ : js_S} {x1 x2 z0 : Int} (h : js_w z0 = 8) : js_J E d 291 20 [(2, 83), (0, x1), (0, x2)] [(0, z0)] σ = js_J E d 291 128 [(2, 83), (0, x1), (0, x2)] [] σ :=
  j_tsw (t := 128) (off := 108) q_291_20 (by rw [h]; decide) (by rw [h]; decide) (by rw [h]; rfl) rfl
theorem s_291_20_d {E : js_E} {d : Nat} {σ : js_S} {x1 x2 z0 : Int} (h : js_w z0 < 0 ∨ 8 < js_w z0) : js_J E d 291 20 [(2, 83), (0, x1), (0, x2)] [(0, z0)] σ = js_J E d 291 135 [(2, 83), (0, x1), (0, x2)] [] σ :=
  j_tswd (t := 135) q_291_20 h rfl
theorem b_291_72 {E : js_E} {d : Nat} {σ : js_S} {x1 x2 : Int} : js_J E d 291 72 [(2, 83), (0, x1), (0, x2)] [] σ = (if 0 ≤ js_w x1 ∧ js_w x1 < 400 then js_r E (0, σ 86 (js_w x1)) σ else none) :=
  (j_aload_n q_291_72 rfl).trans <| (j_get (ji := 12) (v := (2, 86)) q_291_73 (js_Fo qy_291 qf_12_99) js_o83 rfl rfl rfl rfl).trans <| (j_iload_n q_291_76 rfl).trans <| (j_iaload q_291_77 js_o86).trans <| js_itp fun g0 => j_ireturn q_291_78 qr_291
theorem b_291_79 {E : js_E} {d : Nat} {σ : js_S} {x1 x2 : Int} : js_J E d 291 79 [(2, 83), (0, x1), (0, x2)] [] σ = (if 0 ≤ js_w x1 ∧ js_w x1 < 400 then js_r E (0, σ 87 (js_w x1)) σ else none) :=
  (j_aload_n q_291_79 rfl).trans <| (j_get (ji := 13) (v := (2, 87)) q_291_80 (js_Fo qy_291 qf_12_102) js_o83 rfl rfl rfl rfl).trans <| (j_iload_n q_291_83 rfl).trans <| (j_iaload q_291_84 js_o87).trans <| js_itp fun g0 => j_ireturn q_291_85 qr_291
theorem b_291_86 {E : js_E} {d : Nat} {σ : js_S} {x1 x2 : Int} : js_J E d 291 86 [(2, 83), (0, x1), (0, x2)] [] σ = (if 0 ≤ js_w x1 ∧ js_w x1 < 400 then js_r E (0, σ 88 (js_w x1)) σ else none) :=
  (j_aload_n q_291_86 rfl).trans <| (j_get (ji := 14) (v := (2, 88)) q_291_87 (js_Fo qy_291 qf_12_105) js_o83 rfl rfl rfl rfl).trans <| (j_iload_n q_291_90 rfl).trans <| (j_iaload q_291_91 js_o88).trans <| js_itp fun g0 => j_ireturn q_291_92 qr_291
theorem b_291_93 {E : js_E} {d : Nat} {σ : js_S} {x1 x2 : Int} : js_J E d 291 93 [(2, 83), (0, x1), (0, x2)] [] σ = (if 0 ≤ js_w x1 ∧ js_w x1 < 400 then js_r E (0, σ 89 (js_w x1)) σ else none) :=
  (j_aload_n q_291_93 rfl).trans <| (j_get (ji := 15) (v := (2, 89)) q_291_94 (js_Fo qy_291 qf_12_108) js_o83 rfl rfl rfl rfl).trans <| (j_iload_n q_291_97 rfl).trans <| (j_iaload q_291_98 js_o89).trans <| js_itp fun g0 => j_ireturn q_291_99 qr_291
theorem b_291_100 {E : js_E} {d : Nat} {σ : js_S} {x1 x2 : Int} : js_J E d 291 100 [(2, 83), (0, x1), (0, x2)] [] σ = (if 0 ≤ js_w x1 ∧ js_w x1 < 400 then js_r E (0, σ 90 (js_w x1)) σ else none) :=
  (j_aload_n q_291_100 rfl).trans <| (j_get (ji := 16) (v := (2, 90)) q_291_101 (js_Fo qy_291 qf_12_111) js_o83 rfl rfl rfl rfl).trans <| (j_iload_n q_291_104 rfl).trans <| (j_iaload q_291_105 js_o90).trans <| js_itp fun g0 => j_ireturn q_291_106 qr_291
theorem b_291_107 {E : js_E} {d : Nat} {σ : js_S} {x1 x2 : Int} : js_J E d 291 107 [(2, 83), (0, x1), (0, x2)] [] σ = (if 0 ≤ js_w x1 ∧ js_w x1 < 400 then js_r E (0, σ 91 (js_w x1)) σ else none) :=
  (j_aload_n q_291_107 rfl).trans <| (j_get (ji := 17) (v := (2, 91)) q_291_108 (js_Fo qy_291 qf_12_114) js_o83 rfl rfl rfl rfl).trans <| (j_iload_n q_291_111 rfl).trans <| (j_iaload q_291_112 js_o91).trans <| js_itp fun g0 => j_ireturn q_291_113 qr_291
theorem b_291_114 {E : js_E} {d : Nat} {σ : js_S} {x1 x2 : Int} : js_J E d 291 114 [(2, 83), (0, x1), (0, x2)] [] σ = (if 0 ≤ js_w x1 ∧ js_w x1 < 400 then js_r E (0, σ 93 (js_w x1)) σ else none) :=
  (j_aload_n q_291_114 rfl).trans <| (j_get (ji := 19) (v := (2, 93)) q_291_115 (js_Fo qy_291 qf_12_120) js_o83 rfl rfl rfl rfl).trans <| (j_iload_n q_291_118 rfl).trans <| (j_iaload q_291_119 js_o93).trans <| js_itp fun g0 => j_ireturn q_291_120 qr_291
theorem b_291_121 {E : js_E} {d : Nat} {σ : js_S} {x1 x2 : Int} : js_J E d 291 121 [(2, 83), (0, x1), (0, x2)] [] σ = (if 0 ≤ js_w x1 ∧ js_w x1 < 400 then js_r E (0, σ 94 (js_w x1)) σ else none) :=
  (j_aload_n q_291_121 rfl).trans <| (j_get (ji := 20) (v := (2, 94)) q_291_122 (js_Fo qy_291 qf_12_126) js_o83 rfl rfl rfl rfl).trans <| (j_iload_n q_291_125 rfl).trans <| (j_iaload q_291_126 js_o94).trans <| js_itp fun g0 => j_ireturn q_291_127 qr_291
theorem b_291_128 {E : js_E} {d : Nat} {σ : js_S} {x1 x2 : Int} : js_J E d 291 128 [(2, 83), (0, x1), (0, x2)] [] σ = (if 0 ≤ js_w x1 ∧ js_w x1 < 400 then js_r E (0, σ 95 (js_w x1)) σ else none) :=
  (j_aload_n q_291_128 rfl).trans <| (j_get (ji := 21) (v := (2, 95)) q_291_129 (js_Fo qy_291 qf_12_129) js_o83 rfl rfl rfl rfl).trans <| (j_iload_n q_291_132 rfl).trans <| (j_iaload q_291_133 js_o95).trans <| js_itp fun g0 => j_ireturn q_291_134 qr_291
theorem b_291_135 {E : js_E} {d : Nat} {σ : js_S} {x1 x2 : Int} : js_J E d 291 135 [(2, 83), (0, x1), (0, x2)] [] σ = js_r E (0, (-1)) σ :=
  (j_iconst q_291_135).trans <| j_ireturn q_291_136 qr_291
-- 292: VitalTwinModel.name (II)I
theorem b_292_0 {E : js_E} {d : Nat} {σ : js_S} {x1 x2 : Int} : js_J E d 292 0 [(2, 83), (0, x1), (0, x2)] [] σ = (if js_w x1 < 0 then js_r E (0, (-1)) (js_up σ 83 0 0) else (if js_w x1 < js_w (σ 83 11) then (if js_w x2 < 0 then js_r E (0, (-1)) (js_up σ 83 0 0) else (if 0 ≤ js_w x1 ∧ js_w x1 < 400 then (if js_w x2 < js_w (σ 97 (js_w x1)) then (if 0 ≤ js_w ((20 * x1) + x2) ∧ js_w ((20 * x1) + x2) < 8000 then js_r E (0, σ 98 (js_w ((20 * x1) + x2))) (js_up σ 83 0 0) else none) else js_r E (0, (-1)) (js_up σ 83 0 0)) else none)) else js_r E (0, (-1)) (js_up σ 83 0 0))) :=
  (j_aload_n q_292_0 rfl).trans <| (j_iconst q_292_1).trans <| (j_putI (ji := 0) q_292_2 (js_Fo qy_292 qf_12_3) rfl js_o83 rfl rfl rfl).trans <| (j_iload_n q_292_5 rfl).trans <| (j_iflt (t := 31) q_292_6 rfl).trans (js_ite ((j_iconst q_292_31).trans <| (j_goto (t := 46) q_292_32 rfl).trans <| j_ireturn q_292_46 qr_292) ((j_iload_n q_292_9 rfl).trans <| (j_aload_n q_292_10 rfl).trans <| (j_get (ji := 11) (v := (0, σ 83 11)) q_292_11 (js_Fo qy_292 qf_12_86) js_o83 rfl rfl rfl (congrArg (Prod.mk 0) ((js_up_ni _ (by decide))))).trans <| (j_cmpge (t := 31) q_292_14 rfl).trans (js_ite ((j_iload_n q_292_17 rfl).trans <| (j_iflt (t := 31) q_292_18 rfl).trans (js_ite ((j_iconst q_292_31).trans <| (j_goto (t := 46) q_292_32 rfl).trans <| j_ireturn q_292_46 qr_292) ((j_iload_n q_292_21 rfl).trans <| (j_aload_n q_292_22 rfl).trans <| (j_get (ji := 23) (v := (2, 97)) q_292_23 (js_Fo qy_292 qf_12_79) js_o83 rfl rfl rfl rfl).trans <| (j_iload_n q_292_26 rfl).trans <| (j_ialoadv q_292_27 js_o97 ((js_up_na _ (by decide)))).trans <| js_itp fun g0 => (j_cmplt (t := 35) q_292_28 rfl).trans (js_ite ((j_aload_n q_292_35 rfl).trans <| (j_get (ji := 24) (v := (2, 98)) q_292_36 (js_Fo qy_292 qf_12_83) js_o83 rfl rfl rfl rfl).trans <| (j_bi q_292_39 rfl).trans <| (j_iload_n q_292_41 rfl).trans <| (j_imul q_292_42).trans <| (j_iload_n q_292_43 rfl).trans <| (j_iadd q_292_44).trans <| (j_baloadv q_292_45 js_o98 ((js_up_na _ (by decide)))).trans <| js_itp fun g1 => j_ireturn q_292_46 qr_292) ((j_iconst q_292_31).trans <| (j_goto (t := 46) q_292_32 rfl).trans <| j_ireturn q_292_46 qr_292))))) ((j_iconst q_292_31).trans <| (j_goto (t := 46) q_292_32 rfl).trans <| j_ireturn q_292_46 qr_292))))
-- 293: VitalTwinModel.code (II)I
theorem b_293_0 {E : js_E} {d : Nat} {σ : js_S} {x1 x2 : Int} : js_J E d 293 0 [(2, 83), (0, x1), (0, x2)] [] σ = (if js_w x1 < 0 then js_r E (0, (-1)) (js_up σ 83 0 0) else (if js_w x1 < js_w (σ 83 49) then (if js_w x2 < 0 then js_r E (0, (-1)) (js_up σ 83 0 0) else (if 2 < js_w x2 then js_r E (0, (-1)) (js_up σ 83 0 0) else (if js_w x2 = 0 then (if 0 ≤ js_w x1 ∧ js_w x1 < 8192 then js_r E (0, σ 111 (js_w x1)) (js_up σ 83 0 0) else none) else (if js_w x2 = 1 then (if 0 ≤ js_w x1 ∧ js_w x1 < 8192 then js_r E (0, σ 112 (js_w x1)) (js_up σ 83 0 0) else none) else (if 0 ≤ js_w x1 ∧ js_w x1 < 8192 then js_r E (0, σ 113 (js_w x1)) (js_up σ 83 0 0) else none))))) else js_r E (0, (-1)) (js_up σ 83 0 0))) :=
  (j_aload_n q_293_0 rfl).trans <| (j_iconst q_293_1).trans <| (j_putI (ji := 0) q_293_2 (js_Fo qy_293 qf_12_3) rfl js_o83 rfl rfl rfl).trans <| (j_iload_n q_293_5 rfl).trans <| (j_iflt (t := 26) q_293_6 rfl).trans (js_ite ((j_iconst q_293_26).trans <| j_ireturn q_293_27 qr_293) ((j_iload_n q_293_9 rfl).trans <| (j_aload_n q_293_10 rfl).trans <| (j_get (ji := 49) (v := (0, σ 83 49)) q_293_11 (js_Fo qy_293 qf_12_428) js_o83 rfl rfl rfl (congrArg (Prod.mk 0) ((js_up_ni _ (by decide))))).trans <| (j_cmpge (t := 26) q_293_14 rfl).trans (js_ite ((j_iload_n q_293_17 rfl).trans <| (j_iflt (t := 26) q_293_18 rfl).trans (js_ite ((j_iconst q_293_26).trans <| j_ireturn q_293_27 qr_293) ((j_iload_n q_293_21 rfl).trans <| (j_iconst q_293_22).trans <| (j_cmpleB (t := 28) q_293_23 rfl ww_2).trans (js_ite ((j_iconst q_293_26).trans <| j_ireturn q_293_27 qr_293) ((j_iload_n q_293_28 rfl).trans <| (j_ifne (t := 41) q_293_29 rfl).trans (js_ite ((j_aload_n q_293_32 rfl).trans <| (j_get (ji := 59) (v := (2, 111)) q_293_33 (js_Fo qy_293 qf_12_346) js_o83 rfl rfl rfl rfl).trans <| (j_iload_n q_293_36 rfl).trans <| (j_ialoadv q_293_37 js_o111 ((js_up_na _ (by decide)))).trans <| js_itp fun g0 => (j_goto (t := 61) q_293_38 rfl).trans <| j_ireturn q_293_61 qr_293) ((j_iload_n q_293_41 rfl).trans <| (j_iconst q_293_42).trans <| (j_cmpneB (t := 55) q_293_43 rfl ww_1).trans (js_ite ((j_aload_n q_293_46 rfl).trans <| (j_get (ji := 60) (v := (2, 112)) q_293_47 (js_Fo qy_293 qf_12_349) js_o83 rfl rfl rfl rfl).trans <| (j_iload_n q_293_50 rfl).trans <| (j_ialoadv q_293_51 js_o112 ((js_up_na _ (by decide)))).trans <| js_itp fun g0 => (j_goto (t := 61) q_293_52 rfl).trans <| j_ireturn q_293_61 qr_293) ((j_aload_n q_293_55 rfl).trans <| (j_get (ji := 61) (v := (2, 113)) q_293_56 (js_Fo qy_293 qf_12_352) js_o83 rfl rfl rfl rfl).trans <| (j_iload_n q_293_59 rfl).trans <| (j_ialoadv q_293_60 js_o113 ((js_up_na _ (by decide)))).trans <| js_itp fun g0 => j_ireturn q_293_61 qr_293))))))))) ((j_iconst q_293_26).trans <| j_ireturn q_293_27 qr_293))))
-- 294: VitalTwinModel.range (II)J
theorem b_294_0 {E : js_E} {d : Nat} {σ : js_S} {x1 x2 : Int} : js_J E d 294 0 [(2, 83), (0, x1), (0, x2)] [] σ = (if js_w x1 < 0 then js_J E d 294 22 [(2, 83), (0, x1), (0, x2)] [(2, 83)] σ else (if js_w x1 < js_w (σ 83 49) then (if js_w x2 < 0 then js_J E d 294 22 [(2, 83), (0, x1), (0, x2)] [(2, 83)] σ else (if 1 < js_w x2 then js_J E d 294 22 [(2, 83), (0, x1), (0, x2)] [(2, 83)] σ else js_J E d 294 27 [(2, 83), (0, x1), (0, x2)] [(0, 0), (2, 83)] σ)) else js_J E d 294 22 [(2, 83), (0, x1), (0, x2)] [(2, 83)] σ)) :=
  (j_aload_n q_294_0 rfl).trans <| (j_iload_n q_294_1 rfl).trans <| (j_iflt (t := 22) q_294_2 rfl).trans (js_ite (rfl) ((j_iload_n q_294_5 rfl).trans <| (j_aload_n q_294_6 rfl).trans <| (j_get (ji := 49) (v := (0, σ 83 49)) q_294_7 (js_Fo qy_294 qf_12_428) js_o83 rfl rfl rfl rfl).trans <| (j_cmpge (t := 22) q_294_10 rfl).trans (js_ite ((j_iload_n q_294_13 rfl).trans <| (j_iflt (t := 22) q_294_14 rfl).trans (js_ite (rfl) ((j_iload_n q_294_17 rfl).trans <| (j_iconst q_294_18).trans <| (j_cmpleB (t := 26) q_294_19 rfl ww_1).trans (js_ite (rfl) ((j_iconst q_294_26).trans <| rfl))))) (rfl))))
theorem b_294_22 {E : js_E} {d : Nat} {σ : js_S} {x1 x2 : Int} : js_J E d 294 22 [(2, 83), (0, x1), (0, x2)] [(2, 83)] σ = js_J E d 294 27 [(2, 83), (0, x1), (0, x2)] [(0, 1), (2, 83)] σ :=
  (j_iconst q_294_22).trans <| (j_goto (t := 27) q_294_23 rfl).trans <| rfl
theorem b_294_27 {E : js_E} {d : Nat} {σ : js_S} {x1 x2 z1 : Int} : js_J E d 294 27 [(2, 83), (0, x1), (0, x2)] [(0, z1), (2, 83)] σ = (if 0 < js_w z1 then js_r E (1, 0) (js_up σ 83 0 z1) else (if js_w x2 = 0 then (if 0 ≤ js_w x1 ∧ js_w x1 < 8192 then js_r E (1, σ 114 (js_w x1)) (js_up σ 83 0 z1) else none) else (if 0 ≤ js_w x1 ∧ js_w x1 < 8192 then js_r E (1, σ 115 (js_w x1)) (js_up σ 83 0 z1) else none))) :=
  (j_putI (ji := 0) q_294_27 (js_Fo qy_294 qf_12_3) rfl js_o83 rfl rfl rfl).trans <| (j_aload_n q_294_30 rfl).trans <| (j_get (ji := 0) (v := (0, z1)) q_294_31 (js_Fo qy_294 qf_12_3) js_o83 rfl rfl rfl (congrArg (Prod.mk 0) ((js_up_same _ _ _ _)))).trans <| (j_ifle (t := 39) q_294_34 rfl).trans (js_ite ((j_lconst0 q_294_37).trans <| j_lreturn q_294_38 qr_294) ((j_iload_n q_294_39 rfl).trans <| (j_ifne (t := 52) q_294_40 rfl).trans (js_ite ((j_aload_n q_294_43 rfl).trans <| (j_get (ji := 62) (v := (2, 114)) q_294_44 (js_Fo qy_294 qf_12_355) js_o83 rfl rfl rfl rfl).trans <| (j_iload_n q_294_47 rfl).trans <| (j_laloadv q_294_48 js_o114 ((js_up_na _ (by decide)))).trans <| js_itp fun g0 => (j_goto (t := 58) q_294_49 rfl).trans <| j_lreturn q_294_58 qr_294) ((j_aload_n q_294_52 rfl).trans <| (j_get (ji := 63) (v := (2, 115)) q_294_53 (js_Fo qy_294 qf_12_359) js_o83 rfl rfl rfl rfl).trans <| (j_iload_n q_294_56 rfl).trans <| (j_laloadv q_294_57 js_o115 ((js_up_na _ (by decide)))).trans <| js_itp fun g0 => j_lreturn q_294_58 qr_294))))
-- 295: VitalTwinModel.text (III)I
theorem b_295_0 {E : js_E} {d : Nat} {σ : js_S} {x1 x2 x3 : Int} : js_J E d 295 0 [(2, 83), (0, x1), (0, x2), (0, x3), (9, 0), (9, 0)] [] σ = (if js_w x1 < 0 then js_r E (0, (-1)) (js_up σ 83 0 0) else (if 1 < js_w x1 then js_r E (0, (-1)) (js_up σ 83 0 0) else (if js_w x2 < 0 then js_r E (0, (-1)) (js_up σ 83 0 0) else (if js_w x2 < js_w (σ 83 49) then (if js_w x3 < 0 then js_r E (0, (-1)) (js_up σ 83 0 0) else js_J E d 295 43 [(2, 83), (0, x1), (0, x2), (0, x3), (0, 0), (0, 0)] [] (js_up (js_up σ 83 0 0) 83 96 0)) else js_r E (0, (-1)) (js_up σ 83 0 0))))) :=
  (j_aload_n q_295_0 rfl).trans <| (j_iconst q_295_1).trans <| (j_putI (ji := 0) q_295_2 (js_Fo qy_295 qf_12_3) rfl js_o83 rfl rfl rfl).trans <| (j_iload_n q_295_5 rfl).trans <| (j_iflt (t := 30) q_295_6 rfl).trans (js_ite ((j_iconst q_295_30).trans <| j_ireturn q_295_31 qr_295) ((j_iload_n q_295_9 rfl).trans <| (j_iconst q_295_10).trans <| (j_cmpgtB (t := 30) q_295_11 rfl ww_1).trans (js_ite ((j_iconst q_295_30).trans <| j_ireturn q_295_31 qr_295) ((j_iload_n q_295_14 rfl).trans <| (j_iflt (t := 30) q_295_15 rfl).trans (js_ite ((j_iconst q_295_30).trans <| j_ireturn q_295_31 qr_295) ((j_iload_n q_295_18 rfl).trans <| (j_aload_n q_295_19 rfl).trans <| (j_get (ji := 49) (v := (0, σ 83 49)) q_295_20 (js_Fo qy_295 qf_12_428) js_o83 rfl rfl rfl (congrArg (Prod.mk 0) ((js_up_ni _ (by decide))))).trans <| (j_cmpge (t := 30) q_295_23 rfl).trans (js_ite ((j_iload_n q_295_26 rfl).trans <| (j_ifge (t := 32) q_295_27 rfl).trans (js_ite ((j_iconst q_295_30).trans <| j_ireturn q_295_31 qr_295) ((j_aload_n q_295_32 rfl).trans <| (j_iconst q_295_33).trans <| (j_putI (ji := 96) q_295_34 (js_Fo qy_295 qf_12_658) rfl js_o83 rfl rfl rfl).trans <| (j_iconst q_295_37).trans <| (j_istore (l2 := [(2, 83), (0, x1), (0, x2), (0, x3), (0, 0), (9, 0)]) q_295_38 rfl (Nat.le_of_ble_eq_true rfl)).trans <| (j_iconst q_295_40).trans <| (j_istore (l2 := [(2, 83), (0, x1), (0, x2), (0, x3), (0, 0), (0, 0)]) q_295_41 rfl (Nat.le_of_ble_eq_true rfl)).trans <| rfl))) ((j_iconst q_295_30).trans <| j_ireturn q_295_31 qr_295))))))))
theorem b_295_43 {E : js_E} {d : Nat} {σ : js_S} {x1 x2 x3 x4 x5 : Int} : js_J E d 295 43 [(2, 83), (0, x1), (0, x2), (0, x3), (0, x4), (0, x5)] [] σ = (if 0 ≤ js_w x2 ∧ js_w x2 < 8192 then (if js_w x5 < js_w (σ 111 (js_w x2)) then js_J E d 295 54 [(2, 83), (0, x1), (0, x2), (0, x3), (0, x4), (0, x5)] [] σ else js_J E d 295 81 [(2, 83), (0, x1), (0, x2), (0, x3), (0, x4), (0, x5)] [] σ) else none) :=
  (j_iload q_295_43 rfl).trans <| (j_aload_n q_295_45 rfl).trans <| (j_get (ji := 59) (v := (2, 111)) q_295_46 (js_Fo qy_295 qf_12_346) js_o83 rfl rfl rfl rfl).trans <| (j_iload_n q_295_49 rfl).trans <| (j_iaload q_295_50 js_o111).trans <| js_itp fun g0 => (j_cmpge (t := 81) q_295_51 rfl).trans (js_ite (rfl) (rfl))
theorem b_295_54 {E : js_E} {d : Nat} {σ : js_S} {x1 x2 x3 x4 x5 : Int} : js_J E d 295 54 [(2, 83), (0, x1), (0, x2), (0, x3), (0, x4), (0, x5)] [] σ = (if 0 ≤ js_w x4 ∧ js_w x4 < 134 then (if js_w ((js_c134.getD (js_w x4).toNat (0, 0)).2) = 32 then js_J E d 295 43 [(2, 83), (0, x1), (0, x2), (0, x3), (0, x4 + 1), (0, x5 + 1)] [] σ else js_J E d 295 54 [(2, 83), (0, x1), (0, x2), (0, x3), (0, x4 + 1), (0, x5)] [] σ) else none) :=
  (j_aload_n q_295_54 rfl).trans <| (j_get (ji := 94) (v := (2, 134)) q_295_55 (js_Fo qy_295 qf_12_416) js_o83 rfl rfl rfl rfl).trans <| (j_iload q_295_58 rfl).trans <| (j_caload q_295_60 js_o134).trans <| js_itp fun g0 => (j_bi q_295_61 rfl).trans <| (j_cmpeqB (t := 72) q_295_63 rfl ww_32).trans (js_ite ((j_iinc (l2 := [(2, 83), (0, x1), (0, x2), (0, x3), (0, x4 + 1), (0, x5)]) q_295_72 rfl rfl).trans <| (j_iinc (l2 := [(2, 83), (0, x1), (0, x2), (0, x3), (0, x4 + 1), (0, x5 + 1)]) q_295_75 rfl rfl).trans <| (j_goto (t := 43) q_295_78 rfl).trans <| rfl) ((j_iinc (l2 := [(2, 83), (0, x1), (0, x2), (0, x3), (0, x4 + 1), (0, x5)]) q_295_66 rfl rfl).trans <| (j_goto (t := 54) q_295_69 rfl).trans <| rfl))
theorem b_295_81 {E : js_E} {d : Nat} {σ : js_S} {x1 x2 x3 x4 x5 : Int} : js_J E d 295 81 [(2, 83), (0, x1), (0, x2), (0, x3), (0, x4), (0, x5)] [] σ = (if 0 ≤ js_w x4 ∧ js_w x4 < 134 then (if js_w ((js_c134.getD (js_w x4).toNat (0, 0)).2) = 32 then (if 0 ≤ js_w x2 ∧ js_w x2 < 8192 then (if js_w (σ 111 (js_w x2)) = 0 then js_J E d 295 137 [(2, 83), (0, x1), (0, x2), (0, x3), (0, x4), (0, σ 111 (js_w x2))] [] σ else (if js_w (σ 111 (js_w x2)) = 22 then js_J E d 295 137 [(2, 83), (0, x1), (0, x2), (0, x3), (0, x4), (0, σ 111 (js_w x2))] [] σ else (if js_w (σ 111 (js_w x2)) = 23 then js_J E d 295 137 [(2, 83), (0, x1), (0, x2), (0, x3), (0, x4), (0, σ 111 (js_w x2))] [] σ else (if js_w (σ 111 (js_w x2)) = 1 then js_J E d 295 207 [(2, 83), (0, x1), (0, x2), (0, x3), (0, x4), (0, σ 111 (js_w x2))] [] σ else (if js_w (σ 111 (js_w x2)) = 2 then js_J E d 295 207 [(2, 83), (0, x1), (0, x2), (0, x3), (0, x4), (0, σ 111 (js_w x2))] [] σ else (if js_w (σ 111 (js_w x2)) = 4 then js_J E d 295 207 [(2, 83), (0, x1), (0, x2), (0, x3), (0, x4), (0, σ 111 (js_w x2))] [] σ else (if js_w (σ 111 (js_w x2)) = 5 then js_J E d 295 207 [(2, 83), (0, x1), (0, x2), (0, x3), (0, x4), (0, σ 111 (js_w x2))] [] σ else (if js_w (σ 111 (js_w x2)) < 24 then js_J E d 295 218 [(2, 83), (0, x1), (0, x2), (0, x3), (0, x4), (0, σ 111 (js_w x2))] [] σ else (if js_w (σ 111 (js_w x2)) < 28 then js_J E d 295 207 [(2, 83), (0, x1), (0, x2), (0, x3), (0, x4), (0, σ 111 (js_w x2))] [] σ else js_J E d 295 218 [(2, 83), (0, x1), (0, x2), (0, x3), (0, x4), (0, σ 111 (js_w x2))] [] σ))))))))) else none) else js_J E d 295 101 [(2, 83), (0, x1), (0, x2), (0, x3), (0, x4), (0, x5)] [(0, (js_c134.getD (js_w x4).toNat (0, 0)).2), (2, 83)] σ) else none) :=
  (j_aload_n q_295_81 rfl).trans <| (j_get (ji := 94) (v := (2, 134)) q_295_82 (js_Fo qy_295 qf_12_416) js_o83 rfl rfl rfl rfl).trans <| (j_iload q_295_85 rfl).trans <| (j_caload q_295_87 js_o134).trans <| js_itp fun g0 => (j_bi q_295_88 rfl).trans <| (j_cmpeqB (t := 110) q_295_90 rfl ww_32).trans (js_ite ((j_aload_n q_295_110 rfl).trans <| (j_get (ji := 59) (v := (2, 111)) q_295_111 (js_Fo qy_295 qf_12_346) js_o83 rfl rfl rfl rfl).trans <| (j_iload_n q_295_114 rfl).trans <| (j_iaload q_295_115 js_o111).trans <| js_itp fun g1 => (j_istore (l2 := [(2, 83), (0, x1), (0, x2), (0, x3), (0, x4), (0, σ 111 (js_w x2))]) q_295_116 rfl (Nat.le_of_ble_eq_true rfl)).trans <| (j_iload q_295_118 rfl).trans <| (j_ifeq (t := 137) q_295_120 rfl).trans (js_ite (rfl) ((j_iload q_295_123 rfl).trans <| (j_bi q_295_125 rfl).trans <| (j_cmpeqB (t := 137) q_295_127 rfl ww_22).trans (js_ite (rfl) ((j_iload q_295_130 rfl).trans <| (j_bi q_295_132 rfl).trans <| (j_cmpneB (t := 169) q_295_134 rfl ww_23).trans (js_ite (rfl) ((j_iload q_295_169 rfl).trans <| (j_iconst q_295_171).trans <| (j_cmpeqB (t := 207) q_295_172 rfl ww_1).trans (js_ite (rfl) ((j_iload q_295_175 rfl).trans <| (j_iconst q_295_177).trans <| (j_cmpeqB (t := 207) q_295_178 rfl ww_2).trans (js_ite (rfl) ((j_iload q_295_181 rfl).trans <| (j_iconst q_295_183).trans <| (j_cmpeqB (t := 207) q_295_184 rfl ww_4).trans (js_ite (rfl) ((j_iload q_295_187 rfl).trans <| (j_iconst q_295_189).trans <| (j_cmpeqB (t := 207) q_295_190 rfl ww_5).trans (js_ite (rfl) ((j_iload q_295_193 rfl).trans <| (j_bi q_295_195 rfl).trans <| (j_cmpltB (t := 218) q_295_197 rfl ww_24).trans (js_ite (rfl) ((j_iload q_295_200 rfl).trans <| (j_bi q_295_202 rfl).trans <| (j_cmpgeB (t := 218) q_295_204 rfl ww_28).trans (js_ite (rfl) (rfl))))))))))))))))))) ((j_aload_n q_295_93 rfl).trans <| (j_aload_n q_295_94 rfl).trans <| (j_get (ji := 94) (v := (2, 134)) q_295_95 (js_Fo qy_295 qf_12_416) js_o83 rfl rfl rfl rfl).trans <| (j_iload q_295_98 rfl).trans <| (j_caload q_295_100 js_o134).trans <| (if_pos g0).trans <| rfl))
theorem k_295_101 {E : js_E} {d : Nat} {σ σ2 : js_S} {x1 x2 x3 x4 x5 z1 : Int} (hd : 1 ≤ d) (hz : js_J E (d - 1) 296 0 [(2, 83), (0, z1)] [] σ = js_r0 E σ2) : js_J E d 295 101 [(2, 83), (0, x1), (0, x2), (0, x3), (0, x4), (0, x5)] [(0, z1), (2, 83)] σ = js_J E d 295 104 [(2, 83), (0, x1), (0, x2), (0, x3), (0, x4), (0, x5)] [] σ2 :=
  j_call0 (m := 0) (js_caV q_295_101 (js_Mo qy_295 qm_12_661)) (js_agV (av := [(0, z1)]) (st := []) rfl rfl js_o83 rfl) rfl rfl (by rw [ql_296]; exact Nat.le_of_ble_eq_true rfl) (Nat.le_of_ble_eq_true rfl) hd hz
theorem b_295_104 {E : js_E} {d : Nat} {σ : js_S} {x1 x2 x3 x4 x5 : Int} : js_J E d 295 104 [(2, 83), (0, x1), (0, x2), (0, x3), (0, x4), (0, x5)] [] σ = js_J E d 295 81 [(2, 83), (0, x1), (0, x2), (0, x3), (0, x4 + 1), (0, x5)] [] σ :=
  (j_iinc (l2 := [(2, 83), (0, x1), (0, x2), (0, x3), (0, x4 + 1), (0, x5)]) q_295_104 rfl rfl).trans <| (j_goto (t := 81) q_295_107 rfl).trans <| rfl
theorem b_295_137 {E : js_E} {d : Nat} {σ : js_S} {x1 x2 x3 x4 x5 : Int} : js_J E d 295 137 [(2, 83), (0, x1), (0, x2), (0, x3), (0, x4), (0, x5)] [] σ = (if js_w x1 = 0 then (if 0 ≤ js_w x2 ∧ js_w x2 < 8192 then js_J E d 295 163 [(2, 83), (0, x1), (0, x2), (0, x3), (0, x4), (0, x5)] [(1, js_w (σ 112 (js_w x2))), (2, 83)] σ else none) else (if 0 ≤ js_w x2 ∧ js_w x2 < 8192 then js_J E d 295 163 [(2, 83), (0, x1), (0, x2), (0, x3), (0, x4), (0, x5)] [(1, 58659 * (js_w (σ 112 (js_w x2)))), (2, 83)] σ else none)) :=
  (j_aload_n q_295_137 rfl).trans <| (j_iload_n q_295_138 rfl).trans <| (j_ifne (t := 152) q_295_139 rfl).trans (js_ite ((j_aload_n q_295_142 rfl).trans <| (j_get (ji := 60) (v := (2, 112)) q_295_143 (js_Fo qy_295 qf_12_349) js_o83 rfl rfl rfl rfl).trans <| (j_iload_n q_295_146 rfl).trans <| (j_iaload q_295_147 js_o112).trans <| js_itp fun g0 => (j_i2l q_295_148).trans <| (j_goto (t := 163) q_295_149 rfl).trans <| rfl) ((j_ldc2 (v := (1, 58659)) q_295_152 (js_Co qy_295 qc_12_571)).trans <| (j_aload_n q_295_155 rfl).trans <| (j_get (ji := 60) (v := (2, 112)) q_295_156 (js_Fo qy_295 qf_12_349) js_o83 rfl rfl rfl rfl).trans <| (j_iload_n q_295_159 rfl).trans <| (j_iaload q_295_160 js_o112).trans <| js_itp fun g0 => (j_i2l q_295_161).trans <| (j_lmul q_295_162).trans <| rfl))
theorem k_295_163 {E : js_E} {d : Nat} {σ σ2 : js_S} {x1 x2 x3 x4 x5 z1 : Int} (hd : 1 ≤ d) (hz : js_J E (d - 1) 297 0 [(2, 83), (1, z1), (9, 0), (9, 0), (9, 0), (9, 0), (9, 0)] [] σ = js_r0 E σ2) : js_J E d 295 163 [(2, 83), (0, x1), (0, x2), (0, x3), (0, x4), (0, x5)] [(1, z1), (2, 83)] σ = js_J E d 295 166 [(2, 83), (0, x1), (0, x2), (0, x3), (0, x4), (0, x5)] [] σ2 :=
  j_call0 (m := 4) (js_caV q_295_163 (js_Mo qy_295 qm_12_666)) (js_agV (av := [(1, z1)]) (st := []) rfl rfl js_o83 rfl) rfl rfl (by rw [ql_297]; exact Nat.le_of_ble_eq_true rfl) (Nat.le_of_ble_eq_true rfl) hd hz
theorem b_295_166 {E : js_E} {d : Nat} {σ : js_S} {x1 x2 x3 x4 x5 : Int} : js_J E d 295 166 [(2, 83), (0, x1), (0, x2), (0, x3), (0, x4), (0, x5)] [] σ = js_J E d 295 218 [(2, 83), (0, x1), (0, x2), (0, x3), (0, x4), (0, x5)] [] σ :=
  (j_goto (t := 218) q_295_166 rfl).trans <| rfl
theorem b_295_207 {E : js_E} {d : Nat} {σ : js_S} {x1 x2 x3 x4 x5 : Int} : js_J E d 295 207 [(2, 83), (0, x1), (0, x2), (0, x3), (0, x4), (0, x5)] [] σ = (if 0 ≤ js_w x2 ∧ js_w x2 < 8192 then js_J E d 295 215 [(2, 83), (0, x1), (0, x2), (0, x3), (0, x4), (0, x5)] [(1, js_w (σ 112 (js_w x2))), (2, 83)] σ else none) :=
  (j_aload_n q_295_207 rfl).trans <| (j_aload_n q_295_208 rfl).trans <| (j_get (ji := 60) (v := (2, 112)) q_295_209 (js_Fo qy_295 qf_12_349) js_o83 rfl rfl rfl rfl).trans <| (j_iload_n q_295_212 rfl).trans <| (j_iaload q_295_213 js_o112).trans <| js_itp fun g0 => (j_i2l q_295_214).trans <| rfl
theorem k_295_215 {E : js_E} {d : Nat} {σ σ2 : js_S} {x1 x2 x3 x4 x5 z1 : Int} (hd : 1 ≤ d) (hz : js_J E (d - 1) 297 0 [(2, 83), (1, z1), (9, 0), (9, 0), (9, 0), (9, 0), (9, 0)] [] σ = js_r0 E σ2) : js_J E d 295 215 [(2, 83), (0, x1), (0, x2), (0, x3), (0, x4), (0, x5)] [(1, z1), (2, 83)] σ = js_J E d 295 218 [(2, 83), (0, x1), (0, x2), (0, x3), (0, x4), (0, x5)] [] σ2 :=
  j_call0 (m := 4) (js_caV q_295_215 (js_Mo qy_295 qm_12_666)) (js_agV (av := [(1, z1)]) (st := []) rfl rfl js_o83 rfl) rfl rfl (by rw [ql_297]; exact Nat.le_of_ble_eq_true rfl) (Nat.le_of_ble_eq_true rfl) hd hz
theorem b_295_218 {E : js_E} {d : Nat} {σ : js_S} {x1 x2 x3 x4 x5 : Int} : js_J E d 295 218 [(2, 83), (0, x1), (0, x2), (0, x3), (0, x4), (0, x5)] [] σ = (if js_w x5 = 4 then js_J E d 295 230 [(2, 83), (0, x1), (0, x2), (0, x3), (0, x4), (0, x5)] [] σ else (if js_w x5 = 5 then js_J E d 295 230 [(2, 83), (0, x1), (0, x2), (0, x3), (0, x4), (0, x5)] [] σ else js_J E d 295 241 [(2, 83), (0, x1), (0, x2), (0, x3), (0, x4), (0, x5)] [] σ)) :=
  (j_iload q_295_218 rfl).trans <| (j_iconst q_295_220).trans <| (j_cmpeqB (t := 230) q_295_221 rfl ww_4).trans (js_ite (rfl) ((j_iload q_295_224 rfl).trans <| (j_iconst q_295_226).trans <| (j_cmpneB (t := 241) q_295_227 rfl ww_5).trans (js_ite (rfl) (rfl))))
theorem b_295_230 {E : js_E} {d : Nat} {σ : js_S} {x1 x2 x3 x4 x5 : Int} : js_J E d 295 230 [(2, 83), (0, x1), (0, x2), (0, x3), (0, x4), (0, x5)] [] σ = (if 0 ≤ js_w x2 ∧ js_w x2 < 8192 then js_J E d 295 238 [(2, 83), (0, x1), (0, x2), (0, x3), (0, x4), (0, x5)] [(1, js_w (σ 113 (js_w x2))), (2, 83)] σ else none) :=
  (j_aload_n q_295_230 rfl).trans <| (j_aload_n q_295_231 rfl).trans <| (j_get (ji := 61) (v := (2, 113)) q_295_232 (js_Fo qy_295 qf_12_352) js_o83 rfl rfl rfl rfl).trans <| (j_iload_n q_295_235 rfl).trans <| (j_iaload q_295_236 js_o113).trans <| js_itp fun g0 => (j_i2l q_295_237).trans <| rfl
theorem k_295_238 {E : js_E} {d : Nat} {σ σ2 : js_S} {x1 x2 x3 x4 x5 z1 : Int} (hd : 1 ≤ d) (hz : js_J E (d - 1) 297 0 [(2, 83), (1, z1), (9, 0), (9, 0), (9, 0), (9, 0), (9, 0)] [] σ = js_r0 E σ2) : js_J E d 295 238 [(2, 83), (0, x1), (0, x2), (0, x3), (0, x4), (0, x5)] [(1, z1), (2, 83)] σ = js_J E d 295 241 [(2, 83), (0, x1), (0, x2), (0, x3), (0, x4), (0, x5)] [] σ2 :=
  j_call0 (m := 4) (js_caV q_295_238 (js_Mo qy_295 qm_12_666)) (js_agV (av := [(1, z1)]) (st := []) rfl rfl js_o83 rfl) rfl rfl (by rw [ql_297]; exact Nat.le_of_ble_eq_true rfl) (Nat.le_of_ble_eq_true rfl) hd hz
theorem b_295_241 {E : js_E} {d : Nat} {σ : js_S} {x1 x2 x3 x4 x5 : Int} : js_J E d 295 241 [(2, 83), (0, x1), (0, x2), (0, x3), (0, x4), (0, x5)] [] σ = (if js_w x3 < js_w (σ 83 96) then (if 0 ≤ js_w x3 ∧ js_w x3 < 80 then js_r E (0, σ 135 (js_w x3)) σ else none) else js_r E (0, (-1)) σ) :=
  (j_iload_n q_295_241 rfl).trans <| (j_aload_n q_295_242 rfl).trans <| (j_get (ji := 96) (v := (0, σ 83 96)) q_295_243 (js_Fo qy_295 qf_12_658) js_o83 rfl rfl rfl rfl).trans <| (j_cmpge (t := 258) q_295_246 rfl).trans (js_ite ((j_aload_n q_295_249 rfl).trans <| (j_get (ji := 95) (v := (2, 135)) q_295_250 (js_Fo qy_295 qf_12_419) js_o83 rfl rfl rfl rfl).trans <| (j_iload_n q_295_253 rfl).trans <| (j_baload q_295_254 js_o135).trans <| js_itp fun g0 => (j_goto (t := 259) q_295_255 rfl).trans <| j_ireturn q_295_259 qr_295) ((j_iconst q_295_258).trans <| j_ireturn q_295_259 qr_295))
-- 296: VitalTwinModel.put (I)V
theorem b_296_0 {E : js_E} {d : Nat} {σ : js_S} {x1 : Int} : js_J E d 296 0 [(2, 83), (0, x1)] [] σ = (if 0 ≤ js_w (σ 83 96) ∧ js_w (σ 83 96) < 80 then js_r0 E (js_up (js_up σ 135 (js_w (σ 83 96)) (js_i2b (js_i2b x1))) 83 96 ((σ 83 96) + 1)) else none) :=
  (j_aload_n q_296_0 rfl).trans <| (j_get (ji := 95) (v := (2, 135)) q_296_1 (js_Fo qy_296 qf_12_419) js_o83 rfl rfl rfl rfl).trans <| (j_aload_n q_296_4 rfl).trans <| (j_get (ji := 96) (v := (0, σ 83 96)) q_296_5 (js_Fo qy_296 qf_12_658) js_o83 rfl rfl rfl rfl).trans <| (j_iload_n q_296_8 rfl).trans <| (j_i2b q_296_9).trans <| (j_bastore q_296_10 js_o135).trans <| js_itp fun g0 => (j_aload_n q_296_11 rfl).trans <| (j_dupr q_296_12).trans <| (j_get (ji := 96) (v := (0, σ 83 96)) q_296_13 (js_Fo qy_296 qf_12_658) js_o83 rfl rfl rfl (congrArg (Prod.mk 0) ((js_up_na _ (by decide))))).trans <| (j_iconst q_296_16).trans <| (j_iadd q_296_17).trans <| (j_putI (ji := 96) q_296_18 (js_Fo qy_296 qf_12_658) rfl js_o83 rfl rfl rfl).trans <| j_return q_296_21 qr_296
-- 297: VitalTwinModel.putNumber (J)V
theorem b_297_0 {E : js_E} {d : Nat} {σ : js_S} {x1 : Int} : js_J E d 297 0 [(2, 83), (1, x1), (9, 0), (9, 0), (9, 0), (9, 0), (9, 0)] [] σ = js_J E d 297 3 [(2, 83), (1, x1), (9, 0), (9, 0), (9, 0), (9, 0), (9, 0)] [(0, 32), (2, 83)] σ :=
  (j_aload_n q_297_0 rfl).trans <| (j_bi q_297_1 rfl).trans <| rfl
theorem k_297_3 {E : js_E} {d : Nat} {σ σ2 : js_S} {x1 z1 : Int} (hd : 1 ≤ d) (hz : js_J E (d - 1) 296 0 [(2, 83), (0, z1)] [] σ = js_r0 E σ2) : js_J E d 297 3 [(2, 83), (1, x1), (9, 0), (9, 0), (9, 0), (9, 0), (9, 0)] [(0, z1), (2, 83)] σ = js_J E d 297 6 [(2, 83), (1, x1), (9, 0), (9, 0), (9, 0), (9, 0), (9, 0)] [] σ2 :=
  j_call0 (m := 0) (js_caV q_297_3 (js_Mo qy_297 qm_12_661)) (js_agV (av := [(0, z1)]) (st := []) rfl rfl js_o83 rfl) rfl rfl (by rw [ql_296]; exact Nat.le_of_ble_eq_true rfl) (Nat.le_of_ble_eq_true rfl) hd hz
theorem b_297_6 {E : js_E} {d : Nat} {σ : js_S} {x1 : Int} : js_J E d 297 6 [(2, 83), (1, x1), (9, 0), (9, 0), (9, 0), (9, 0), (9, 0)] [] σ = (if js_l x1 < 0 then js_J E d 297 15 [(2, 83), (1, x1), (9, 0), (9, 0), (9, 0), (9, 0), (9, 0)] [(0, 45), (2, 83)] σ else js_J E d 297 18 [(2, 83), (1, x1), (9, 0), (9, 0), (9, 0), (9, 0), (9, 0)] [] σ) :=
  (j_lload_n q_297_6 rfl).trans <| (j_lconst0 q_297_7).trans <| (j_lgeB (t := 18) q_297_8 q_297_9 rfl wl_0).trans (js_ite ((j_aload_n q_297_12 rfl).trans <| (j_bi q_297_13 rfl).trans <| rfl) (rfl))
theorem k_297_15 {E : js_E} {d : Nat} {σ σ2 : js_S} {x1 z1 : Int} (hd : 1 ≤ d) (hz : js_J E (d - 1) 296 0 [(2, 83), (0, z1)] [] σ = js_r0 E σ2) : js_J E d 297 15 [(2, 83), (1, x1), (9, 0), (9, 0), (9, 0), (9, 0), (9, 0)] [(0, z1), (2, 83)] σ = js_J E d 297 18 [(2, 83), (1, x1), (9, 0), (9, 0), (9, 0), (9, 0), (9, 0)] [] σ2 :=
  j_call0 (m := 0) (js_caV q_297_15 (js_Mo qy_297 qm_12_661)) (js_agV (av := [(0, z1)]) (st := []) rfl rfl js_o83 rfl) rfl rfl (by rw [ql_296]; exact Nat.le_of_ble_eq_true rfl) (Nat.le_of_ble_eq_true rfl) hd hz
theorem b_297_18 {E : js_E} {d : Nat} {σ : js_S} {x1 : Int} : js_J E d 297 18 [(2, 83), (1, x1), (9, 0), (9, 0), (9, 0), (9, 0), (9, 0)] [] σ = (if js_l x1 < 0 then js_J E d 297 30 [(2, 83), (1, x1), (9, 0), (9, 0), (9, 0), (9, 0), (9, 0)] [(1, -x1)] σ else js_J E d 297 30 [(2, 83), (1, x1), (9, 0), (9, 0), (9, 0), (9, 0), (9, 0)] [(1, x1)] σ) :=
  (j_lload_n q_297_18 rfl).trans <| (j_lconst0 q_297_19).trans <| (j_lgeB (t := 29) q_297_20 q_297_21 rfl wl_0).trans (js_ite ((j_lload_n q_297_24 rfl).trans <| (j_lneg q_297_25).trans <| (j_goto (t := 30) q_297_26 rfl).trans <| rfl) ((j_lload_n q_297_29 rfl).trans <| rfl))
theorem b_297_30 {E : js_E} {d : Nat} {σ : js_S} {x1 z0 : Int} : js_J E d 297 30 [(2, 83), (1, x1), (9, 0), (9, 0), (9, 0), (9, 0), (9, 0)] [(1, z0)] σ = js_J E d 297 34 [(2, 83), (1, x1), (9, 0), (1, z0), (9, 0), (1, 1), (9, 0)] [] σ :=
  (j_lstore_n (l2 := [(2, 83), (1, x1), (9, 0), (1, z0), (9, 0), (9, 0), (9, 0)]) q_297_30 rfl (Nat.le_of_ble_eq_true rfl)).trans <| (j_lconst1 q_297_31).trans <| (j_lstore (l2 := [(2, 83), (1, x1), (9, 0), (1, z0), (9, 0), (1, 1), (9, 0)]) q_297_32 rfl (Nat.le_of_ble_eq_true rfl)).trans <| rfl
theorem b_297_34 {E : js_E} {d : Nat} {σ : js_S} {x1 x3 x5 : Int} : js_J E d 297 34 [(2, 83), (1, x1), (9, 0), (1, x3), (9, 0), (1, x5), (9, 0)] [] σ = (if js_l x5 = 0 then none else (if 9 < js_l ((js_l x3).tdiv (js_l x5)) then js_J E d 297 34 [(2, 83), (1, x1), (9, 0), (1, x3), (9, 0), (1, x5 * 10), (9, 0)] [] σ else js_J E d 297 56 [(2, 83), (1, x1), (9, 0), (1, x3), (9, 0), (1, x5), (9, 0)] [] σ)) :=
  (j_lload_n q_297_34 rfl).trans <| (j_lload q_297_35 rfl).trans <| (j_ldiv q_297_37).trans <| js_ite rfl <| (j_ldc2 (v := (1, 9)) q_297_38 (js_Co qy_297 qc_12_664)).trans <| (j_lleB (t := 56) q_297_41 q_297_42 rfl wl_9).trans (js_ite ((j_lload q_297_45 rfl).trans <| (j_ldc2 (v := (1, 10)) q_297_47 (js_Co qy_297 qc_12_49)).trans <| (j_lmul q_297_50).trans <| (j_lstore (l2 := [(2, 83), (1, x1), (9, 0), (1, x3), (9, 0), (1, x5 * 10), (9, 0)]) q_297_51 rfl (Nat.le_of_ble_eq_true rfl)).trans <| (j_goto (t := 34) q_297_53 rfl).trans <| rfl) (rfl))
theorem b_297_56 {E : js_E} {d : Nat} {σ : js_S} {x1 x3 x5 : Int} : js_J E d 297 56 [(2, 83), (1, x1), (9, 0), (1, x3), (9, 0), (1, x5), (9, 0)] [] σ = (if 0 < js_l x5 then (if js_l x5 = 0 then none else js_J E d 297 77 [(2, 83), (1, x1), (9, 0), (1, x3), (9, 0), (1, x5), (9, 0)] [(0, 48 + ((js_l ((js_l x3).tdiv (js_l x5))).tmod 10)), (2, 83)] σ) else js_r0 E σ) :=
  (j_lload q_297_56 rfl).trans <| (j_lconst0 q_297_58).trans <| (j_lleB (t := 91) q_297_59 q_297_60 rfl wl_0).trans (js_ite ((j_aload_n q_297_63 rfl).trans <| (j_ldc2 (v := (1, 48)) q_297_64 (js_Co qy_297 qc_12_51)).trans <| (j_lload_n q_297_67 rfl).trans <| (j_lload q_297_68 rfl).trans <| (j_ldiv q_297_70).trans <| js_ite rfl <| (j_ldc2 (v := (1, 10)) q_297_71 (js_Co qy_297 qc_12_49)).trans <| (j_lremk q_297_74 wl_10 (by decide)).trans <| (j_ladd q_297_75).trans <| (j_l2i q_297_76).trans <| rfl) (j_return q_297_91 qr_297))
theorem k_297_77 {E : js_E} {d : Nat} {σ σ2 : js_S} {x1 x3 x5 z1 : Int} (hd : 1 ≤ d) (hz : js_J E (d - 1) 296 0 [(2, 83), (0, z1)] [] σ = js_r0 E σ2) : js_J E d 297 77 [(2, 83), (1, x1), (9, 0), (1, x3), (9, 0), (1, x5), (9, 0)] [(0, z1), (2, 83)] σ = js_J E d 297 80 [(2, 83), (1, x1), (9, 0), (1, x3), (9, 0), (1, x5), (9, 0)] [] σ2 :=
  j_call0 (m := 0) (js_caV q_297_77 (js_Mo qy_297 qm_12_661)) (js_agV (av := [(0, z1)]) (st := []) rfl rfl js_o83 rfl) rfl rfl (by rw [ql_296]; exact Nat.le_of_ble_eq_true rfl) (Nat.le_of_ble_eq_true rfl) hd hz
theorem b_297_80 {E : js_E} {d : Nat} {σ : js_S} {x1 x3 x5 : Int} : js_J E d 297 80 [(2, 83), (1, x1), (9, 0), (1, x3), (9, 0), (1, x5), (9, 0)] [] σ = js_J E d 297 56 [(2, 83), (1, x1), (9, 0), (1, x3), (9, 0), (1, (js_l x5).tdiv 10), (9, 0)] [] σ :=
  (j_lload q_297_80 rfl).trans <| (j_ldc2 (v := (1, 10)) q_297_82 (js_Co qy_297 qc_12_49)).trans <| (j_ldivk q_297_85 wl_10 (by decide)).trans <| (j_lstore (l2 := [(2, 83), (1, x1), (9, 0), (1, x3), (9, 0), (1, (js_l x5).tdiv 10), (9, 0)]) q_297_86 rfl (Nat.le_of_ble_eq_true rfl)).trans <| (j_goto (t := 56) q_297_88 rfl).trans <| rfl
-- 298: VitalTwinModel.count (I)I
theorem b_298_0 {E : js_E} {d : Nat} {σ : js_S} {x1 : Int} : js_J E d 298 0 [(2, 83), (0, x1)] [] σ = (if js_w x1 = 0 then js_r E (0, σ 83 2) (js_up σ 83 0 0) else (if js_w (σ 83 64) = 0 then js_r E (0, (-1)) (js_up σ 83 0 0) else js_J E d 298 24 [(2, 83), (0, x1)] [(0, x1)] (js_up σ 83 0 0))) :=
  (j_aload_n q_298_0 rfl).trans <| (j_iconst q_298_1).trans <| (j_putI (ji := 0) q_298_2 (js_Fo qy_298 qf_12_3) rfl js_o83 rfl rfl rfl).trans <| (j_iload_n q_298_5 rfl).trans <| (j_ifne (t := 14) q_298_6 rfl).trans (js_ite ((j_aload_n q_298_9 rfl).trans <| (j_get (ji := 2) (v := (0, σ 83 2)) q_298_10 (js_Fo qy_298 qf_12_11) js_o83 rfl rfl rfl (congrArg (Prod.mk 0) ((js_up_ni _ (by decide))))).trans <| j_ireturn q_298_13 qr_298) ((j_aload_n q_298_14 rfl).trans <| (j_get (ji := 64) (v := (0, σ 83 64)) q_298_15 (js_Fo qy_298 qf_12_464) js_o83 rfl rfl rfl (congrArg (Prod.mk 0) ((js_up_ni _ (by decide))))).trans <| (j_ifne (t := 23) q_298_18 rfl).trans (js_ite ((j_iconst q_298_21).trans <| j_ireturn q_298_22 qr_298) ((j_iload_n q_298_23 rfl).trans <| rfl))))
theorem s_298_24_1 {E : js_E} {d : Nat} {σ : js_S} {x1 z0 : Int} (h : js_w z0 = 1) : js_J E d 298 24 [(2, 83), (0, x1)] [(0, z0)] σ = js_J E d 298 92 [(2, 83), (0, x1)] [] σ :=
  j_tsw (t := 92) (off := 68) q_298_24 (by rw [h]; decide) (by rw [h]; decide) (by rw [h]; rfl) rfl
theorem s_298_24_2 {E : js_E} {d : Nat} {σ : js_S} {x1 z0 : Int} (h : js_w z0 = 2) : js_J E d 298 24 [(2, 83), (0, x1)] [(0, z0)] σ = js_J E d 298 97 [(2, 83), (0, x1)] [] σ :=
  j_tsw (t := 97) (off := 73) q_298_24 (by rw [h]; decide) (by rw [h]; decide) (by rw [h]; rfl) rfl
theorem s_298_24_3 {E : js_E} {d : Nat} {σ : js_S} {x1 z0 : Int} (h : js_w z0 = 3) : js_J E d 298 24 [(2, 83), (0, x1)] [(0, z0)] σ = js_J E d 298 102 [(2, 83), (0, x1)] [] σ :=
  j_tsw (t := 102) (off := 78) q_298_24 (by rw [h]; decide) (by rw [h]; decide) (by rw [h]; rfl) rfl
theorem s_298_24_4 {E : js_E} {d : Nat} {σ : js_S} {x1 z0 : Int} (h : js_w z0 = 4) : js_J E d 298 24 [(2, 83), (0, x1)] [(0, z0)] σ = js_J E d 298 107 [(2, 83), (0, x1)] [] σ :=
  j_tsw (t := 107) (off := 83) q_298_24 (by rw [h]; decide) (by rw [h]; decide) (by rw [h]; rfl) rfl
theorem s_298_24_5 {E : js_E} {d : Nat} {σ : js_S} {x1 z0 : Int} (h : js_w z0 = 5) : js_J E d 298 24 [(2, 83), (0, x1)] [(0, z0)] σ = js_J E d 298 112 [(2, 83), (0, x1)] [] σ :=
  j_tsw (t := 112) (off := 88) q_298_24 (by rw [h]; decide) (by rw [h]; decide) (by rw [h]; rfl) rfl
theorem s_298_24_6 {E : js_E} {d : Nat} {σ : js_S} {x1 z0 : Int} (h : js_w z0 = 6) : js_J E d 298 24 [(2, 83), (0, x1)] [(0, z0)] σ = js_J E d 298 117 [(2, 83), (0, x1)] [] σ :=
  j_tsw (t := 117) (off := 93) q_298_24 (by rw [h]; decide) (by rw [h]; decide) (by rw [h]; rfl) rfl
theorem s_298_24_7 {E : js_E} {d : Nat} {σ : js_S} {x1 z0 : Int} (h : js_w z0 = 7) : js_J E d 298 24 [(2, 83), (0, x1)] [(0, z0)] σ = js_J E d 298 122 [(2, 83), (0, x1)] [] σ :=
  j_tsw (t := 122) (off := 98) q_298_24 (by rw [h]; decide) (by rw [h]; decide) (by rw [h]; rfl) rfl
theorem s_298_24_8 {E : js_E} {d : Nat} {σ : js_S} {x1 z0 : Int} (h : js_w z0 = 8) : js_J E d 298 24 [(2, 83), (0, x1)] [(0, z0)] σ = js_J E d 298 127 [(2, 83), (0, x1)] [] σ :=
  j_tsw (t := 127) (off := 103) q_298_24 (by rw [h]; decide) (by rw [h]; decide) (by rw [h]; rfl) rfl
theorem s_298_24_9 {E : js_E} {d : Nat} {σ : js_S} {x1 z0 : Int} (h : js_w z0 = 9) : js_J E d 298 24 [(2, 83), (0, x1)] [(0, z0)] σ = js_J E d 298 132 [(2, 83), (0, x1)] [] σ :=
  j_tsw (t := 132) (off := 108) q_298_24 (by rw [h]; decide) (by rw [h]; decide) (by rw [h]; rfl) rfl
theorem s_298_24_10 {E : js_E} {d : Nat} {σ : js_S} {x1 z0 : Int} (h : js_w z0 = 10) : js_J E d 298 24 [(2, 83), (0, x1)] [(0, z0)] σ = js_J E d 298 137 [(2, 83), (0, x1)] [] σ :=
  j_tsw (t := 137) (off := 113) q_298_24 (by rw [h]; decide) (by rw [h]; decide) (by rw [h]; rfl) rfl
theorem s_298_24_11 {E : js_E} {d : Nat} {σ : js_S} {x1 z0 : Int} (h : js_w z0 = 11) : js_J E d 298 24 [(2, 83), (0, x1)] [(0, z0)] σ = js_J E d 298 142 [(2, 83), (0, x1)] [] σ :=
  j_tsw (t := 142) (off := 118) q_298_24 (by rw [h]; decide) (by rw [h]; decide) (by rw [h]; rfl) rfl
theorem s_298_24_12 {E : js_E} {d : Nat} {σ : js_S} {x1 z0 : Int} (h : js_w z0 = 12) : js_J E d 298 24 [(2, 83), (0, x1)] [(0, z0)] σ = js_J E d 298 147 [(2, 83), (0, x1)] [] σ :=
  j_tsw (t := 147) (off := 123) q_298_24 (by rw [h]; decide) (by rw [h]; decide) (by rw [h]; rfl) rfl
theorem s_298_24_13 {E : js_E} {d : Nat} {σ : js_S} {x1 z0 : Int} (h : js_w z0 = 13) : js_J E d 298 24 [(2, 83), (0, x1)] [(0, z0)] σ = js_J E d 298 152 [(2, 83), (0, x1)] [] σ :=
  j_tsw (t := 152) (off := 128) q_298_24 (by rw [h]; decide) (by rw [h]; decide) (by rw [h]; rfl) rfl
theorem s_298_24_d {E : js_E} {d : Nat} {σ : js_S} {x1 z0 : Int} (h : js_w z0 < 1 ∨ 13 < js_w z0) : js_J E d 298 24 [(2, 83), (0, x1)] [(0, z0)] σ = js_J E d 298 157 [(2, 83), (0, x1)] [] σ :=
  j_tswd (t := 157) q_298_24 h rfl
theorem b_298_92 {E : js_E} {d : Nat} {σ : js_S} {x1 : Int} : js_J E d 298 92 [(2, 83), (0, x1)] [] σ = js_r E (0, σ 83 11) σ :=
  (j_aload_n q_298_92 rfl).trans <| (j_get (ji := 11) (v := (0, σ 83 11)) q_298_93 (js_Fo qy_298 qf_12_86) js_o83 rfl rfl rfl rfl).trans <| j_ireturn q_298_96 qr_298
theorem b_298_97 {E : js_E} {d : Nat} {σ : js_S} {x1 : Int} : js_J E d 298 97 [(2, 83), (0, x1)] [] σ = js_r E (0, σ 83 49) σ :=
  (j_aload_n q_298_97 rfl).trans <| (j_get (ji := 49) (v := (0, σ 83 49)) q_298_98 (js_Fo qy_298 qf_12_428) js_o83 rfl rfl rfl rfl).trans <| j_ireturn q_298_101 qr_298
theorem b_298_102 {E : js_E} {d : Nat} {σ : js_S} {x1 : Int} : js_J E d 298 102 [(2, 83), (0, x1)] [] σ = js_r E (0, σ 83 48) σ :=
  (j_aload_n q_298_102 rfl).trans <| (j_get (ji := 48) (v := (0, σ 83 48)) q_298_103 (js_Fo qy_298 qf_12_437) js_o83 rfl rfl rfl rfl).trans <| j_ireturn q_298_106 qr_298
theorem b_298_107 {E : js_E} {d : Nat} {σ : js_S} {x1 : Int} : js_J E d 298 107 [(2, 83), (0, x1)] [] σ = js_r E (0, σ 83 50) σ :=
  (j_aload_n q_298_107 rfl).trans <| (j_get (ji := 50) (v := (0, σ 83 50)) q_298_108 (js_Fo qy_298 qf_12_446) js_o83 rfl rfl rfl rfl).trans <| j_ireturn q_298_111 qr_298
theorem b_298_112 {E : js_E} {d : Nat} {σ : js_S} {x1 : Int} : js_J E d 298 112 [(2, 83), (0, x1)] [] σ = js_r E (0, σ 83 51) σ :=
  (j_aload_n q_298_112 rfl).trans <| (j_get (ji := 51) (v := (0, σ 83 51)) q_298_113 (js_Fo qy_298 qf_12_449) js_o83 rfl rfl rfl rfl).trans <| j_ireturn q_298_116 qr_298
theorem b_298_117 {E : js_E} {d : Nat} {σ : js_S} {x1 : Int} : js_J E d 298 117 [(2, 83), (0, x1)] [] σ = js_r E (0, σ 83 46) σ :=
  (j_aload_n q_298_117 rfl).trans <| (j_get (ji := 46) (v := (0, σ 83 46)) q_298_118 (js_Fo qy_298 qf_12_440) js_o83 rfl rfl rfl rfl).trans <| j_ireturn q_298_121 qr_298
theorem b_298_122 {E : js_E} {d : Nat} {σ : js_S} {x1 : Int} : js_J E d 298 122 [(2, 83), (0, x1)] [] σ = js_r E (0, σ 83 47) σ :=
  (j_aload_n q_298_122 rfl).trans <| (j_get (ji := 47) (v := (0, σ 83 47)) q_298_123 (js_Fo qy_298 qf_12_443) js_o83 rfl rfl rfl rfl).trans <| j_ireturn q_298_126 qr_298
theorem b_298_127 {E : js_E} {d : Nat} {σ : js_S} {x1 : Int} : js_J E d 298 127 [(2, 83), (0, x1)] [] σ = js_r E (0, σ 83 82) σ :=
  (j_aload_n q_298_127 rfl).trans <| (j_get (ji := 82) (v := (0, σ 83 82)) q_298_128 (js_Fo qy_298 qf_12_588) js_o83 rfl rfl rfl rfl).trans <| j_ireturn q_298_131 qr_298
theorem b_298_132 {E : js_E} {d : Nat} {σ : js_S} {x1 : Int} : js_J E d 298 132 [(2, 83), (0, x1)] [] σ = js_r E (0, σ 83 79) σ :=
  (j_aload_n q_298_132 rfl).trans <| (j_get (ji := 79) (v := (0, σ 83 79)) q_298_133 (js_Fo qy_298 qf_12_579) js_o83 rfl rfl rfl rfl).trans <| j_ireturn q_298_136 qr_298
theorem b_298_137 {E : js_E} {d : Nat} {σ : js_S} {x1 : Int} : js_J E d 298 137 [(2, 83), (0, x1)] [] σ = js_r E (0, σ 83 77) σ :=
  (j_aload_n q_298_137 rfl).trans <| (j_get (ji := 77) (v := (0, σ 83 77)) q_298_138 (js_Fo qy_298 qf_12_573) js_o83 rfl rfl rfl rfl).trans <| j_ireturn q_298_141 qr_298
theorem b_298_142 {E : js_E} {d : Nat} {σ : js_S} {x1 : Int} : js_J E d 298 142 [(2, 83), (0, x1)] [] σ = js_r E (0, σ 83 81) σ :=
  (j_aload_n q_298_142 rfl).trans <| (j_get (ji := 81) (v := (0, σ 83 81)) q_298_143 (js_Fo qy_298 qf_12_585) js_o83 rfl rfl rfl rfl).trans <| j_ireturn q_298_146 qr_298
theorem b_298_147 {E : js_E} {d : Nat} {σ : js_S} {x1 : Int} : js_J E d 298 147 [(2, 83), (0, x1)] [] σ = js_r E (0, σ 83 85) σ :=
  (j_aload_n q_298_147 rfl).trans <| (j_get (ji := 85) (v := (0, σ 83 85)) q_298_148 (js_Fo qy_298 qf_12_594) js_o83 rfl rfl rfl rfl).trans <| j_ireturn q_298_151 qr_298
theorem b_298_152 {E : js_E} {d : Nat} {σ : js_S} {x1 : Int} : js_J E d 298 152 [(2, 83), (0, x1)] [] σ = js_r E (0, σ 83 83) σ :=
  (j_aload_n q_298_152 rfl).trans <| (j_get (ji := 83) (v := (0, σ 83 83)) q_298_153 (js_Fo qy_298 qf_12_591) js_o83 rfl rfl rfl rfl).trans <| j_ireturn q_298_156 qr_298
theorem b_298_157 {E : js_E} {d : Nat} {σ : js_S} {x1 : Int} : js_J E d 298 157 [(2, 83), (0, x1)] [] σ = js_r E (0, (-1)) σ :=
  (j_iconst q_298_157).trans <| j_ireturn q_298_158 qr_298
