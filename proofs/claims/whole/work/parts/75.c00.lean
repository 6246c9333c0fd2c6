/-! part 75.c00: block equations of the class's (and the law's helpers') methods 11 to 32 (printed by wip/whole/tools/gen71.py) -/
theorem qy_11 : vt_O 11 = 0 := by decide +kernel
theorem qr_11 : vt_rc.getD 11 0 = 1 := by decide +kernel
theorem ql_11 : vt_ml.getD 11 0 = 5 := by decide +kernel
theorem qy_12 : vt_O 12 = 8 := by decide +kernel
theorem qr_12 : vt_rc.getD 12 0 = 1 := by decide +kernel
theorem ql_12 : vt_ml.getD 12 0 = 7 := by decide +kernel
theorem qy_13 : vt_O 13 = 8 := by decide +kernel
theorem qr_13 : vt_rc.getD 13 0 = 1 := by decide +kernel
theorem ql_13 : vt_ml.getD 13 0 = 5 := by decide +kernel
theorem qy_14 : vt_O 14 = 8 := by decide +kernel
theorem qr_14 : vt_rc.getD 14 0 = 0 := by decide +kernel
theorem ql_14 : vt_ml.getD 14 0 = 2 := by decide +kernel
theorem qy_15 : vt_O 15 = 8 := by decide +kernel
theorem qr_15 : vt_rc.getD 15 0 = 0 := by decide +kernel
theorem ql_15 : vt_ml.getD 15 0 = 5 := by decide +kernel
theorem qy_16 : vt_O 16 = 4 := by decide +kernel
theorem qr_16 : vt_rc.getD 16 0 = 0 := by decide +kernel
theorem ql_16 : vt_ml.getD 16 0 = 2 := by decide +kernel
theorem qy_17 : vt_O 17 = 7 := by decide +kernel
theorem qr_17 : vt_rc.getD 17 0 = 0 := by decide +kernel
theorem ql_17 : vt_ml.getD 17 0 = 1 := by decide +kernel
theorem qy_20 : vt_O 20 = 10 := by decide +kernel
theorem qr_20 : vt_rc.getD 20 0 = 0 := by decide +kernel
theorem ql_20 : vt_ml.getD 20 0 = 1 := by decide +kernel
theorem qy_22 : vt_O 22 = 8 := by decide +kernel
theorem qr_22 : vt_rc.getD 22 0 = 0 := by decide +kernel
theorem ql_22 : vt_ml.getD 22 0 = 4 := by decide +kernel
theorem qy_34 : vt_O 34 = 4 := by decide +kernel
theorem qr_34 : vt_rc.getD 34 0 = 0 := by decide +kernel
theorem ql_34 : vt_ml.getD 34 0 = 2 := by decide +kernel
theorem qy_44 : vt_O 44 = 4 := by decide +kernel
theorem qr_44 : vt_rc.getD 44 0 = 0 := by decide +kernel
theorem ql_44 : vt_ml.getD 44 0 = 6 := by decide +kernel
theorem qy_45 : vt_O 45 = 4 := by decide +kernel
theorem qr_45 : vt_rc.getD 45 0 = 0 := by decide +kernel
theorem ql_45 : vt_ml.getD 45 0 = 3 := by decide +kernel
theorem qy_52 : vt_O 52 = 4 := by decide +kernel
theorem qr_52 : vt_rc.getD 52 0 = 0 := by decide +kernel
theorem ql_52 : vt_ml.getD 52 0 = 4 := by decide +kernel
theorem qy_36 : vt_O 36 = 8 := by decide +kernel
theorem qr_36 : vt_rc.getD 36 0 = 0 := by decide +kernel
theorem ql_36 : vt_ml.getD 36 0 = 3 := by decide +kernel
theorem qy_112 : vt_O 112 = 4 := by decide +kernel
theorem qr_112 : vt_rc.getD 112 0 = 0 := by decide +kernel
theorem ql_112 : vt_ml.getD 112 0 = 1 := by decide +kernel
theorem qy_18 : vt_O 18 = 1 := by decide +kernel
theorem qr_18 : vt_rc.getD 18 0 = 0 := by decide +kernel
theorem ql_18 : vt_ml.getD 18 0 = 1 := by decide +kernel
theorem qy_19 : vt_O 19 = 1 := by decide +kernel
theorem qr_19 : vt_rc.getD 19 0 = 0 := by decide +kernel
theorem ql_19 : vt_ml.getD 19 0 = 1 := by decide +kernel
theorem qy_21 : vt_O 21 = 5 := by decide +kernel
theorem qr_21 : vt_rc.getD 21 0 = 0 := by decide +kernel
theorem ql_21 : vt_ml.getD 21 0 = 1 := by decide +kernel
theorem qy_23 : vt_O 23 = 8 := by decide +kernel
theorem qr_23 : vt_rc.getD 23 0 = 1 := by decide +kernel
theorem ql_23 : vt_ml.getD 23 0 = 3 := by decide +kernel
theorem qy_29 : vt_O 29 = 8 := by decide +kernel
theorem qr_29 : vt_rc.getD 29 0 = 1 := by decide +kernel
theorem ql_29 : vt_ml.getD 29 0 = 4 := by decide +kernel
theorem qy_32 : vt_O 32 = 8 := by decide +kernel
theorem qr_32 : vt_rc.getD 32 0 = 0 := by decide +kernel
theorem ql_32 : vt_ml.getD 32 0 = 4 := by decide +kernel
theorem qy_33 : vt_O 33 = 8 := by decide +kernel
theorem qr_33 : vt_rc.getD 33 0 = 0 := by decide +kernel
theorem ql_33 : vt_ml.getD 33 0 = 2 := by decide +kernel
theorem qy_24 : vt_O 24 = 8 := by decide +kernel
theorem qr_24 : vt_rc.getD 24 0 = 1 := by decide +kernel
theorem ql_24 : vt_ml.getD 24 0 = 2 := by decide +kernel
theorem qy_25 : vt_O 25 = 8 := by decide +kernel
theorem qr_25 : vt_rc.getD 25 0 = 2 := by decide +kernel
theorem ql_25 : vt_ml.getD 25 0 = 1 := by decide +kernel
theorem qy_26 : vt_O 26 = 8 := by decide +kernel
theorem qr_26 : vt_rc.getD 26 0 = 2 := by decide +kernel
theorem ql_26 : vt_ml.getD 26 0 = 1 := by decide +kernel
theorem qy_27 : vt_O 27 = 8 := by decide +kernel
theorem qr_27 : vt_rc.getD 27 0 = 2 := by decide +kernel
theorem ql_27 : vt_ml.getD 27 0 = 2 := by decide +kernel
theorem qy_28 : vt_O 28 = 8 := by decide +kernel
theorem qr_28 : vt_rc.getD 28 0 = 1 := by decide +kernel
theorem ql_28 : vt_ml.getD 28 0 = 2 := by decide +kernel
theorem qy_30 : vt_O 30 = 8 := by decide +kernel
theorem qr_30 : vt_rc.getD 30 0 = 1 := by decide +kernel
theorem ql_30 : vt_ml.getD 30 0 = 8 := by decide +kernel
theorem qy_31 : vt_O 31 = 8 := by decide +kernel
theorem qr_31 : vt_rc.getD 31 0 = 3 := by decide +kernel
theorem ql_31 : vt_ml.getD 31 0 = 6 := by decide +kernel
theorem q_11_0 : js_I 11 0 = some (.aload_n 0, 1) := by decide +kernel
theorem q_11_1 : js_I 11 1 = some (.getfield 24, 3) := by decide +kernel
theorem q_11_4 : js_I 11 4 = some (.lload_n 1, 1) := by decide +kernel
theorem q_11_5 : js_I 11 5 = some (.lload_n 3, 1) := by decide +kernel
theorem q_11_6 : js_I 11 6 = some (.invokevirtual 54, 3) := by decide +kernel
theorem q_11_9 : js_I 11 9 = some (.ireturn, 1) := by decide +kernel
theorem q_12_0 : js_I 12 0 = some (.lload_n 1, 1) := by decide +kernel
theorem q_12_1 : js_I 12 1 = some (.invokestatic 25, 3) := by decide +kernel
theorem q_12_4 : js_I 12 4 = some (.istore 5, 2) := by decide +kernel
theorem q_12_6 : js_I 12 6 = some (.lload_n 3, 1) := by decide +kernel
theorem q_12_7 : js_I 12 7 = some (.invokestatic 25, 3) := by decide +kernel
theorem q_12_10 : js_I 12 10 = some (.istore 6, 2) := by decide +kernel
theorem q_12_12 : js_I 12 12 = some (.iload 5, 2) := by decide +kernel
theorem q_12_14 : js_I 12 14 = some (.ifCond .lt 23, 3) := by decide +kernel
theorem q_12_37 : js_I 12 37 = some (.iconst (-1), 1) := by decide +kernel
theorem q_12_38 : js_I 12 38 = some (.ireturn, 1) := by decide +kernel
theorem q_12_17 : js_I 12 17 = some (.iload 6, 2) := by decide +kernel
theorem q_12_19 : js_I 12 19 = some (.ifCond .lt 18, 3) := by decide +kernel
theorem q_12_22 : js_I 12 22 = some (.aload_n 0, 1) := by decide +kernel
theorem q_12_23 : js_I 12 23 = some (.getfield 29, 3) := by decide +kernel
theorem q_12_26 : js_I 12 26 = some (.iload 5, 2) := by decide +kernel
theorem q_12_28 : js_I 12 28 = some (.iadd, 1) := by decide +kernel
theorem q_12_29 : js_I 12 29 = some (.iload 6, 2) := by decide +kernel
theorem q_12_31 : js_I 12 31 = some (.iadd, 1) := by decide +kernel
theorem q_12_32 : js_I 12 32 = some (.ldc 33, 2) := by decide +kernel
theorem q_12_34 : js_I 12 34 = some (.if_icmp .le 5, 3) := by decide +kernel
theorem q_12_39 : js_I 12 39 = some (.aload_n 0, 1) := by decide +kernel
theorem q_12_40 : js_I 12 40 = some (.aload_n 0, 1) := by decide +kernel
theorem q_12_41 : js_I 12 41 = some (.getfield 29, 3) := by decide +kernel
theorem q_12_44 : js_I 12 44 = some (.iload 5, 2) := by decide +kernel
theorem q_12_46 : js_I 12 46 = some (.iadd, 1) := by decide +kernel
theorem q_12_47 : js_I 12 47 = some (.iload 6, 2) := by decide +kernel
theorem q_12_49 : js_I 12 49 = some (.iadd, 1) := by decide +kernel
theorem q_12_50 : js_I 12 50 = some (.invokevirtual 34, 3) := by decide +kernel
theorem q_12_53 : js_I 12 53 = some (.aload_n 0, 1) := by decide +kernel
theorem q_12_54 : js_I 12 54 = some (.lload_n 1, 1) := by decide +kernel
theorem q_12_55 : js_I 12 55 = some (.invokevirtual 38, 3) := by decide +kernel
theorem q_12_58 : js_I 12 58 = some (.aload_n 0, 1) := by decide +kernel
theorem q_12_59 : js_I 12 59 = some (.lload_n 3, 1) := by decide +kernel
theorem q_12_60 : js_I 12 60 = some (.invokevirtual 38, 3) := by decide +kernel
theorem q_12_63 : js_I 12 63 = some (.aload_n 0, 1) := by decide +kernel
theorem q_12_64 : js_I 12 64 = some (.getfield 29, 3) := by decide +kernel
theorem q_12_67 : js_I 12 67 = some (.ireturn, 1) := by decide +kernel
theorem q_13_0 : js_I 13 0 = some (.iconst 0, 1) := by decide +kernel
theorem q_13_1 : js_I 13 1 = some (.istore_n 2, 1) := by decide +kernel
theorem q_13_2 : js_I 13 2 = some (.bipush 56, 2) := by decide +kernel
theorem q_13_4 : js_I 13 4 = some (.istore_n 3, 1) := by decide +kernel
theorem q_13_5 : js_I 13 5 = some (.iload_n 3, 1) := by decide +kernel
theorem q_13_6 : js_I 13 6 = some (.ifCond .lt 50, 3) := by decide +kernel
theorem q_13_56 : js_I 13 56 = some (.iload_n 2, 1) := by decide +kernel
theorem q_13_57 : js_I 13 57 = some (.ireturn, 1) := by decide +kernel
theorem q_13_9 : js_I 13 9 = some (.lload_n 0, 1) := by decide +kernel
theorem q_13_10 : js_I 13 10 = some (.iload_n 3, 1) := by decide +kernel
theorem q_13_11 : js_I 13 11 = some (.lushr, 1) := by decide +kernel
theorem q_13_12 : js_I 13 12 = some (.l2i, 1) := by decide +kernel
theorem q_13_13 : js_I 13 13 = some (.sipush 255, 3) := by decide +kernel
theorem q_13_16 : js_I 13 16 = some (.iand, 1) := by decide +kernel
theorem q_13_17 : js_I 13 17 = some (.istore 4, 2) := by decide +kernel
theorem q_13_19 : js_I 13 19 = some (.iload 4, 2) := by decide +kernel
theorem q_13_21 : js_I 13 21 = some (.ifCond .eq 29, 3) := by decide +kernel
theorem q_13_24 : js_I 13 24 = some (.iload 4, 2) := by decide +kernel
theorem q_13_26 : js_I 13 26 = some (.bipush 10, 2) := by decide +kernel
theorem q_13_28 : js_I 13 28 = some (.if_icmp .eq 19, 3) := by decide +kernel
theorem q_13_31 : js_I 13 31 = some (.iload 4, 2) := by decide +kernel
theorem q_13_33 : js_I 13 33 = some (.bipush 32, 2) := by decide +kernel
theorem q_13_35 : js_I 13 35 = some (.if_icmp .lt 10, 3) := by decide +kernel
theorem q_13_45 : js_I 13 45 = some (.iconst (-1), 1) := by decide +kernel
theorem q_13_46 : js_I 13 46 = some (.ireturn, 1) := by decide +kernel
theorem q_13_38 : js_I 13 38 = some (.iload 4, 2) := by decide +kernel
theorem q_13_40 : js_I 13 40 = some (.bipush 126, 2) := by decide +kernel
theorem q_13_42 : js_I 13 42 = some (.if_icmp .le 5, 3) := by decide +kernel
theorem q_13_47 : js_I 13 47 = some (.iinc 2 1, 3) := by decide +kernel
theorem q_13_50 : js_I 13 50 = some (.iinc 3 (-8), 3) := by decide +kernel
theorem q_13_53 : js_I 13 53 = some (.goto (-48), 3) := by decide +kernel
theorem q_14_0 : js_I 14 0 = some (.iload_n 1, 1) := by decide +kernel
theorem q_14_1 : js_I 14 1 = some (.aload_n 0, 1) := by decide +kernel
theorem q_14_2 : js_I 14 2 = some (.getfield 15, 3) := by decide +kernel
theorem q_14_5 : js_I 14 5 = some (.arraylength, 1) := by decide +kernel
theorem q_14_6 : js_I 14 6 = some (.if_icmp .le 25, 3) := by decide +kernel
theorem q_14_9 : js_I 14 9 = some (.aload_n 0, 1) := by decide +kernel
theorem q_14_10 : js_I 14 10 = some (.aload_n 0, 1) := by decide +kernel
theorem q_14_11 : js_I 14 11 = some (.getfield 15, 3) := by decide +kernel
theorem q_14_14 : js_I 14 14 = some (.iload_n 1, 1) := by decide +kernel
theorem q_14_15 : js_I 14 15 = some (.iconst 2, 1) := by decide +kernel
theorem q_14_16 : js_I 14 16 = some (.aload_n 0, 1) := by decide +kernel
theorem q_14_17 : js_I 14 17 = some (.getfield 15, 3) := by decide +kernel
theorem q_14_20 : js_I 14 20 = some (.arraylength, 1) := by decide +kernel
theorem q_14_21 : js_I 14 21 = some (.imul, 1) := by decide +kernel
theorem q_14_22 : js_I 14 22 = some (.invokestatic 42, 3) := by decide +kernel
theorem q_14_25 : js_I 14 25 = some (.invokestatic 48, 3) := by decide +kernel
theorem q_14_31 : js_I 14 31 = some (.return_, 1) := by decide +kernel
theorem q_15_0 : js_I 15 0 = some (.bipush 56, 2) := by decide +kernel
theorem q_15_2 : js_I 15 2 = some (.istore_n 3, 1) := by decide +kernel
theorem q_15_3 : js_I 15 3 = some (.iload_n 3, 1) := by decide +kernel
theorem q_15_4 : js_I 15 4 = some (.ifCond .lt 58, 3) := by decide +kernel
theorem q_15_62 : js_I 15 62 = some (.return_, 1) := by decide +kernel
theorem q_15_7 : js_I 15 7 = some (.lload_n 1, 1) := by decide +kernel
theorem q_15_8 : js_I 15 8 = some (.iload_n 3, 1) := by decide +kernel
theorem q_15_9 : js_I 15 9 = some (.lushr, 1) := by decide +kernel
theorem q_15_10 : js_I 15 10 = some (.l2i, 1) := by decide +kernel
theorem q_15_11 : js_I 15 11 = some (.sipush 255, 3) := by decide +kernel
theorem q_15_14 : js_I 15 14 = some (.iand, 1) := by decide +kernel
theorem q_15_15 : js_I 15 15 = some (.istore 4, 2) := by decide +kernel
theorem q_15_17 : js_I 15 17 = some (.iload 4, 2) := by decide +kernel
theorem q_15_19 : js_I 15 19 = some (.ifCond .eq 37, 3) := by decide +kernel
theorem q_15_22 : js_I 15 22 = some (.aload_n 0, 1) := by decide +kernel
theorem q_15_23 : js_I 15 23 = some (.getfield 29, 3) := by decide +kernel
theorem q_15_26 : js_I 15 26 = some (.aload_n 0, 1) := by decide +kernel
theorem q_15_27 : js_I 15 27 = some (.getfield 15, 3) := by decide +kernel
theorem q_15_30 : js_I 15 30 = some (.arraylength, 1) := by decide +kernel
theorem q_15_31 : js_I 15 31 = some (.if_icmp .ge 25, 3) := by decide +kernel
theorem q_15_34 : js_I 15 34 = some (.aload_n 0, 1) := by decide +kernel
theorem q_15_35 : js_I 15 35 = some (.getfield 15, 3) := by decide +kernel
theorem q_15_38 : js_I 15 38 = some (.aload_n 0, 1) := by decide +kernel
theorem q_15_39 : js_I 15 39 = some (.getfield 29, 3) := by decide +kernel
theorem q_15_42 : js_I 15 42 = some (.iload 4, 2) := by decide +kernel
theorem q_15_44 : js_I 15 44 = some (.i2b, 1) := by decide +kernel
theorem q_15_45 : js_I 15 45 = some (.bastore, 1) := by decide +kernel
theorem q_15_46 : js_I 15 46 = some (.aload_n 0, 1) := by decide +kernel
theorem q_15_47 : js_I 15 47 = some (.dup, 1) := by decide +kernel
theorem q_15_48 : js_I 15 48 = some (.getfield 29, 3) := by decide +kernel
theorem q_15_51 : js_I 15 51 = some (.iconst 1, 1) := by decide +kernel
theorem q_15_52 : js_I 15 52 = some (.iadd, 1) := by decide +kernel
theorem q_15_53 : js_I 15 53 = some (.putfield 29, 3) := by decide +kernel
theorem q_15_56 : js_I 15 56 = some (.iinc 3 (-8), 3) := by decide +kernel
theorem q_15_59 : js_I 15 59 = some (.goto (-56), 3) := by decide +kernel
theorem q_16_0 : js_I 16 0 = some (.aload_n 0, 1) := by decide +kernel
theorem q_16_1 : js_I 16 1 = some (.getfield 27, 3) := by decide +kernel
theorem q_16_4 : js_I 16 4 = some (.invokevirtual 44, 3) := by decide +kernel
theorem q_16_7 : js_I 16 7 = some (.aload_n 0, 1) := by decide +kernel
theorem q_16_8 : js_I 16 8 = some (.getfield 40, 3) := by decide +kernel
theorem q_16_11 : js_I 16 11 = some (.invokevirtual 47, 3) := by decide +kernel
theorem q_16_14 : js_I 16 14 = some (.aload_n 0, 1) := by decide +kernel
theorem q_16_15 : js_I 16 15 = some (.getfield 17, 3) := by decide +kernel
theorem q_16_18 : js_I 16 18 = some (.invokevirtual 48, 3) := by decide +kernel
theorem q_16_21 : js_I 16 21 = some (.iconst 0, 1) := by decide +kernel
theorem q_16_22 : js_I 16 22 = some (.istore_n 1, 1) := by decide +kernel
theorem q_16_23 : js_I 16 23 = some (.iload_n 1, 1) := by decide +kernel
theorem q_16_24 : js_I 16 24 = some (.ldc 53, 2) := by decide +kernel
theorem q_16_26 : js_I 16 26 = some (.if_icmp .ge 132, 3) := by decide +kernel
theorem q_16_29 : js_I 16 29 = some (.aload_n 0, 1) := by decide +kernel
theorem q_16_30 : js_I 16 30 = some (.getfield 17, 3) := by decide +kernel
theorem q_16_33 : js_I 16 33 = some (.getfield 54, 3) := by decide +kernel
theorem q_16_36 : js_I 16 36 = some (.sipush 214, 3) := by decide +kernel
theorem q_16_39 : js_I 16 39 = some (.if_icmp .eq 119, 3) := by decide +kernel
theorem q_16_42 : js_I 16 42 = some (.aload_n 0, 1) := by decide +kernel
theorem q_16_43 : js_I 16 43 = some (.getfield 17, 3) := by decide +kernel
theorem q_16_46 : js_I 16 46 = some (.getfield 54, 3) := by decide +kernel
theorem q_16_49 : js_I 16 49 = some (.tableswitch 88 200 206 #[43, 50, 57, 65, 73, 88, 81], 43) := by decide +kernel
theorem q_16_92 : js_I 16 92 = some (.aload_n 0, 1) := by decide +kernel
theorem q_16_93 : js_I 16 93 = some (.invokevirtual 57, 3) := by decide +kernel
theorem q_16_96 : js_I 16 96 = some (.goto 56, 3) := by decide +kernel
theorem q_16_99 : js_I 16 99 = some (.aload_n 0, 1) := by decide +kernel
theorem q_16_100 : js_I 16 100 = some (.invokevirtual 60, 3) := by decide +kernel
theorem q_16_103 : js_I 16 103 = some (.goto 49, 3) := by decide +kernel
theorem q_16_106 : js_I 16 106 = some (.aload_n 0, 1) := by decide +kernel
theorem q_16_107 : js_I 16 107 = some (.iconst 1, 1) := by decide +kernel
theorem q_16_108 : js_I 16 108 = some (.invokevirtual 63, 3) := by decide +kernel
theorem q_16_111 : js_I 16 111 = some (.goto 41, 3) := by decide +kernel
theorem q_16_114 : js_I 16 114 = some (.aload_n 0, 1) := by decide +kernel
theorem q_16_115 : js_I 16 115 = some (.iconst 2, 1) := by decide +kernel
theorem q_16_116 : js_I 16 116 = some (.invokevirtual 63, 3) := by decide +kernel
theorem q_16_119 : js_I 16 119 = some (.goto 33, 3) := by decide +kernel
theorem q_16_122 : js_I 16 122 = some (.aload_n 0, 1) := by decide +kernel
theorem q_16_123 : js_I 16 123 = some (.iconst 3, 1) := by decide +kernel
theorem q_16_124 : js_I 16 124 = some (.invokevirtual 63, 3) := by decide +kernel
theorem q_16_127 : js_I 16 127 = some (.goto 25, 3) := by decide +kernel
theorem q_16_130 : js_I 16 130 = some (.aload_n 0, 1) := by decide +kernel
theorem q_16_131 : js_I 16 131 = some (.invokevirtual 67, 3) := by decide +kernel
theorem q_16_134 : js_I 16 134 = some (.goto 18, 3) := by decide +kernel
theorem q_16_137 : js_I 16 137 = some (.aload_n 0, 1) := by decide +kernel
theorem q_16_138 : js_I 16 138 = some (.getfield 17, 3) := by decide +kernel
theorem q_16_141 : js_I 16 141 = some (.iconst 1, 1) := by decide +kernel
theorem q_16_142 : js_I 16 142 = some (.aload_n 0, 1) := by decide +kernel
theorem q_16_143 : js_I 16 143 = some (.getfield 17, 3) := by decide +kernel
theorem q_16_146 : js_I 16 146 = some (.getfield 70, 3) := by decide +kernel
theorem q_16_149 : js_I 16 149 = some (.invokevirtual 73, 3) := by decide +kernel
theorem q_16_152 : js_I 16 152 = some (.iinc 1 1, 3) := by decide +kernel
theorem q_16_155 : js_I 16 155 = some (.goto (-132), 3) := by decide +kernel
theorem q_16_158 : js_I 16 158 = some (.aload_n 0, 1) := by decide +kernel
theorem q_16_159 : js_I 16 159 = some (.invokevirtual 77, 3) := by decide +kernel
theorem q_16_162 : js_I 16 162 = some (.return_, 1) := by decide +kernel
theorem q_17_0 : js_I 17 0 = some (.aload_n 0, 1) := by decide +kernel
theorem q_17_1 : js_I 17 1 = some (.getfield 12, 3) := by decide +kernel
theorem q_17_4 : js_I 17 4 = some (.invokevirtual 28, 3) := by decide +kernel
theorem q_17_7 : js_I 17 7 = some (.aload_n 0, 1) := by decide +kernel
theorem q_17_8 : js_I 17 8 = some (.iconst 0, 1) := by decide +kernel
theorem q_17_9 : js_I 17 9 = some (.putfield 31, 3) := by decide +kernel
theorem q_17_12 : js_I 17 12 = some (.aload_n 0, 1) := by decide +kernel
theorem q_17_13 : js_I 17 13 = some (.iconst 0, 1) := by decide +kernel
theorem q_17_14 : js_I 17 14 = some (.putfield 35, 3) := by decide +kernel
theorem q_17_17 : js_I 17 17 = some (.aload_n 0, 1) := by decide +kernel
theorem q_17_18 : js_I 17 18 = some (.iconst (-1), 1) := by decide +kernel
theorem q_17_19 : js_I 17 19 = some (.putfield 38, 3) := by decide +kernel
theorem q_17_22 : js_I 17 22 = some (.aload_n 0, 1) := by decide +kernel
theorem q_17_23 : js_I 17 23 = some (.iconst 0, 1) := by decide +kernel
theorem q_17_24 : js_I 17 24 = some (.putfield 41, 3) := by decide +kernel
theorem q_17_27 : js_I 17 27 = some (.aload_n 0, 1) := by decide +kernel
theorem q_17_28 : js_I 17 28 = some (.iconst 0, 1) := by decide +kernel
theorem q_17_29 : js_I 17 29 = some (.putfield 44, 3) := by decide +kernel
theorem q_17_32 : js_I 17 32 = some (.aload_n 0, 1) := by decide +kernel
theorem q_17_33 : js_I 17 33 = some (.iconst 0, 1) := by decide +kernel
theorem q_17_34 : js_I 17 34 = some (.putfield 47, 3) := by decide +kernel
theorem q_17_37 : js_I 17 37 = some (.return_, 1) := by decide +kernel
theorem q_18_0 : js_I 18 0 = some (.aload_n 0, 1) := by decide +kernel
theorem q_18_1 : js_I 18 1 = some (.iconst 0, 1) := by decide +kernel
theorem q_18_2 : js_I 18 2 = some (.putfield 42, 3) := by decide +kernel
theorem q_18_5 : js_I 18 5 = some (.aload_n 0, 1) := by decide +kernel
theorem q_18_6 : js_I 18 6 = some (.iconst 0, 1) := by decide +kernel
theorem q_18_7 : js_I 18 7 = some (.putfield 46, 3) := by decide +kernel
theorem q_18_10 : js_I 18 10 = some (.aload_n 0, 1) := by decide +kernel
theorem q_18_11 : js_I 18 11 = some (.invokevirtual 49, 3) := by decide +kernel
theorem q_18_14 : js_I 18 14 = some (.return_, 1) := by decide +kernel
theorem q_19_0 : js_I 19 0 = some (.aload_n 0, 1) := by decide +kernel
theorem q_19_1 : js_I 19 1 = some (.iconst 0, 1) := by decide +kernel
theorem q_19_2 : js_I 19 2 = some (.putfield 52, 3) := by decide +kernel
theorem q_19_5 : js_I 19 5 = some (.aload_n 0, 1) := by decide +kernel
theorem q_19_6 : js_I 19 6 = some (.iconst 0, 1) := by decide +kernel
theorem q_19_7 : js_I 19 7 = some (.putfield 55, 3) := by decide +kernel
theorem q_19_10 : js_I 19 10 = some (.aload_n 0, 1) := by decide +kernel
theorem q_19_11 : js_I 19 11 = some (.iconst 0, 1) := by decide +kernel
theorem q_19_12 : js_I 19 12 = some (.putfield 58, 3) := by decide +kernel
theorem q_19_15 : js_I 19 15 = some (.aload_n 0, 1) := by decide +kernel
theorem q_19_16 : js_I 19 16 = some (.iconst 0, 1) := by decide +kernel
theorem q_19_17 : js_I 19 17 = some (.putfield 61, 3) := by decide +kernel
theorem q_19_20 : js_I 19 20 = some (.aload_n 0, 1) := by decide +kernel
theorem q_19_21 : js_I 19 21 = some (.iconst 0, 1) := by decide +kernel
theorem q_19_22 : js_I 19 22 = some (.putfield 64, 3) := by decide +kernel
theorem q_19_25 : js_I 19 25 = some (.return_, 1) := by decide +kernel
theorem q_20_0 : js_I 20 0 = some (.aload_n 0, 1) := by decide +kernel
theorem q_20_1 : js_I 20 1 = some (.iconst (-1), 1) := by decide +kernel
theorem q_20_2 : js_I 20 2 = some (.putfield 39, 3) := by decide +kernel
theorem q_20_5 : js_I 20 5 = some (.aload_n 0, 1) := by decide +kernel
theorem q_20_6 : js_I 20 6 = some (.getfield 35, 3) := by decide +kernel
theorem q_20_9 : js_I 20 9 = some (.invokevirtual 43, 3) := by decide +kernel
theorem q_20_12 : js_I 20 12 = some (.return_, 1) := by decide +kernel
theorem q_21_0 : js_I 21 0 = some (.aload_n 0, 1) := by decide +kernel
theorem q_21_1 : js_I 21 1 = some (.iconst 0, 1) := by decide +kernel
theorem q_21_2 : js_I 21 2 = some (.putfield 52, 3) := by decide +kernel
theorem q_21_5 : js_I 21 5 = some (.return_, 1) := by decide +kernel
theorem q_22_0 : js_I 22 0 = some (.aload_n 0, 1) := by decide +kernel
theorem q_22_1 : js_I 22 1 = some (.getfield 18, 3) := by decide +kernel
theorem q_22_4 : js_I 22 4 = some (.arraylength, 1) := by decide +kernel
theorem q_22_5 : js_I 22 5 = some (.aload_n 0, 1) := by decide +kernel
theorem q_22_6 : js_I 22 6 = some (.getfield 29, 3) := by decide +kernel
theorem q_22_9 : js_I 22 9 = some (.if_icmp .gt 29, 3) := by decide +kernel
theorem q_22_38 : js_I 22 38 = some (.aload_n 0, 1) := by decide +kernel
theorem q_22_39 : js_I 22 39 = some (.iconst 0, 1) := by decide +kernel
theorem q_22_40 : js_I 22 40 = some (.putfield 54, 3) := by decide +kernel
theorem q_22_43 : js_I 22 43 = some (.iconst 0, 1) := by decide +kernel
theorem q_22_44 : js_I 22 44 = some (.istore_n 1, 1) := by decide +kernel
theorem q_22_45 : js_I 22 45 = some (.iconst 0, 1) := by decide +kernel
theorem q_22_46 : js_I 22 46 = some (.istore_n 2, 1) := by decide +kernel
theorem q_22_12 : js_I 22 12 = some (.aload_n 0, 1) := by decide +kernel
theorem q_22_13 : js_I 22 13 = some (.aload_n 0, 1) := by decide +kernel
theorem q_22_14 : js_I 22 14 = some (.getfield 15, 3) := by decide +kernel
theorem q_22_17 : js_I 22 17 = some (.arraylength, 1) := by decide +kernel
theorem q_22_18 : js_I 22 18 = some (.iconst 1, 1) := by decide +kernel
theorem q_22_19 : js_I 22 19 = some (.iadd, 1) := by decide +kernel
theorem q_22_20 : js_I 22 20 = some (.newarray .byte, 2) := by decide +kernel
theorem q_22_47 : js_I 22 47 = some (.iload_n 2, 1) := by decide +kernel
theorem q_22_48 : js_I 22 48 = some (.ldc 33, 2) := by decide +kernel
theorem q_22_50 : js_I 22 50 = some (.if_icmp .ge 39, 3) := by decide +kernel
theorem q_22_53 : js_I 22 53 = some (.iload_n 1, 1) := by decide +kernel
theorem q_22_54 : js_I 22 54 = some (.aload_n 0, 1) := by decide +kernel
theorem q_22_55 : js_I 22 55 = some (.getfield 29, 3) := by decide +kernel
theorem q_22_58 : js_I 22 58 = some (.if_icmp .ge 31, 3) := by decide +kernel
theorem q_22_61 : js_I 22 61 = some (.aload_n 0, 1) := by decide +kernel
theorem q_22_62 : js_I 22 62 = some (.iload_n 1, 1) := by decide +kernel
theorem q_22_63 : js_I 22 63 = some (.invokevirtual 57, 3) := by decide +kernel
theorem q_22_66 : js_I 22 66 = some (.istore_n 3, 1) := by decide +kernel
theorem q_22_67 : js_I 22 67 = some (.aload_n 0, 1) := by decide +kernel
theorem q_22_68 : js_I 22 68 = some (.aload_n 0, 1) := by decide +kernel
theorem q_22_69 : js_I 22 69 = some (.iload_n 1, 1) := by decide +kernel
theorem q_22_70 : js_I 22 70 = some (.iload_n 3, 1) := by decide +kernel
theorem q_22_71 : js_I 22 71 = some (.invokevirtual 61, 3) := by decide +kernel
theorem q_22_74 : js_I 22 74 = some (.iload_n 1, 1) := by decide +kernel
theorem q_22_75 : js_I 22 75 = some (.iload_n 3, 1) := by decide +kernel
theorem q_22_76 : js_I 22 76 = some (.iload_n 1, 1) := by decide +kernel
theorem q_22_77 : js_I 22 77 = some (.isub, 1) := by decide +kernel
theorem q_22_78 : js_I 22 78 = some (.invokevirtual 64, 3) := by decide +kernel
theorem q_22_81 : js_I 22 81 = some (.iload_n 3, 1) := by decide +kernel
theorem q_22_82 : js_I 22 82 = some (.istore_n 1, 1) := by decide +kernel
theorem q_22_83 : js_I 22 83 = some (.iinc 2 1, 3) := by decide +kernel
theorem q_22_86 : js_I 22 86 = some (.goto (-39), 3) := by decide +kernel
theorem q_22_89 : js_I 22 89 = some (.aload_n 0, 1) := by decide +kernel
theorem q_22_90 : js_I 22 90 = some (.iconst 0, 1) := by decide +kernel
theorem q_22_91 : js_I 22 91 = some (.aload_n 0, 1) := by decide +kernel
theorem q_22_92 : js_I 22 92 = some (.getfield 29, 3) := by decide +kernel
theorem q_22_95 : js_I 22 95 = some (.iconst 0, 1) := by decide +kernel
theorem q_22_96 : js_I 22 96 = some (.invokevirtual 64, 3) := by decide +kernel
theorem q_22_99 : js_I 22 99 = some (.aload_n 0, 1) := by decide +kernel
theorem q_22_100 : js_I 22 100 = some (.iconst 0, 1) := by decide +kernel
theorem q_22_101 : js_I 22 101 = some (.putfield 68, 3) := by decide +kernel
theorem q_22_104 : js_I 22 104 = some (.aload_n 0, 1) := by decide +kernel
theorem q_22_105 : js_I 22 105 = some (.iconst 0, 1) := by decide +kernel
theorem q_22_106 : js_I 22 106 = some (.putfield 71, 3) := by decide +kernel
theorem q_22_109 : js_I 22 109 = some (.aload_n 0, 1) := by decide +kernel
theorem q_22_110 : js_I 22 110 = some (.iconst (-1), 1) := by decide +kernel
theorem q_22_111 : js_I 22 111 = some (.putfield 74, 3) := by decide +kernel
theorem q_22_114 : js_I 22 114 = some (.aload_n 0, 1) := by decide +kernel
theorem q_22_115 : js_I 22 115 = some (.invokevirtual 77, 3) := by decide +kernel
theorem q_22_118 : js_I 22 118 = some (.return_, 1) := by decide +kernel
theorem q_23_0 : js_I 23 0 = some (.iload_n 1, 1) := by decide +kernel
theorem q_23_1 : js_I 23 1 = some (.iconst 1, 1) := by decide +kernel
theorem q_23_2 : js_I 23 2 = some (.iadd, 1) := by decide +kernel
theorem q_23_3 : js_I 23 3 = some (.istore_n 2, 1) := by decide +kernel
theorem q_23_4 : js_I 23 4 = some (.aload_n 0, 1) := by decide +kernel
theorem q_23_5 : js_I 23 5 = some (.iload_n 1, 1) := by decide +kernel
theorem q_23_6 : js_I 23 6 = some (.invokevirtual 83, 3) := by decide +kernel
theorem q_23_9 : js_I 23 9 = some (.invokestatic 86, 3) := by decide +kernel
theorem q_23_12 : js_I 23 12 = some (.ifCond .eq 39, 3) := by decide +kernel
theorem q_23_51 : js_I 23 51 = some (.aload_n 0, 1) := by decide +kernel
theorem q_23_52 : js_I 23 52 = some (.iload_n 1, 1) := by decide +kernel
theorem q_23_53 : js_I 23 53 = some (.invokevirtual 83, 3) := by decide +kernel
theorem q_23_15 : js_I 23 15 = some (.iload_n 2, 1) := by decide +kernel
theorem q_23_16 : js_I 23 16 = some (.aload_n 0, 1) := by decide +kernel
theorem q_23_17 : js_I 23 17 = some (.getfield 29, 3) := by decide +kernel
theorem q_23_20 : js_I 23 20 = some (.if_icmp .ge 119, 3) := by decide +kernel
theorem q_23_23 : js_I 23 23 = some (.aload_n 0, 1) := by decide +kernel
theorem q_23_24 : js_I 23 24 = some (.iload_n 2, 1) := by decide +kernel
theorem q_23_25 : js_I 23 25 = some (.invokevirtual 83, 3) := by decide +kernel
theorem q_23_139 : js_I 23 139 = some (.iload_n 2, 1) := by decide +kernel
theorem q_23_140 : js_I 23 140 = some (.ireturn, 1) := by decide +kernel
theorem q_23_28 : js_I 23 28 = some (.invokestatic 86, 3) := by decide +kernel
theorem q_23_31 : js_I 23 31 = some (.ifCond .ne 14, 3) := by decide +kernel
theorem q_23_34 : js_I 23 34 = some (.aload_n 0, 1) := by decide +kernel
theorem q_23_35 : js_I 23 35 = some (.iload_n 2, 1) := by decide +kernel
theorem q_23_36 : js_I 23 36 = some (.invokevirtual 83, 3) := by decide +kernel
theorem q_23_39 : js_I 23 39 = some (.invokestatic 90, 3) := by decide +kernel
theorem q_23_42 : js_I 23 42 = some (.ifCond .eq 97, 3) := by decide +kernel
theorem q_23_45 : js_I 23 45 = some (.iinc 2 1, 3) := by decide +kernel
theorem q_23_48 : js_I 23 48 = some (.goto (-33), 3) := by decide +kernel
theorem q_23_56 : js_I 23 56 = some (.invokestatic 90, 3) := by decide +kernel
theorem q_23_59 : js_I 23 59 = some (.ifCond .eq 28, 3) := by decide +kernel
theorem q_23_87 : js_I 23 87 = some (.aload_n 0, 1) := by decide +kernel
theorem q_23_88 : js_I 23 88 = some (.iload_n 1, 1) := by decide +kernel
theorem q_23_89 : js_I 23 89 = some (.invokevirtual 93, 3) := by decide +kernel
theorem q_23_62 : js_I 23 62 = some (.iload_n 2, 1) := by decide +kernel
theorem q_23_63 : js_I 23 63 = some (.aload_n 0, 1) := by decide +kernel
theorem q_23_64 : js_I 23 64 = some (.getfield 29, 3) := by decide +kernel
theorem q_23_67 : js_I 23 67 = some (.if_icmp .ge 72, 3) := by decide +kernel
theorem q_23_70 : js_I 23 70 = some (.aload_n 0, 1) := by decide +kernel
theorem q_23_71 : js_I 23 71 = some (.iload_n 2, 1) := by decide +kernel
theorem q_23_72 : js_I 23 72 = some (.invokevirtual 83, 3) := by decide +kernel
theorem q_23_75 : js_I 23 75 = some (.invokestatic 90, 3) := by decide +kernel
theorem q_23_78 : js_I 23 78 = some (.ifCond .eq 61, 3) := by decide +kernel
theorem q_23_81 : js_I 23 81 = some (.iinc 2 1, 3) := by decide +kernel
theorem q_23_84 : js_I 23 84 = some (.goto (-22), 3) := by decide +kernel
theorem q_23_92 : js_I 23 92 = some (.ifCond .eq 27, 3) := by decide +kernel
theorem q_23_119 : js_I 23 119 = some (.aload_n 0, 1) := by decide +kernel
theorem q_23_120 : js_I 23 120 = some (.iload_n 1, 1) := by decide +kernel
theorem q_23_121 : js_I 23 121 = some (.invokevirtual 83, 3) := by decide +kernel
theorem q_23_95 : js_I 23 95 = some (.iload_n 2, 1) := by decide +kernel
theorem q_23_96 : js_I 23 96 = some (.aload_n 0, 1) := by decide +kernel
theorem q_23_97 : js_I 23 97 = some (.getfield 29, 3) := by decide +kernel
theorem q_23_100 : js_I 23 100 = some (.if_icmp .ge 39, 3) := by decide +kernel
theorem q_23_103 : js_I 23 103 = some (.aload_n 0, 1) := by decide +kernel
theorem q_23_104 : js_I 23 104 = some (.iload_n 2, 1) := by decide +kernel
theorem q_23_105 : js_I 23 105 = some (.invokevirtual 83, 3) := by decide +kernel
theorem q_23_108 : js_I 23 108 = some (.bipush 10, 2) := by decide +kernel
theorem q_23_110 : js_I 23 110 = some (.if_icmp .eq 29, 3) := by decide +kernel
theorem q_23_113 : js_I 23 113 = some (.iinc 2 1, 3) := by decide +kernel
theorem q_23_116 : js_I 23 116 = some (.goto (-21), 3) := by decide +kernel
theorem q_23_124 : js_I 23 124 = some (.aload_n 0, 1) := by decide +kernel
theorem q_23_125 : js_I 23 125 = some (.iload_n 2, 1) := by decide +kernel
theorem q_23_126 : js_I 23 126 = some (.invokevirtual 83, 3) := by decide +kernel
theorem q_23_129 : js_I 23 129 = some (.invokestatic 96, 3) := by decide +kernel
theorem q_23_132 : js_I 23 132 = some (.iconst 1, 1) := by decide +kernel
theorem q_23_133 : js_I 23 133 = some (.if_icmp .eq 6, 3) := by decide +kernel
theorem q_23_136 : js_I 23 136 = some (.iinc 2 1, 3) := by decide +kernel
theorem q_24_0 : js_I 24 0 = some (.iload_n 1, 1) := by decide +kernel
theorem q_24_1 : js_I 24 1 = some (.ifCond .lt 20, 3) := by decide +kernel
theorem q_24_21 : js_I 24 21 = some (.iconst 0, 1) := by decide +kernel
theorem q_24_22 : js_I 24 22 = some (.ireturn, 1) := by decide +kernel
theorem q_24_4 : js_I 24 4 = some (.iload_n 1, 1) := by decide +kernel
theorem q_24_5 : js_I 24 5 = some (.aload_n 0, 1) := by decide +kernel
theorem q_24_6 : js_I 24 6 = some (.getfield 29, 3) := by decide +kernel
theorem q_24_9 : js_I 24 9 = some (.if_icmp .ge 12, 3) := by decide +kernel
theorem q_24_12 : js_I 24 12 = some (.aload_n 0, 1) := by decide +kernel
theorem q_24_13 : js_I 24 13 = some (.getfield 15, 3) := by decide +kernel
theorem q_24_16 : js_I 24 16 = some (.iload_n 1, 1) := by decide +kernel
theorem q_24_17 : js_I 24 17 = some (.baload, 1) := by decide +kernel
theorem q_24_18 : js_I 24 18 = some (.goto 4, 3) := by decide +kernel
theorem q_25_0 : js_I 25 0 = some (.iload_n 0, 1) := by decide +kernel
theorem q_25_1 : js_I 25 1 = some (.bipush 97, 2) := by decide +kernel
theorem q_25_3 : js_I 25 3 = some (.if_icmp .lt 9, 3) := by decide +kernel
theorem q_25_6 : js_I 25 6 = some (.iload_n 0, 1) := by decide +kernel
theorem q_25_7 : js_I 25 7 = some (.bipush 122, 2) := by decide +kernel
theorem q_25_9 : js_I 25 9 = some (.if_icmp .le 21, 3) := by decide +kernel
theorem q_25_30 : js_I 25 30 = some (.iconst 1, 1) := by decide +kernel
theorem q_25_31 : js_I 25 31 = some (.goto 4, 3) := by decide +kernel
theorem q_25_35 : js_I 25 35 = some (.ireturn, 1) := by decide +kernel
theorem q_25_12 : js_I 25 12 = some (.iload_n 0, 1) := by decide +kernel
theorem q_25_13 : js_I 25 13 = some (.bipush 65, 2) := by decide +kernel
theorem q_25_15 : js_I 25 15 = some (.if_icmp .lt 9, 3) := by decide +kernel
theorem q_25_18 : js_I 25 18 = some (.iload_n 0, 1) := by decide +kernel
theorem q_25_19 : js_I 25 19 = some (.bipush 90, 2) := by decide +kernel
theorem q_25_21 : js_I 25 21 = some (.if_icmp .le 9, 3) := by decide +kernel
theorem q_25_24 : js_I 25 24 = some (.iload_n 0, 1) := by decide +kernel
theorem q_25_25 : js_I 25 25 = some (.bipush 95, 2) := by decide +kernel
theorem q_25_27 : js_I 25 27 = some (.if_icmp .ne 7, 3) := by decide +kernel
theorem q_25_34 : js_I 25 34 = some (.iconst 0, 1) := by decide +kernel
theorem q_26_0 : js_I 26 0 = some (.iload_n 0, 1) := by decide +kernel
theorem q_26_1 : js_I 26 1 = some (.bipush 48, 2) := by decide +kernel
theorem q_26_3 : js_I 26 3 = some (.if_icmp .lt 13, 3) := by decide +kernel
theorem q_26_16 : js_I 26 16 = some (.iconst 0, 1) := by decide +kernel
theorem q_26_17 : js_I 26 17 = some (.ireturn, 1) := by decide +kernel
theorem q_26_6 : js_I 26 6 = some (.iload_n 0, 1) := by decide +kernel
theorem q_26_7 : js_I 26 7 = some (.bipush 57, 2) := by decide +kernel
theorem q_26_9 : js_I 26 9 = some (.if_icmp .gt 7, 3) := by decide +kernel
theorem q_26_12 : js_I 26 12 = some (.iconst 1, 1) := by decide +kernel
theorem q_26_13 : js_I 26 13 = some (.goto 4, 3) := by decide +kernel
theorem q_27_0 : js_I 27 0 = some (.aload_n 0, 1) := by decide +kernel
theorem q_27_1 : js_I 27 1 = some (.iload_n 1, 1) := by decide +kernel
theorem q_27_2 : js_I 27 2 = some (.invokevirtual 83, 3) := by decide +kernel
theorem q_27_5 : js_I 27 5 = some (.bipush 47, 2) := by decide +kernel
theorem q_27_7 : js_I 27 7 = some (.if_icmp .ne 19, 3) := by decide +kernel
theorem q_27_10 : js_I 27 10 = some (.aload_n 0, 1) := by decide +kernel
theorem q_27_11 : js_I 27 11 = some (.iload_n 1, 1) := by decide +kernel
theorem q_27_12 : js_I 27 12 = some (.iconst 1, 1) := by decide +kernel
theorem q_27_13 : js_I 27 13 = some (.iadd, 1) := by decide +kernel
theorem q_27_14 : js_I 27 14 = some (.invokevirtual 83, 3) := by decide +kernel
theorem q_27_26 : js_I 27 26 = some (.iconst 0, 1) := by decide +kernel
theorem q_27_27 : js_I 27 27 = some (.ireturn, 1) := by decide +kernel
theorem q_27_17 : js_I 27 17 = some (.bipush 47, 2) := by decide +kernel
theorem q_27_19 : js_I 27 19 = some (.if_icmp .ne 7, 3) := by decide +kernel
theorem q_27_22 : js_I 27 22 = some (.iconst 1, 1) := by decide +kernel
theorem q_27_23 : js_I 27 23 = some (.goto 4, 3) := by decide +kernel
theorem q_28_0 : js_I 28 0 = some (.iload_n 1, 1) := by decide +kernel
theorem q_28_1 : js_I 28 1 = some (.bipush 61, 2) := by decide +kernel
theorem q_28_3 : js_I 28 3 = some (.if_icmp .ne 63, 3) := by decide +kernel
theorem q_28_6 : js_I 28 6 = some (.iload_n 0, 1) := by decide +kernel
theorem q_28_7 : js_I 28 7 = some (.lookupswitch 57 #[(33, 53), (60, 41), (61, 49), (62, 45)], 41) := by decide +kernel
theorem q_28_66 : js_I 28 66 = some (.iload_n 0, 1) := by decide +kernel
theorem q_28_67 : js_I 28 67 = some (.iload_n 1, 1) := by decide +kernel
theorem q_28_68 : js_I 28 68 = some (.if_icmp .eq 5, 3) := by decide +kernel
theorem q_28_73 : js_I 28 73 = some (.iload_n 0, 1) := by decide +kernel
theorem q_28_74 : js_I 28 74 = some (.bipush 46, 2) := by decide +kernel
theorem q_28_76 : js_I 28 76 = some (.if_icmp .ne 9, 3) := by decide +kernel
theorem q_28_79 : js_I 28 79 = some (.sipush 128, 3) := by decide +kernel
theorem q_28_82 : js_I 28 82 = some (.goto 28, 3) := by decide +kernel
theorem q_28_110 : js_I 28 110 = some (.ireturn, 1) := by decide +kernel
theorem q_28_85 : js_I 28 85 = some (.iload_n 0, 1) := by decide +kernel
theorem q_28_86 : js_I 28 86 = some (.bipush 38, 2) := by decide +kernel
theorem q_28_88 : js_I 28 88 = some (.if_icmp .ne 9, 3) := by decide +kernel
theorem q_28_91 : js_I 28 91 = some (.sipush 133, 3) := by decide +kernel
theorem q_28_94 : js_I 28 94 = some (.goto 16, 3) := by decide +kernel
theorem q_28_97 : js_I 28 97 = some (.iload_n 0, 1) := by decide +kernel
theorem q_28_98 : js_I 28 98 = some (.bipush 124, 2) := by decide +kernel
theorem q_28_100 : js_I 28 100 = some (.if_icmp .ne 9, 3) := by decide +kernel
theorem q_28_103 : js_I 28 103 = some (.sipush 134, 3) := by decide +kernel
theorem q_28_106 : js_I 28 106 = some (.goto 4, 3) := by decide +kernel
theorem q_28_109 : js_I 28 109 = some (.iconst 1, 1) := by decide +kernel
theorem q_28_71 : js_I 28 71 = some (.iconst 1, 1) := by decide +kernel
theorem q_28_72 : js_I 28 72 = some (.ireturn, 1) := by decide +kernel
theorem q_28_48 : js_I 28 48 = some (.sipush 129, 3) := by decide +kernel
theorem q_28_51 : js_I 28 51 = some (.ireturn, 1) := by decide +kernel
theorem q_28_52 : js_I 28 52 = some (.sipush 130, 3) := by decide +kernel
theorem q_28_55 : js_I 28 55 = some (.ireturn, 1) := by decide +kernel
theorem q_28_56 : js_I 28 56 = some (.sipush 131, 3) := by decide +kernel
theorem q_28_59 : js_I 28 59 = some (.ireturn, 1) := by decide +kernel
theorem q_28_60 : js_I 28 60 = some (.sipush 132, 3) := by decide +kernel
theorem q_28_63 : js_I 28 63 = some (.ireturn, 1) := by decide +kernel
theorem q_28_64 : js_I 28 64 = some (.iconst 1, 1) := by decide +kernel
theorem q_28_65 : js_I 28 65 = some (.ireturn, 1) := by decide +kernel
theorem q_29_0 : js_I 29 0 = some (.aload_n 0, 1) := by decide +kernel
theorem q_29_1 : js_I 29 1 = some (.iload_n 1, 1) := by decide +kernel
theorem q_29_2 : js_I 29 2 = some (.invokevirtual 83, 3) := by decide +kernel
theorem q_29_5 : js_I 29 5 = some (.istore_n 3, 1) := by decide +kernel
theorem q_29_6 : js_I 29 6 = some (.iload_n 3, 1) := by decide +kernel
theorem q_29_7 : js_I 29 7 = some (.bipush 32, 2) := by decide +kernel
theorem q_29_9 : js_I 29 9 = some (.if_icmp .eq 17, 3) := by decide +kernel
theorem q_29_26 : js_I 29 26 = some (.iconst 4, 1) := by decide +kernel
theorem q_29_27 : js_I 29 27 = some (.ireturn, 1) := by decide +kernel
theorem q_29_12 : js_I 29 12 = some (.iload_n 3, 1) := by decide +kernel
theorem q_29_13 : js_I 29 13 = some (.bipush 10, 2) := by decide +kernel
theorem q_29_15 : js_I 29 15 = some (.if_icmp .eq 11, 3) := by decide +kernel
theorem q_29_18 : js_I 29 18 = some (.aload_n 0, 1) := by decide +kernel
theorem q_29_19 : js_I 29 19 = some (.iload_n 1, 1) := by decide +kernel
theorem q_29_20 : js_I 29 20 = some (.invokevirtual 93, 3) := by decide +kernel
theorem q_29_23 : js_I 29 23 = some (.ifCond .eq 5, 3) := by decide +kernel
theorem q_29_28 : js_I 29 28 = some (.iload_n 3, 1) := by decide +kernel
theorem q_29_29 : js_I 29 29 = some (.invokestatic 86, 3) := by decide +kernel
theorem q_29_32 : js_I 29 32 = some (.ifCond .eq 24, 3) := by decide +kernel
theorem q_29_56 : js_I 29 56 = some (.iload_n 3, 1) := by decide +kernel
theorem q_29_57 : js_I 29 57 = some (.invokestatic 90, 3) := by decide +kernel
theorem q_29_35 : js_I 29 35 = some (.iload_n 2, 1) := by decide +kernel
theorem q_29_36 : js_I 29 36 = some (.iload_n 1, 1) := by decide +kernel
theorem q_29_37 : js_I 29 37 = some (.isub, 1) := by decide +kernel
theorem q_29_38 : js_I 29 38 = some (.bipush 20, 2) := by decide +kernel
theorem q_29_40 : js_I 29 40 = some (.if_icmp .le 7, 3) := by decide +kernel
theorem q_29_43 : js_I 29 43 = some (.iconst 1, 1) := by decide +kernel
theorem q_29_44 : js_I 29 44 = some (.goto 11, 3) := by decide +kernel
theorem q_29_47 : js_I 29 47 = some (.aload_n 0, 1) := by decide +kernel
theorem q_29_48 : js_I 29 48 = some (.iload_n 1, 1) := by decide +kernel
theorem q_29_49 : js_I 29 49 = some (.iload_n 2, 1) := by decide +kernel
theorem q_29_50 : js_I 29 50 = some (.iload_n 1, 1) := by decide +kernel
theorem q_29_51 : js_I 29 51 = some (.isub, 1) := by decide +kernel
theorem q_29_52 : js_I 29 52 = some (.invokevirtual 99, 3) := by decide +kernel
theorem q_29_55 : js_I 29 55 = some (.ireturn, 1) := by decide +kernel
theorem q_29_60 : js_I 29 60 = some (.ifCond .eq 32, 3) := by decide +kernel
theorem q_29_92 : js_I 29 92 = some (.iload_n 2, 1) := by decide +kernel
theorem q_29_93 : js_I 29 93 = some (.iload_n 1, 1) := by decide +kernel
theorem q_29_94 : js_I 29 94 = some (.isub, 1) := by decide +kernel
theorem q_29_95 : js_I 29 95 = some (.iconst 2, 1) := by decide +kernel
theorem q_29_96 : js_I 29 96 = some (.if_icmp .ne 15, 3) := by decide +kernel
theorem q_29_99 : js_I 29 99 = some (.iload_n 3, 1) := by decide +kernel
theorem q_29_100 : js_I 29 100 = some (.aload_n 0, 1) := by decide +kernel
theorem q_29_101 : js_I 29 101 = some (.iload_n 1, 1) := by decide +kernel
theorem q_29_102 : js_I 29 102 = some (.iconst 1, 1) := by decide +kernel
theorem q_29_103 : js_I 29 103 = some (.iadd, 1) := by decide +kernel
theorem q_29_104 : js_I 29 104 = some (.invokevirtual 83, 3) := by decide +kernel
theorem q_29_111 : js_I 29 111 = some (.ldc 108, 2) := by decide +kernel
theorem q_29_113 : js_I 29 113 = some (.iload_n 3, 1) := by decide +kernel
theorem q_29_114 : js_I 29 114 = some (.i2c, 1) := by decide +kernel
theorem q_29_115 : js_I 29 115 = some (.invokevirtual 110, 3) := by decide +kernel
theorem q_29_76 : js_I 29 76 = some (.invokevirtual 102, 3) := by decide +kernel
theorem q_29_79 : js_I 29 79 = some (.ldc2_w 106, 3) := by decide +kernel
theorem q_29_82 : js_I 29 82 = some (.lcmp, 1) := by decide +kernel
theorem q_29_83 : js_I 29 83 = some (.ifCond .le 7, 3) := by decide +kernel
theorem q_29_86 : js_I 29 86 = some (.iconst 1, 1) := by decide +kernel
theorem q_29_87 : js_I 29 87 = some (.goto 4, 3) := by decide +kernel
theorem q_29_91 : js_I 29 91 = some (.ireturn, 1) := by decide +kernel
theorem q_29_90 : js_I 29 90 = some (.iconst 3, 1) := by decide +kernel
theorem q_29_107 : js_I 29 107 = some (.invokestatic 96, 3) := by decide +kernel
theorem q_29_110 : js_I 29 110 = some (.ireturn, 1) := by decide +kernel
theorem q_30_0 : js_I 30 0 = some (.sipush 200, 3) := by decide +kernel
theorem q_30_3 : js_I 30 3 = some (.istore_n 3, 1) := by decide +kernel
theorem q_30_4 : js_I 30 4 = some (.iconst 0, 1) := by decide +kernel
theorem q_30_5 : js_I 30 5 = some (.istore 4, 2) := by decide +kernel
theorem q_30_7 : js_I 30 7 = some (.iconst 1, 1) := by decide +kernel
theorem q_30_8 : js_I 30 8 = some (.istore 5, 2) := by decide +kernel
theorem q_30_10 : js_I 30 10 = some (.iconst 0, 1) := by decide +kernel
theorem q_30_11 : js_I 30 11 = some (.istore 6, 2) := by decide +kernel
theorem q_30_13 : js_I 30 13 = some (.iload 6, 2) := by decide +kernel
theorem q_30_15 : js_I 30 15 = some (.ldc 115, 2) := by decide +kernel
theorem q_30_17 : js_I 30 17 = some (.invokevirtual 117, 3) := by decide +kernel
theorem q_30_52 : js_I 30 52 = some (.iinc 3 1, 3) := by decide +kernel
theorem q_30_55 : js_I 30 55 = some (.iconst 0, 1) := by decide +kernel
theorem q_30_56 : js_I 30 56 = some (.istore 4, 2) := by decide +kernel
theorem q_30_58 : js_I 30 58 = some (.iconst 1, 1) := by decide +kernel
theorem q_30_59 : js_I 30 59 = some (.istore 5, 2) := by decide +kernel
theorem q_30_61 : js_I 30 61 = some (.goto 31, 3) := by decide +kernel
theorem q_30_74 : js_I 30 74 = some (.invokevirtual 83, 3) := by decide +kernel
theorem q_30_77 : js_I 30 77 = some (.iload 7, 2) := by decide +kernel
theorem q_30_79 : js_I 30 79 = some (.if_icmp .ne 7, 3) := by decide +kernel
theorem q_30_82 : js_I 30 82 = some (.iconst 1, 1) := by decide +kernel
theorem q_30_83 : js_I 30 83 = some (.goto 4, 3) := by decide +kernel
theorem q_30_86 : js_I 30 86 = some (.iconst 0, 1) := by decide +kernel
theorem q_30_87 : js_I 30 87 = some (.istore 5, 2) := by decide +kernel
theorem q_30_89 : js_I 30 89 = some (.iinc 4 1, 3) := by decide +kernel
theorem q_30_92 : js_I 30 92 = some (.iinc 6 1, 3) := by decide +kernel
theorem q_30_95 : js_I 30 95 = some (.goto (-82), 3) := by decide +kernel
theorem q_31_0 : js_I 31 0 = some (.lconst 0, 1) := by decide +kernel
theorem q_31_1 : js_I 31 1 = some (.lstore_n 3, 1) := by decide +kernel
theorem q_31_2 : js_I 31 2 = some (.iconst 0, 1) := by decide +kernel
theorem q_31_3 : js_I 31 3 = some (.istore 5, 2) := by decide +kernel
theorem q_31_5 : js_I 31 5 = some (.iload 5, 2) := by decide +kernel
theorem q_31_7 : js_I 31 7 = some (.iload_n 2, 1) := by decide +kernel
theorem q_31_8 : js_I 31 8 = some (.if_icmp .ge 29, 3) := by decide +kernel
theorem q_31_11 : js_I 31 11 = some (.ldc2_w 124, 3) := by decide +kernel
theorem q_31_14 : js_I 31 14 = some (.lload_n 3, 1) := by decide +kernel
theorem q_31_15 : js_I 31 15 = some (.lmul, 1) := by decide +kernel
theorem q_31_16 : js_I 31 16 = some (.aload_n 0, 1) := by decide +kernel
theorem q_31_17 : js_I 31 17 = some (.iload_n 1, 1) := by decide +kernel
theorem q_31_18 : js_I 31 18 = some (.iload 5, 2) := by decide +kernel
theorem q_31_20 : js_I 31 20 = some (.iadd, 1) := by decide +kernel
theorem q_31_21 : js_I 31 21 = some (.invokevirtual 83, 3) := by decide +kernel
theorem q_31_37 : js_I 31 37 = some (.lload_n 3, 1) := by decide +kernel
theorem q_31_38 : js_I 31 38 = some (.lreturn, 1) := by decide +kernel
theorem q_31_24 : js_I 31 24 = some (.i2l, 1) := by decide +kernel
theorem q_31_25 : js_I 31 25 = some (.ladd, 1) := by decide +kernel
theorem q_31_26 : js_I 31 26 = some (.ldc2_w 126, 3) := by decide +kernel
theorem q_31_29 : js_I 31 29 = some (.lsub, 1) := by decide +kernel
theorem q_31_30 : js_I 31 30 = some (.lstore_n 3, 1) := by decide +kernel
theorem q_31_31 : js_I 31 31 = some (.iinc 5 1, 3) := by decide +kernel
theorem q_31_34 : js_I 31 34 = some (.goto (-29), 3) := by decide +kernel
theorem q_32_0 : js_I 32 0 = some (.iload_n 1, 1) := by decide +kernel
theorem q_32_1 : js_I 32 1 = some (.iconst 4, 1) := by decide +kernel
theorem q_32_2 : js_I 32 2 = some (.if_icmp .eq 56, 3) := by decide +kernel
theorem q_32_58 : js_I 32 58 = some (.return_, 1) := by decide +kernel
theorem q_32_5 : js_I 32 5 = some (.aload_n 0, 1) := by decide +kernel
theorem q_32_6 : js_I 32 6 = some (.getfield 54, 3) := by decide +kernel
theorem q_32_9 : js_I 32 9 = some (.aload_n 0, 1) := by decide +kernel
theorem q_32_10 : js_I 32 10 = some (.getfield 18, 3) := by decide +kernel
theorem q_32_13 : js_I 32 13 = some (.arraylength, 1) := by decide +kernel
theorem q_32_14 : js_I 32 14 = some (.if_icmp .ge 44, 3) := by decide +kernel
theorem q_32_17 : js_I 32 17 = some (.aload_n 0, 1) := by decide +kernel
theorem q_32_18 : js_I 32 18 = some (.getfield 18, 3) := by decide +kernel
theorem q_32_21 : js_I 32 21 = some (.aload_n 0, 1) := by decide +kernel
theorem q_32_22 : js_I 32 22 = some (.getfield 54, 3) := by decide +kernel
theorem q_32_25 : js_I 32 25 = some (.iload_n 1, 1) := by decide +kernel
theorem q_32_26 : js_I 32 26 = some (.i2b, 1) := by decide +kernel
theorem q_32_27 : js_I 32 27 = some (.bastore, 1) := by decide +kernel
theorem q_32_28 : js_I 32 28 = some (.aload_n 0, 1) := by decide +kernel
theorem q_32_29 : js_I 32 29 = some (.getfield 21, 3) := by decide +kernel
theorem q_32_32 : js_I 32 32 = some (.aload_n 0, 1) := by decide +kernel
theorem q_32_33 : js_I 32 33 = some (.getfield 54, 3) := by decide +kernel
theorem q_32_36 : js_I 32 36 = some (.bipush 32, 2) := by decide +kernel
theorem q_32_38 : js_I 32 38 = some (.iload_n 2, 1) := by decide +kernel
theorem q_32_39 : js_I 32 39 = some (.imul, 1) := by decide +kernel
theorem q_32_40 : js_I 32 40 = some (.bipush 31, 2) := by decide +kernel
theorem q_32_42 : js_I 32 42 = some (.iload_n 3, 1) := by decide +kernel
theorem q_32_43 : js_I 32 43 = some (.invokestatic 80, 3) := by decide +kernel
theorem q_32_46 : js_I 32 46 = some (.iadd, 1) := by decide +kernel
theorem q_32_47 : js_I 32 47 = some (.iastore, 1) := by decide +kernel
theorem q_32_48 : js_I 32 48 = some (.aload_n 0, 1) := by decide +kernel
theorem q_32_49 : js_I 32 49 = some (.dup, 1) := by decide +kernel
theorem q_32_50 : js_I 32 50 = some (.getfield 54, 3) := by decide +kernel
theorem q_32_53 : js_I 32 53 = some (.iconst 1, 1) := by decide +kernel
theorem q_32_54 : js_I 32 54 = some (.iadd, 1) := by decide +kernel
theorem q_32_55 : js_I 32 55 = some (.putfield 54, 3) := by decide +kernel
theorem qf_0_24 : ip_lk (vt_FL.getD 0 []) 24 = some (0, 0) := by decide +kernel
theorem qf_8_29 : ip_lk (vt_FL.getD 8 []) 29 = some (8, 0) := by decide +kernel
theorem qf_8_15 : ip_lk (vt_FL.getD 8 []) 15 = some (8, 7) := by decide +kernel
theorem qf_4_27 : ip_lk (vt_FL.getD 4 []) 27 = some (4, 0) := by decide +kernel
theorem qf_4_40 : ip_lk (vt_FL.getD 4 []) 40 = some (4, 4) := by decide +kernel
theorem qf_4_17 : ip_lk (vt_FL.getD 4 []) 17 = some (4, 1) := by decide +kernel
theorem qf_4_54 : ip_lk (vt_FL.getD 4 []) 54 = some (8, 1) := by decide +kernel
theorem qf_4_70 : ip_lk (vt_FL.getD 4 []) 70 = some (8, 2) := by decide +kernel
theorem qf_7_12 : ip_lk (vt_FL.getD 7 []) 12 = some (7, 0) := by decide +kernel
theorem qf_7_31 : ip_lk (vt_FL.getD 7 []) 31 = some (7, 1) := by decide +kernel
theorem qf_7_35 : ip_lk (vt_FL.getD 7 []) 35 = some (7, 2) := by decide +kernel
theorem qf_7_38 : ip_lk (vt_FL.getD 7 []) 38 = some (7, 3) := by decide +kernel
theorem qf_7_41 : ip_lk (vt_FL.getD 7 []) 41 = some (7, 4) := by decide +kernel
theorem qf_7_44 : ip_lk (vt_FL.getD 7 []) 44 = some (7, 5) := by decide +kernel
theorem qf_7_47 : ip_lk (vt_FL.getD 7 []) 47 = some (7, 6) := by decide +kernel
theorem qf_1_42 : ip_lk (vt_FL.getD 1 []) 42 = some (1, 6) := by decide +kernel
theorem qf_1_46 : ip_lk (vt_FL.getD 1 []) 46 = some (1, 8) := by decide +kernel
theorem qf_1_52 : ip_lk (vt_FL.getD 1 []) 52 = some (1, 7) := by decide +kernel
theorem qf_1_55 : ip_lk (vt_FL.getD 1 []) 55 = some (1, 9) := by decide +kernel
theorem qf_1_58 : ip_lk (vt_FL.getD 1 []) 58 = some (1, 10) := by decide +kernel
theorem qf_1_61 : ip_lk (vt_FL.getD 1 []) 61 = some (1, 11) := by decide +kernel
theorem qf_1_64 : ip_lk (vt_FL.getD 1 []) 64 = some (1, 12) := by decide +kernel
theorem qf_10_39 : ip_lk (vt_FL.getD 10 []) 39 = some (10, 0) := by decide +kernel
theorem qf_10_35 : ip_lk (vt_FL.getD 10 []) 35 = some (10, 5) := by decide +kernel
theorem qf_5_52 : ip_lk (vt_FL.getD 5 []) 52 = some (5, 15) := by decide +kernel
theorem qf_8_18 : ip_lk (vt_FL.getD 8 []) 18 = some (8, 8) := by decide +kernel
theorem qf_8_54 : ip_lk (vt_FL.getD 8 []) 54 = some (8, 10) := by decide +kernel
theorem qf_8_68 : ip_lk (vt_FL.getD 8 []) 68 = some (8, 5) := by decide +kernel
theorem qf_8_71 : ip_lk (vt_FL.getD 8 []) 71 = some (8, 6) := by decide +kernel
theorem qf_8_74 : ip_lk (vt_FL.getD 8 []) 74 = some (8, 11) := by decide +kernel
theorem qf_8_21 : ip_lk (vt_FL.getD 8 []) 21 = some (8, 9) := by decide +kernel
theorem qm_0_54 : ip_lk (vt_ML.getD 0 []) 54 = some (12, 2, 1, 8) := by decide +kernel
theorem qm_8_25 : ip_lk (vt_ML.getD 8 []) 25 = some (13, 1, 0, 0) := by decide +kernel
theorem qm_8_34 : ip_lk (vt_ML.getD 8 []) 34 = some (14, 1, 1, 8) := by decide +kernel
theorem qm_8_38 : ip_lk (vt_ML.getD 8 []) 38 = some (15, 1, 1, 8) := by decide +kernel
theorem qm_8_42 : ip_lk (vt_ML.getD 8 []) 42 = some (1, 2, 4, 0) := by decide +kernel
theorem qm_4_44 : ip_lk (vt_ML.getD 4 []) 44 = some (17, 0, 1, 7) := by decide +kernel
theorem qm_4_47 : ip_lk (vt_ML.getD 4 []) 47 = some (20, 0, 1, 10) := by decide +kernel
theorem qm_4_48 : ip_lk (vt_ML.getD 4 []) 48 = some (22, 0, 1, 8) := by decide +kernel
theorem qm_4_57 : ip_lk (vt_ML.getD 4 []) 57 = some (34, 0, 1, 4) := by decide +kernel
theorem qm_4_60 : ip_lk (vt_ML.getD 4 []) 60 = some (44, 0, 1, 4) := by decide +kernel
theorem qm_4_63 : ip_lk (vt_ML.getD 4 []) 63 = some (45, 1, 1, 4) := by decide +kernel
theorem qm_4_67 : ip_lk (vt_ML.getD 4 []) 67 = some (52, 0, 1, 4) := by decide +kernel
theorem qm_4_73 : ip_lk (vt_ML.getD 4 []) 73 = some (36, 2, 1, 8) := by decide +kernel
theorem qm_4_77 : ip_lk (vt_ML.getD 4 []) 77 = some (112, 0, 1, 4) := by decide +kernel
theorem qm_7_28 : ip_lk (vt_ML.getD 7 []) 28 = some (18, 0, 1, 1) := by decide +kernel
theorem qm_1_49 : ip_lk (vt_ML.getD 1 []) 49 = some (19, 0, 1, 1) := by decide +kernel
theorem qm_10_43 : ip_lk (vt_ML.getD 10 []) 43 = some (21, 0, 1, 5) := by decide +kernel
theorem qm_8_57 : ip_lk (vt_ML.getD 8 []) 57 = some (23, 1, 1, 8) := by decide +kernel
theorem qm_8_61 : ip_lk (vt_ML.getD 8 []) 61 = some (29, 2, 1, 8) := by decide +kernel
theorem qm_8_64 : ip_lk (vt_ML.getD 8 []) 64 = some (32, 3, 1, 8) := by decide +kernel
theorem qm_8_77 : ip_lk (vt_ML.getD 8 []) 77 = some (33, 0, 1, 8) := by decide +kernel
theorem qm_8_83 : ip_lk (vt_ML.getD 8 []) 83 = some (24, 1, 1, 8) := by decide +kernel
theorem qm_8_86 : ip_lk (vt_ML.getD 8 []) 86 = some (25, 1, 0, 0) := by decide +kernel
theorem qm_8_90 : ip_lk (vt_ML.getD 8 []) 90 = some (26, 1, 0, 0) := by decide +kernel
theorem qm_8_93 : ip_lk (vt_ML.getD 8 []) 93 = some (27, 1, 1, 8) := by decide +kernel
theorem qm_8_96 : ip_lk (vt_ML.getD 8 []) 96 = some (28, 2, 0, 0) := by decide +kernel
theorem qm_8_99 : ip_lk (vt_ML.getD 8 []) 99 = some (30, 2, 1, 8) := by decide +kernel
theorem qm_8_110 : ip_lk (vt_ML.getD 8 []) 110 = some (9, 1, 5, 0) := by decide +kernel
theorem qm_8_102 : ip_lk (vt_ML.getD 8 []) 102 = some (31, 2, 1, 8) := by decide +kernel
theorem qm_8_117 : ip_lk (vt_ML.getD 8 []) 117 = some (7, 0, 5, 0) := by decide +kernel
theorem qm_8_80 : ip_lk (vt_ML.getD 8 []) 80 = some (0, 2, 4, 0) := by decide +kernel
theorem qc_8_33 : ip_lk (vt_CL.getD 8 []) 33 = some (js_V (0, 65536)) := by decide +kernel
theorem qc_4_53 : ip_lk (vt_CL.getD 4 []) 53 = some (js_V (0, 1000000)) := by decide +kernel
theorem qc_8_108 : ip_lk (vt_CL.getD 8 []) 108 = some (js_V (3, 0)) := by decide +kernel
theorem qc_8_106 : ip_lk (vt_CL.getD 8 []) 106 = some (js_V (1, 2000000000)) := by decide +kernel
theorem qc_8_115 : ip_lk (vt_CL.getD 8 []) 115 = some (js_V (3, 1)) := by decide +kernel
theorem qc_8_124 : ip_lk (vt_CL.getD 8 []) 124 = some (js_V (1, 10)) := by decide +kernel
theorem qc_8_126 : ip_lk (vt_CL.getD 8 []) 126 = some (js_V (1, 48)) := by decide +kernel
theorem ww_1000000 : js_w 1000000 = 1000000 := by decide +kernel
theorem ww_214 : js_w 214 = 214 := by decide +kernel
theorem ww_8193 : js_w 8193 = 8193 := by decide +kernel
-- 11: VitalTwin.feed (JJ)I
theorem b_11_0 {E : js_E} {d : Nat} {σ : js_S} {x1 x3 : Int} : js_J E d 11 0 [(2, 0), (1, x1), (9, 0), (1, x3), (9, 0)] [] σ = js_J E d 11 6 [(2, 0), (1, x1), (9, 0), (1, x3), (9, 0)] [(1, x3), (1, x1), (2, 1)] σ :=
  (j_aload_n q_11_0 rfl).trans <| (j_get (ji := 0) (v := (2, 1)) q_11_1 (js_Fo qy_11 qf_0_24) js_o0 rfl rfl rfl rfl).trans <| (j_lload_n q_11_4 rfl).trans <| (j_lload_n q_11_5 rfl).trans <| rfl
theorem k_11_6 {E : js_E} {d : Nat} {σ σ2 : js_S} {x1 x3 z1 z2 : Int} {v : Int} (hd : 1 ≤ d) (hz : js_J E (d - 1) 12 0 [(2, 1), (1, z1), (9, 0), (1, z2), (9, 0), (9, 0), (9, 0)] [] σ = js_r E (0, v) σ2) : js_J E d 11 6 [(2, 0), (1, x1), (9, 0), (1, x3), (9, 0)] [(1, z2), (1, z1), (2, 1)] σ = js_J E d 11 9 [(2, 0), (1, x1), (9, 0), (1, x3), (9, 0)] [(0, v)] σ2 :=
  j_call (m := 2) (js_caV q_11_6 (js_Mo qy_11 qm_0_54)) (js_agV (av := [(1, z1), (1, z2)]) (st := []) rfl rfl js_o1 rfl) rfl rfl (by rw [ql_12]; exact Nat.le_of_ble_eq_true rfl) (Nat.le_of_ble_eq_true rfl) hd hz
theorem kt_11_6 {E : js_E} {d : Nat} {σ σ2 : js_S} {x1 x3 z1 z2 : Int} {w : Int} (hd : 1 ≤ d) (hz : js_J E (d - 1) 12 0 [(2, 1), (1, z1), (9, 0), (1, z2), (9, 0), (9, 0), (9, 0)] [] σ = js_t E w σ2) : js_J E d 11 6 [(2, 0), (1, x1), (9, 0), (1, x3), (9, 0)] [(1, z2), (1, z1), (2, 1)] σ = js_t E w σ2 :=
  j_callT (m := 2) (js_caV q_11_6 (js_Mo qy_11 qm_0_54)) (js_agV (av := [(1, z1), (1, z2)]) (st := []) rfl rfl js_o1 rfl) rfl rfl (by rw [ql_12]; exact Nat.le_of_ble_eq_true rfl) (Nat.le_of_ble_eq_true rfl) hd rfl hz
theorem b_11_9 {E : js_E} {d : Nat} {σ : js_S} {x1 x3 z0 : Int} : js_J E d 11 9 [(2, 0), (1, x1), (9, 0), (1, x3), (9, 0)] [(0, z0)] σ = js_r E (0, z0) σ :=
  j_ireturn q_11_9 qr_11
-- 12: VitalTwin$Reader.add (JJ)I
theorem b_12_0 {E : js_E} {d : Nat} {σ : js_S} {x1 x3 : Int} : js_J E d 12 0 [(2, 1), (1, x1), (9, 0), (1, x3), (9, 0), (9, 0), (9, 0)] [] σ = js_J E d 12 1 [(2, 1), (1, x1), (9, 0), (1, x3), (9, 0), (9, 0), (9, 0)] [(1, x1)] σ :=
  (j_lload_n q_12_0 rfl).trans <| rfl
theorem k_12_1 {E : js_E} {d : Nat} {σ σ2 : js_S} {x1 x3 z0 : Int} {v : Int} (hd : 1 ≤ d) (hz : js_J E (d - 1) 13 0 [(1, z0), (9, 0), (9, 0), (9, 0), (9, 0)] [] σ = js_r E (0, v) σ2) : js_J E d 12 1 [(2, 1), (1, x1), (9, 0), (1, x3), (9, 0), (9, 0), (9, 0)] [(1, z0)] σ = js_J E d 12 4 [(2, 1), (1, x1), (9, 0), (1, x3), (9, 0), (9, 0), (9, 0)] [(0, v)] σ2 :=
  j_call (m := 3) (js_caS q_12_1 (js_Mo qy_12 qm_8_25)) (js_agS (av := [(1, z0)]) (st := []) rfl rfl) rfl rfl (by rw [ql_13]; exact Nat.le_of_ble_eq_true rfl) (Nat.le_of_ble_eq_true rfl) hd hz
theorem kt_12_1 {E : js_E} {d : Nat} {σ σ2 : js_S} {x1 x3 z0 : Int} {w : Int} (hd : 1 ≤ d) (hz : js_J E (d - 1) 13 0 [(1, z0), (9, 0), (9, 0), (9, 0), (9, 0)] [] σ = js_t E w σ2) : js_J E d 12 1 [(2, 1), (1, x1), (9, 0), (1, x3), (9, 0), (9, 0), (9, 0)] [(1, z0)] σ = js_t E w σ2 :=
  j_callT (m := 3) (js_caS q_12_1 (js_Mo qy_12 qm_8_25)) (js_agS (av := [(1, z0)]) (st := []) rfl rfl) rfl rfl (by rw [ql_13]; exact Nat.le_of_ble_eq_true rfl) (Nat.le_of_ble_eq_true rfl) hd rfl hz
theorem b_12_4 {E : js_E} {d : Nat} {σ : js_S} {x1 x3 z0 : Int} : js_J E d 12 4 [(2, 1), (1, x1), (9, 0), (1, x3), (9, 0), (9, 0), (9, 0)] [(0, z0)] σ = js_J E d 12 7 [(2, 1), (1, x1), (9, 0), (1, x3), (9, 0), (0, z0), (9, 0)] [(1, x3)] σ :=
  (j_istore (l2 := [(2, 1), (1, x1), (9, 0), (1, x3), (9, 0), (0, z0), (9, 0)]) q_12_4 rfl (Nat.le_of_ble_eq_true rfl)).trans <| (j_lload_n q_12_6 rfl).trans <| rfl
theorem k_12_7 {E : js_E} {d : Nat} {σ σ2 : js_S} {x1 x3 x5 z0 : Int} {v : Int} (hd : 1 ≤ d) (hz : js_J E (d - 1) 13 0 [(1, z0), (9, 0), (9, 0), (9, 0), (9, 0)] [] σ = js_r E (0, v) σ2) : js_J E d 12 7 [(2, 1), (1, x1), (9, 0), (1, x3), (9, 0), (0, x5), (9, 0)] [(1, z0)] σ = js_J E d 12 10 [(2, 1), (1, x1), (9, 0), (1, x3), (9, 0), (0, x5), (9, 0)] [(0, v)] σ2 :=
  j_call (m := 3) (js_caS q_12_7 (js_Mo qy_12 qm_8_25)) (js_agS (av := [(1, z0)]) (st := []) rfl rfl) rfl rfl (by rw [ql_13]; exact Nat.le_of_ble_eq_true rfl) (Nat.le_of_ble_eq_true rfl) hd hz
theorem kt_12_7 {E : js_E} {d : Nat} {σ σ2 : js_S} {x1 x3 x5 z0 : Int} {w : Int} (hd : 1 ≤ d) (hz : js_J E (d - 1) 13 0 [(1, z0), (9, 0), (9, 0), (9, 0), (9, 0)] [] σ = js_t E w σ2) : js_J E d 12 7 [(2, 1), (1, x1), (9, 0), (1, x3), (9, 0), (0, x5), (9, 0)] [(1, z0)] σ = js_t E w σ2 :=
  j_callT (m := 3) (js_caS q_12_7 (js_Mo qy_12 qm_8_25)) (js_agS (av := [(1, z0)]) (st := []) rfl rfl) rfl rfl (by rw [ql_13]; exact Nat.le_of_ble_eq_true rfl) (Nat.le_of_ble_eq_true rfl) hd rfl hz
theorem b_12_10 {E : js_E} {d : Nat} {σ : js_S} {x1 x3 x5 z0 : Int} : js_J E d 12 10 [(2, 1), (1, x1), (9, 0), (1, x3), (9, 0), (0, x5), (9, 0)] [(0, z0)] σ = (if js_w x5 < 0 then js_r E (0, (-1)) σ else (if js_w z0 < 0 then js_r E (0, (-1)) σ else (if 65536 < js_w (((σ 1 0) + x5) + z0) then js_r E (0, (-1)) σ else js_J E d 12 50 [(2, 1), (1, x1), (9, 0), (1, x3), (9, 0), (0, x5), (0, z0)] [(0, ((σ 1 0) + x5) + z0), (2, 1)] σ))) :=
  (j_istore (l2 := [(2, 1), (1, x1), (9, 0), (1, x3), (9, 0), (0, x5), (0, z0)]) q_12_10 rfl (Nat.le_of_ble_eq_true rfl)).trans <| (j_iload q_12_12 rfl).trans <| (j_iflt (t := 37) q_12_14 rfl).trans (js_ite ((j_iconst q_12_37).trans <| j_ireturn q_12_38 qr_12) ((j_iload q_12_17 rfl).trans <| (j_iflt (t := 37) q_12_19 rfl).trans (js_ite ((j_iconst q_12_37).trans <| j_ireturn q_12_38 qr_12) ((j_aload_n q_12_22 rfl).trans <| (j_get (ji := 0) (v := (0, σ 1 0)) q_12_23 (js_Fo qy_12 qf_8_29) js_o1 rfl rfl rfl rfl).trans <| (j_iload q_12_26 rfl).trans <| (j_iadd q_12_28).trans <| (j_iload q_12_29 rfl).trans <| (j_iadd q_12_31).trans <| (j_ldc (v := (0, 65536)) q_12_32 (js_Co qy_12 qc_8_33)).trans <| (j_cmpleB (t := 39) q_12_34 rfl ww_65536).trans (js_ite ((j_iconst q_12_37).trans <| j_ireturn q_12_38 qr_12) ((j_aload_n q_12_39 rfl).trans <| (j_aload_n q_12_40 rfl).trans <| (j_get (ji := 0) (v := (0, σ 1 0)) q_12_41 (js_Fo qy_12 qf_8_29) js_o1 rfl rfl rfl rfl).trans <| (j_iload q_12_44 rfl).trans <| (j_iadd q_12_46).trans <| (j_iload q_12_47 rfl).trans <| (j_iadd q_12_49).trans <| rfl))))))
theorem k_12_50 {E : js_E} {d : Nat} {σ σ2 : js_S} {x1 x3 x5 x6 z1 : Int} (hd : 1 ≤ d) (hz : js_J E (d - 1) 14 0 [(2, 1), (0, z1)] [] σ = js_r0 E σ2) : js_J E d 12 50 [(2, 1), (1, x1), (9, 0), (1, x3), (9, 0), (0, x5), (0, x6)] [(0, z1), (2, 1)] σ = js_J E d 12 53 [(2, 1), (1, x1), (9, 0), (1, x3), (9, 0), (0, x5), (0, x6)] [] σ2 :=
  j_call0 (m := 0) (js_caV q_12_50 (js_Mo qy_12 qm_8_34)) (js_agV (av := [(0, z1)]) (st := []) rfl rfl js_o1 rfl) rfl rfl (by rw [ql_14]; exact Nat.le_of_ble_eq_true rfl) (Nat.le_of_ble_eq_true rfl) hd hz
theorem kt_12_50 {E : js_E} {d : Nat} {σ σ2 : js_S} {x1 x3 x5 x6 z1 : Int} {w : Int} (hd : 1 ≤ d) (hz : js_J E (d - 1) 14 0 [(2, 1), (0, z1)] [] σ = js_t E w σ2) : js_J E d 12 50 [(2, 1), (1, x1), (9, 0), (1, x3), (9, 0), (0, x5), (0, x6)] [(0, z1), (2, 1)] σ = js_t E w σ2 :=
  j_callT (m := 0) (js_caV q_12_50 (js_Mo qy_12 qm_8_34)) (js_agV (av := [(0, z1)]) (st := []) rfl rfl js_o1 rfl) rfl rfl (by rw [ql_14]; exact Nat.le_of_ble_eq_true rfl) (Nat.le_of_ble_eq_true rfl) hd rfl hz
theorem b_12_53 {E : js_E} {d : Nat} {σ : js_S} {x1 x3 x5 x6 : Int} : js_J E d 12 53 [(2, 1), (1, x1), (9, 0), (1, x3), (9, 0), (0, x5), (0, x6)] [] σ = js_J E d 12 55 [(2, 1), (1, x1), (9, 0), (1, x3), (9, 0), (0, x5), (0, x6)] [(1, x1), (2, 1)] σ :=
  (j_aload_n q_12_53 rfl).trans <| (j_lload_n q_12_54 rfl).trans <| rfl
theorem k_12_55 {E : js_E} {d : Nat} {σ σ2 : js_S} {x1 x3 x5 x6 z1 : Int} (hd : 1 ≤ d) (hz : js_J E (d - 1) 15 0 [(2, 1), (1, z1), (9, 0), (9, 0), (9, 0)] [] σ = js_r0 E σ2) : js_J E d 12 55 [(2, 1), (1, x1), (9, 0), (1, x3), (9, 0), (0, x5), (0, x6)] [(1, z1), (2, 1)] σ = js_J E d 12 58 [(2, 1), (1, x1), (9, 0), (1, x3), (9, 0), (0, x5), (0, x6)] [] σ2 :=
  j_call0 (m := 2) (js_caV q_12_55 (js_Mo qy_12 qm_8_38)) (js_agV (av := [(1, z1)]) (st := []) rfl rfl js_o1 rfl) rfl rfl (by rw [ql_15]; exact Nat.le_of_ble_eq_true rfl) (Nat.le_of_ble_eq_true rfl) hd hz
theorem kt_12_55 {E : js_E} {d : Nat} {σ σ2 : js_S} {x1 x3 x5 x6 z1 : Int} {w : Int} (hd : 1 ≤ d) (hz : js_J E (d - 1) 15 0 [(2, 1), (1, z1), (9, 0), (9, 0), (9, 0)] [] σ = js_t E w σ2) : js_J E d 12 55 [(2, 1), (1, x1), (9, 0), (1, x3), (9, 0), (0, x5), (0, x6)] [(1, z1), (2, 1)] σ = js_t E w σ2 :=
  j_callT (m := 2) (js_caV q_12_55 (js_Mo qy_12 qm_8_38)) (js_agV (av := [(1, z1)]) (st := []) rfl rfl js_o1 rfl) rfl rfl (by rw [ql_15]; exact Nat.le_of_ble_eq_true rfl) (Nat.le_of_ble_eq_true rfl) hd rfl hz
theorem b_12_58 {E : js_E} {d : Nat} {σ : js_S} {x1 x3 x5 x6 : Int} : js_J E d 12 58 [(2, 1), (1, x1), (9, 0), (1, x3), (9, 0), (0, x5), (0, x6)] [] σ = js_J E d 12 60 [(2, 1), (1, x1), (9, 0), (1, x3), (9, 0), (0, x5), (0, x6)] [(1, x3), (2, 1)] σ :=
  (j_aload_n q_12_58 rfl).trans <| (j_lload_n q_12_59 rfl).trans <| rfl
theorem k_12_60 {E : js_E} {d : Nat} {σ σ2 : js_S} {x1 x3 x5 x6 z1 : Int} (hd : 1 ≤ d) (hz : js_J E (d - 1) 15 0 [(2, 1), (1, z1), (9, 0), (9, 0), (9, 0)] [] σ = js_r0 E σ2) : js_J E d 12 60 [(2, 1), (1, x1), (9, 0), (1, x3), (9, 0), (0, x5), (0, x6)] [(1, z1), (2, 1)] σ = js_J E d 12 63 [(2, 1), (1, x1), (9, 0), (1, x3), (9, 0), (0, x5), (0, x6)] [] σ2 :=
  j_call0 (m := 2) (js_caV q_12_60 (js_Mo qy_12 qm_8_38)) (js_agV (av := [(1, z1)]) (st := []) rfl rfl js_o1 rfl) rfl rfl (by rw [ql_15]; exact Nat.le_of_ble_eq_true rfl) (Nat.le_of_ble_eq_true rfl) hd hz
theorem kt_12_60 {E : js_E} {d : Nat} {σ σ2 : js_S} {x1 x3 x5 x6 z1 : Int} {w : Int} (hd : 1 ≤ d) (hz : js_J E (d - 1) 15 0 [(2, 1), (1, z1), (9, 0), (9, 0), (9, 0)] [] σ = js_t E w σ2) : js_J E d 12 60 [(2, 1), (1, x1), (9, 0), (1, x3), (9, 0), (0, x5), (0, x6)] [(1, z1), (2, 1)] σ = js_t E w σ2 :=
  j_callT (m := 2) (js_caV q_12_60 (js_Mo qy_12 qm_8_38)) (js_agV (av := [(1, z1)]) (st := []) rfl rfl js_o1 rfl) rfl rfl (by rw [ql_15]; exact Nat.le_of_ble_eq_true rfl) (Nat.le_of_ble_eq_true rfl) hd rfl hz
theorem b_12_63 {E : js_E} {d : Nat} {σ : js_S} {x1 x3 x5 x6 : Int} : js_J E d 12 63 [(2, 1), (1, x1), (9, 0), (1, x3), (9, 0), (0, x5), (0, x6)] [] σ = js_r E (0, σ 1 0) σ :=
  (j_aload_n q_12_63 rfl).trans <| (j_get (ji := 0) (v := (0, σ 1 0)) q_12_64 (js_Fo qy_12 qf_8_29) js_o1 rfl rfl rfl rfl).trans <| j_ireturn q_12_67 qr_12
-- 13: VitalTwin$Reader.signsOf (J)I
theorem b_13_0 {E : js_E} {d : Nat} {σ : js_S} {x0 : Int} : js_J E d 13 0 [(1, x0), (9, 0), (9, 0), (9, 0), (9, 0)] [] σ = js_J E d 13 5 [(1, x0), (9, 0), (0, 0), (0, 56), (9, 0)] [] σ :=
  (j_iconst q_13_0).trans <| (j_istore_n (l2 := [(1, x0), (9, 0), (0, 0), (9, 0), (9, 0)]) q_13_1 rfl (Nat.le_of_ble_eq_true rfl)).trans <| (j_bi q_13_2 rfl).trans <| (j_istore_n (l2 := [(1, x0), (9, 0), (0, 0), (0, 56), (9, 0)]) q_13_4 rfl (Nat.le_of_ble_eq_true rfl)).trans <| rfl
theorem b_13_5 {E : js_E} {d : Nat} {σ : js_S} {x0 x2 x3 : Int} {ux4 : js_v} : js_J E d 13 5 [(1, x0), (9, 0), (0, x2), (0, x3), ux4] [] σ = (if js_w x3 < 0 then js_r E (0, x2) σ else (if js_w (js_iand (js_lushr x0 x3) 255) = 0 then js_J E d 13 50 [(1, x0), (9, 0), (0, x2), (0, x3), (0, js_iand (js_lushr x0 x3) 255)] [] σ else (if js_w (js_iand (js_lushr x0 x3) 255) = 10 then js_J E d 13 47 [(1, x0), (9, 0), (0, x2), (0, x3), (0, js_iand (js_lushr x0 x3) 255)] [] σ else (if js_w (js_iand (js_lushr x0 x3) 255) < 32 then js_r E (0, (-1)) σ else (if 126 < js_w (js_iand (js_lushr x0 x3) 255) then js_r E (0, (-1)) σ else js_J E d 13 47 [(1, x0), (9, 0), (0, x2), (0, x3), (0, js_iand (js_lushr x0 x3) 255)] [] σ))))) :=
  (j_iload_n q_13_5 rfl).trans <| (j_iflt (t := 56) q_13_6 rfl).trans (js_ite ((j_iload_n q_13_56 rfl).trans <| j_ireturn q_13_57 qr_13) ((j_lload_n q_13_9 rfl).trans <| (j_iload_n q_13_10 rfl).trans <| (j_lushr q_13_11).trans <| (j_l2i q_13_12).trans <| (j_si q_13_13 rfl).trans <| (j_iand q_13_16).trans <| (j_istore (l2 := [(1, x0), (9, 0), (0, x2), (0, x3), (0, js_iand (js_lushr x0 x3) 255)]) q_13_17 rfl (Nat.le_of_ble_eq_true rfl)).trans <| (j_iload q_13_19 rfl).trans <| (j_ifeq (t := 50) q_13_21 rfl).trans (js_ite (rfl) ((j_iload q_13_24 rfl).trans <| (j_bi q_13_26 rfl).trans <| (j_cmpeqB (t := 47) q_13_28 rfl ww_10).trans (js_ite (rfl) ((j_iload q_13_31 rfl).trans <| (j_bi q_13_33 rfl).trans <| (j_cmpltB (t := 45) q_13_35 rfl ww_32).trans (js_ite ((j_iconst q_13_45).trans <| j_ireturn q_13_46 qr_13) ((j_iload q_13_38 rfl).trans <| (j_bi q_13_40 rfl).trans <| (j_cmpleB (t := 47) q_13_42 rfl ww_126).trans (js_ite ((j_iconst q_13_45).trans <| j_ireturn q_13_46 qr_13) (rfl))))))))))
theorem b_13_47 {E : js_E} {d : Nat} {σ : js_S} {x0 x2 x3 x4 : Int} : js_J E d 13 47 [(1, x0), (9, 0), (0, x2), (0, x3), (0, x4)] [] σ = js_J E d 13 50 [(1, x0), (9, 0), (0, x2 + 1), (0, x3), (0, x4)] [] σ :=
  (j_iinc (l2 := [(1, x0), (9, 0), (0, x2 + 1), (0, x3), (0, x4)]) q_13_47 rfl rfl).trans <| rfl
theorem b_13_50 {E : js_E} {d : Nat} {σ : js_S} {x0 x2 x3 x4 : Int} : js_J E d 13 50 [(1, x0), (9, 0), (0, x2), (0, x3), (0, x4)] [] σ = js_J E d 13 5 [(1, x0), (9, 0), (0, x2), (0, x3 + (-8)), (0, x4)] [] σ :=
  (j_iinc (l2 := [(1, x0), (9, 0), (0, x2), (0, x3 + (-8)), (0, x4)]) q_13_50 rfl rfl).trans <| (j_goto (t := 5) q_13_53 rfl).trans <| rfl
-- 14: VitalTwin$Reader.makeRoom (I)V
theorem b_14_0 {E : js_E} {d : Nat} {σ : js_S} {x1 : Int} (hd : 4 ≤ d) : js_J E d 14 0 [(2, 1), (0, x1)] [] σ = (if 8192 < js_w x1 then js_J E d 14 25 [(2, 1), (0, x1)] [(0, if js_w x1 < js_w (2 * 8192) then (2 * 8192) else x1), (2, 3), (2, 1)] σ else js_r0 E σ) :=
  (j_iload_n q_14_0 rfl).trans <| (j_aload_n q_14_1 rfl).trans <| (j_get (ji := 7) (v := (2, 3)) q_14_2 (js_Fo qy_14 qf_8_15) js_o1 rfl rfl rfl rfl).trans <| (j_alen q_14_5 js_o3 (by decide) (by decide)).trans <| (j_cmpleB (t := 31) q_14_6 rfl ww_8192).trans (js_ite ((j_aload_n q_14_9 rfl).trans <| (j_aload_n q_14_10 rfl).trans <| (j_get (ji := 7) (v := (2, 3)) q_14_11 (js_Fo qy_14 qf_8_15) js_o1 rfl rfl rfl rfl).trans <| (j_iload_n q_14_14 rfl).trans <| (j_iconst q_14_15).trans <| (j_aload_n q_14_16 rfl).trans <| (j_get (ji := 7) (v := (2, 3)) q_14_17 (js_Fo qy_14 qf_8_15) js_o1 rfl rfl rfl rfl).trans <| (j_alen q_14_20 js_o3 (by decide) (by decide)).trans <| (j_imul q_14_21).trans <| (j_max (js_clS q_14_22 (js_Mo qy_14 qm_8_42)) (Nat.le_of_ble_eq_true rfl) hd).trans <| rfl) (j_return q_14_31 qr_14))
-- 15: VitalTwin$Reader.append (J)V
theorem b_15_0 {E : js_E} {d : Nat} {σ : js_S} {x1 : Int} : js_J E d 15 0 [(2, 1), (1, x1), (9, 0), (9, 0), (9, 0)] [] σ = js_J E d 15 3 [(2, 1), (1, x1), (9, 0), (0, 56), (9, 0)] [] σ :=
  (j_bi q_15_0 rfl).trans <| (j_istore_n (l2 := [(2, 1), (1, x1), (9, 0), (0, 56), (9, 0)]) q_15_2 rfl (Nat.le_of_ble_eq_true rfl)).trans <| rfl
theorem b_15_3 {E : js_E} {d : Nat} {σ : js_S} {x1 x3 : Int} {ux4 : js_v} : js_J E d 15 3 [(2, 1), (1, x1), (9, 0), (0, x3), ux4] [] σ = (if js_w x3 < 0 then js_r0 E σ else (if js_w (js_iand (js_lushr x1 x3) 255) = 0 then js_J E d 15 56 [(2, 1), (1, x1), (9, 0), (0, x3), (0, js_iand (js_lushr x1 x3) 255)] [] σ else (if js_w (σ 1 0) < 8192 then (if 0 ≤ js_w (σ 1 0) ∧ js_w (σ 1 0) < 8192 then js_J E d 15 56 [(2, 1), (1, x1), (9, 0), (0, x3), (0, js_iand (js_lushr x1 x3) 255)] [] (js_up (js_up σ 3 (js_w (σ 1 0)) (js_i2b (js_i2b (js_iand (js_lushr x1 x3) 255)))) 1 0 ((σ 1 0) + 1)) else none) else js_J E d 15 56 [(2, 1), (1, x1), (9, 0), (0, x3), (0, js_iand (js_lushr x1 x3) 255)] [] σ))) :=
  (j_iload_n q_15_3 rfl).trans <| (j_iflt (t := 62) q_15_4 rfl).trans (js_ite (j_return q_15_62 qr_15) ((j_lload_n q_15_7 rfl).trans <| (j_iload_n q_15_8 rfl).trans <| (j_lushr q_15_9).trans <| (j_l2i q_15_10).trans <| (j_si q_15_11 rfl).trans <| (j_iand q_15_14).trans <| (j_istore (l2 := [(2, 1), (1, x1), (9, 0), (0, x3), (0, js_iand (js_lushr x1 x3) 255)]) q_15_15 rfl (Nat.le_of_ble_eq_true rfl)).trans <| (j_iload q_15_17 rfl).trans <| (j_ifeq (t := 56) q_15_19 rfl).trans (js_ite (rfl) ((j_aload_n q_15_22 rfl).trans <| (j_get (ji := 0) (v := (0, σ 1 0)) q_15_23 (js_Fo qy_15 qf_8_29) js_o1 rfl rfl rfl rfl).trans <| (j_aload_n q_15_26 rfl).trans <| (j_get (ji := 7) (v := (2, 3)) q_15_27 (js_Fo qy_15 qf_8_15) js_o1 rfl rfl rfl rfl).trans <| (j_alen q_15_30 js_o3 (by decide) (by decide)).trans <| (j_cmpgeB (t := 56) q_15_31 rfl ww_8192).trans (js_ite ((j_aload_n q_15_34 rfl).trans <| (j_get (ji := 7) (v := (2, 3)) q_15_35 (js_Fo qy_15 qf_8_15) js_o1 rfl rfl rfl rfl).trans <| (j_aload_n q_15_38 rfl).trans <| (j_get (ji := 0) (v := (0, σ 1 0)) q_15_39 (js_Fo qy_15 qf_8_29) js_o1 rfl rfl rfl rfl).trans <| (j_iload q_15_42 rfl).trans <| (j_i2b q_15_44).trans <| (j_bastore q_15_45 js_o3).trans <| js_itp fun g0 => (j_aload_n q_15_46 rfl).trans <| (j_dupr q_15_47).trans <| (j_get (ji := 0) (v := (0, σ 1 0)) q_15_48 (js_Fo qy_15 qf_8_29) js_o1 rfl rfl rfl (congrArg (Prod.mk 0) ((js_up_na _ (by decide))))).trans <| (j_iconst q_15_51).trans <| (j_iadd q_15_52).trans <| (j_putI (ji := 0) q_15_53 (js_Fo qy_15 qf_8_29) rfl js_o1 rfl rfl rfl).trans <| rfl) (rfl))))))
theorem b_15_56 {E : js_E} {d : Nat} {σ : js_S} {x1 x3 x4 : Int} : js_J E d 15 56 [(2, 1), (1, x1), (9, 0), (0, x3), (0, x4)] [] σ = js_J E d 15 3 [(2, 1), (1, x1), (9, 0), (0, x3 + (-8)), (0, x4)] [] σ :=
  (j_iinc (l2 := [(2, 1), (1, x1), (9, 0), (0, x3 + (-8)), (0, x4)]) q_15_56 rfl rfl).trans <| (j_goto (t := 3) q_15_59 rfl).trans <| rfl
-- 16: VitalTwin$Declarations.readProgram ()V
theorem b_16_0 {E : js_E} {d : Nat} {σ : js_S} {b : Int} (hb : b = 0 ∨ b = 25) : js_J E d 16 0 [(2, 6 + b), (9, 0)] [] σ = js_J E d 16 4 [(2, 6 + b), (9, 0)] [(2, 7 + b)] σ :=
  (j_aload_n q_16_0 rfl).trans <| (j_get (ji := 0) (v := (2, 7 + b)) q_16_1 (js_Fo qy_16 qf_4_27) (js_o6b hb) rfl rfl rfl rfl).trans <| rfl
theorem k_16_4 {E : js_E} {d : Nat} {σ σ2 : js_S} {b : Int} (hb : b = 0 ∨ b = 25) (hd : 1 ≤ d) (hz : js_J E (d - 1) 17 0 [(2, 7 + b)] [] σ = js_r0 E σ2) : js_J E d 16 4 [(2, 6 + b), (9, 0)] [(2, 7 + b)] σ = js_J E d 16 7 [(2, 6 + b), (9, 0)] [] σ2 :=
  j_call0 (m := 0) (js_caV q_16_4 (js_Mo qy_16 qm_4_44)) (js_agV (av := []) (st := []) rfl rfl (js_o7b hb) rfl) rfl rfl (by rw [ql_17]; exact Nat.le_of_ble_eq_true rfl) (Nat.le_of_ble_eq_true rfl) hd hz
theorem kt_16_4 {E : js_E} {d : Nat} {σ σ2 : js_S} {b : Int} (hb : b = 0 ∨ b = 25) {w : Int} (hd : 1 ≤ d) (hz : js_J E (d - 1) 17 0 [(2, 7 + b)] [] σ = js_t E w σ2) : js_J E d 16 4 [(2, 6 + b), (9, 0)] [(2, 7 + b)] σ = js_t E w σ2 :=
  j_callT (m := 0) (js_caV q_16_4 (js_Mo qy_16 qm_4_44)) (js_agV (av := []) (st := []) rfl rfl (js_o7b hb) rfl) rfl rfl (by rw [ql_17]; exact Nat.le_of_ble_eq_true rfl) (Nat.le_of_ble_eq_true rfl) hd rfl hz
theorem b_16_7 {E : js_E} {d : Nat} {σ : js_S} {b : Int} (hb : b = 0 ∨ b = 25) : js_J E d 16 7 [(2, 6 + b), (9, 0)] [] σ = js_J E d 16 11 [(2, 6 + b), (9, 0)] [(2, 22 + b)] σ :=
  (j_aload_n q_16_7 rfl).trans <| (j_get (ji := 4) (v := (2, 22 + b)) q_16_8 (js_Fo qy_16 qf_4_40) (js_o6b hb) rfl rfl rfl rfl).trans <| rfl
theorem k_16_11 {E : js_E} {d : Nat} {σ σ2 : js_S} {b : Int} (hb : b = 0 ∨ b = 25) (hd : 1 ≤ d) (hz : js_J E (d - 1) 20 0 [(2, 22 + b)] [] σ = js_r0 E σ2) : js_J E d 16 11 [(2, 6 + b), (9, 0)] [(2, 22 + b)] σ = js_J E d 16 14 [(2, 6 + b), (9, 0)] [] σ2 :=
  j_call0 (m := 0) (js_caV q_16_11 (js_Mo qy_16 qm_4_47)) (js_agV (av := []) (st := []) rfl rfl (js_o22b hb) rfl) rfl rfl (by rw [ql_20]; exact Nat.le_of_ble_eq_true rfl) (Nat.le_of_ble_eq_true rfl) hd hz
theorem kt_16_11 {E : js_E} {d : Nat} {σ σ2 : js_S} {b : Int} (hb : b = 0 ∨ b = 25) {w : Int} (hd : 1 ≤ d) (hz : js_J E (d - 1) 20 0 [(2, 22 + b)] [] σ = js_t E w σ2) : js_J E d 16 11 [(2, 6 + b), (9, 0)] [(2, 22 + b)] σ = js_t E w σ2 :=
  j_callT (m := 0) (js_caV q_16_11 (js_Mo qy_16 qm_4_47)) (js_agV (av := []) (st := []) rfl rfl (js_o22b hb) rfl) rfl rfl (by rw [ql_20]; exact Nat.le_of_ble_eq_true rfl) (Nat.le_of_ble_eq_true rfl) hd rfl hz
theorem b_16_14 {E : js_E} {d : Nat} {σ : js_S} {b : Int} (hb : b = 0 ∨ b = 25) : js_J E d 16 14 [(2, 6 + b), (9, 0)] [] σ = js_J E d 16 18 [(2, 6 + b), (9, 0)] [(2, 1)] σ :=
  (j_aload_n q_16_14 rfl).trans <| (j_get (ji := 1) (v := (2, 1)) q_16_15 (js_Fo qy_16 qf_4_17) (js_o6b hb) rfl rfl rfl rfl).trans <| rfl
theorem k_16_18 {E : js_E} {d : Nat} {σ σ2 : js_S} {b : Int} (hd : 1 ≤ d) (hz : js_J E (d - 1) 22 0 [(2, 1), (9, 0), (9, 0), (9, 0)] [] σ = js_r0 E σ2) : js_J E d 16 18 [(2, 6 + b), (9, 0)] [(2, 1)] σ = js_J E d 16 21 [(2, 6 + b), (9, 0)] [] σ2 :=
  j_call0 (m := 3) (js_caV q_16_18 (js_Mo qy_16 qm_4_48)) (js_agV (av := []) (st := []) rfl rfl js_o1 rfl) rfl rfl (by rw [ql_22]; exact Nat.le_of_ble_eq_true rfl) (Nat.le_of_ble_eq_true rfl) hd hz
theorem kt_16_18 {E : js_E} {d : Nat} {σ σ2 : js_S} {b : Int} {w : Int} (hd : 1 ≤ d) (hz : js_J E (d - 1) 22 0 [(2, 1), (9, 0), (9, 0), (9, 0)] [] σ = js_t E w σ2) : js_J E d 16 18 [(2, 6 + b), (9, 0)] [(2, 1)] σ = js_t E w σ2 :=
  j_callT (m := 3) (js_caV q_16_18 (js_Mo qy_16 qm_4_48)) (js_agV (av := []) (st := []) rfl rfl js_o1 rfl) rfl rfl (by rw [ql_22]; exact Nat.le_of_ble_eq_true rfl) (Nat.le_of_ble_eq_true rfl) hd rfl hz
theorem b_16_21 {E : js_E} {d : Nat} {σ : js_S} {b : Int} : js_J E d 16 21 [(2, 6 + b), (9, 0)] [] σ = js_J E d 16 23 [(2, 6 + b), (0, 0)] [] σ :=
  (j_iconst q_16_21).trans <| (j_istore_n (l2 := [(2, 6 + b), (0, 0)]) q_16_22 rfl (Nat.le_of_ble_eq_true rfl)).trans <| rfl
theorem b_16_23 {E : js_E} {d : Nat} {σ : js_S} {x1 b : Int} (hb : b = 0 ∨ b = 25) : js_J E d 16 23 [(2, 6 + b), (0, x1)] [] σ = (if js_w x1 < 1000000 then (if js_w (σ 1 1) = 214 then js_J E d 16 158 [(2, 6 + b), (0, x1)] [] σ else js_J E d 16 49 [(2, 6 + b), (0, x1)] [(0, σ 1 1)] σ) else js_J E d 16 158 [(2, 6 + b), (0, x1)] [] σ) :=
  (j_iload_n q_16_23 rfl).trans <| (j_ldc (v := (0, 1000000)) q_16_24 (js_Co qy_16 qc_4_53)).trans <| (j_cmpgeB (t := 158) q_16_26 rfl ww_1000000).trans (js_ite ((j_aload_n q_16_29 rfl).trans <| (j_get (ji := 1) (v := (2, 1)) q_16_30 (js_Fo qy_16 qf_4_17) (js_o6b hb) rfl rfl rfl rfl).trans <| (j_get (ji := 1) (v := (0, σ 1 1)) q_16_33 (js_Fo qy_16 qf_4_54) js_o1 rfl rfl rfl rfl).trans <| (j_si q_16_36 rfl).trans <| (j_cmpeqB (t := 158) q_16_39 rfl ww_214).trans (js_ite (rfl) ((j_aload_n q_16_42 rfl).trans <| (j_get (ji := 1) (v := (2, 1)) q_16_43 (js_Fo qy_16 qf_4_17) (js_o6b hb) rfl rfl rfl rfl).trans <| (j_get (ji := 1) (v := (0, σ 1 1)) q_16_46 (js_Fo qy_16 qf_4_54) js_o1 rfl rfl rfl rfl).trans <| rfl))) (rfl))
theorem s_16_49_200 {E : js_E} {d : Nat} {σ : js_S} {x1 z0 b : Int} (h : js_w z0 = 200) : js_J E d 16 49 [(2, 6 + b), (0, x1)] [(0, z0)] σ = js_J E d 16 92 [(2, 6 + b), (0, x1)] [] σ :=
  j_tsw (t := 92) (off := 43) q_16_49 (by rw [h]; decide) (by rw [h]; decide) (by rw [h]; rfl) rfl
theorem s_16_49_201 {E : js_E} {d : Nat} {σ : js_S} {x1 z0 b : Int} (h : js_w z0 = 201) : js_J E d 16 49 [(2, 6 + b), (0, x1)] [(0, z0)] σ = js_J E d 16 99 [(2, 6 + b), (0, x1)] [] σ :=
  j_tsw (t := 99) (off := 50) q_16_49 (by rw [h]; decide) (by rw [h]; decide) (by rw [h]; rfl) rfl
theorem s_16_49_202 {E : js_E} {d : Nat} {σ : js_S} {x1 z0 b : Int} (h : js_w z0 = 202) : js_J E d 16 49 [(2, 6 + b), (0, x1)] [(0, z0)] σ = js_J E d 16 106 [(2, 6 + b), (0, x1)] [] σ :=
  j_tsw (t := 106) (off := 57) q_16_49 (by rw [h]; decide) (by rw [h]; decide) (by rw [h]; rfl) rfl
theorem s_16_49_203 {E : js_E} {d : Nat} {σ : js_S} {x1 z0 b : Int} (h : js_w z0 = 203) : js_J E d 16 49 [(2, 6 + b), (0, x1)] [(0, z0)] σ = js_J E d 16 114 [(2, 6 + b), (0, x1)] [] σ :=
  j_tsw (t := 114) (off := 65) q_16_49 (by rw [h]; decide) (by rw [h]; decide) (by rw [h]; rfl) rfl
theorem s_16_49_204 {E : js_E} {d : Nat} {σ : js_S} {x1 z0 b : Int} (h : js_w z0 = 204) : js_J E d 16 49 [(2, 6 + b), (0, x1)] [(0, z0)] σ = js_J E d 16 122 [(2, 6 + b), (0, x1)] [] σ :=
  j_tsw (t := 122) (off := 73) q_16_49 (by rw [h]; decide) (by rw [h]; decide) (by rw [h]; rfl) rfl
theorem s_16_49_205 {E : js_E} {d : Nat} {σ : js_S} {x1 z0 b : Int} (h : js_w z0 = 205) : js_J E d 16 49 [(2, 6 + b), (0, x1)] [(0, z0)] σ = js_J E d 16 137 [(2, 6 + b), (0, x1)] [] σ :=
  j_tsw (t := 137) (off := 88) q_16_49 (by rw [h]; decide) (by rw [h]; decide) (by rw [h]; rfl) rfl
theorem s_16_49_206 {E : js_E} {d : Nat} {σ : js_S} {x1 z0 b : Int} (h : js_w z0 = 206) : js_J E d 16 49 [(2, 6 + b), (0, x1)] [(0, z0)] σ = js_J E d 16 130 [(2, 6 + b), (0, x1)] [] σ :=
  j_tsw (t := 130) (off := 81) q_16_49 (by rw [h]; decide) (by rw [h]; decide) (by rw [h]; rfl) rfl
theorem s_16_49_d {E : js_E} {d : Nat} {σ : js_S} {x1 z0 b : Int} (h : js_w z0 < 200 ∨ 206 < js_w z0) : js_J E d 16 49 [(2, 6 + b), (0, x1)] [(0, z0)] σ = js_J E d 16 137 [(2, 6 + b), (0, x1)] [] σ :=
  j_tswd (t := 137) q_16_49 h rfl
theorem b_16_92 {E : js_E} {d : Nat} {σ : js_S} {x1 b : Int} : js_J E d 16 92 [(2, 6 + b), (0, x1)] [] σ = js_J E d 16 93 [(2, 6 + b), (0, x1)] [(2, 6 + b)] σ :=
  (j_aload_n q_16_92 rfl).trans <| rfl
theorem k_16_93 {E : js_E} {d : Nat} {σ σ2 : js_S} {x1 b : Int} (hb : b = 0 ∨ b = 25) (hd : 1 ≤ d) (hz : js_J E (d - 1) 34 0 [(2, 6 + b), (9, 0)] [] σ = js_r0 E σ2) : js_J E d 16 93 [(2, 6 + b), (0, x1)] [(2, 6 + b)] σ = js_J E d 16 96 [(2, 6 + b), (0, x1)] [] σ2 :=
  j_call0 (m := 1) (js_caV q_16_93 (js_Mo qy_16 qm_4_57)) (js_agV (av := []) (st := []) rfl rfl (js_o6b hb) rfl) rfl rfl (by rw [ql_34]; exact Nat.le_of_ble_eq_true rfl) (Nat.le_of_ble_eq_true rfl) hd hz
theorem kt_16_93 {E : js_E} {d : Nat} {σ σ2 : js_S} {x1 b : Int} (hb : b = 0 ∨ b = 25) {w : Int} (hd : 1 ≤ d) (hz : js_J E (d - 1) 34 0 [(2, 6 + b), (9, 0)] [] σ = js_t E w σ2) : js_J E d 16 93 [(2, 6 + b), (0, x1)] [(2, 6 + b)] σ = js_t E w σ2 :=
  j_callT (m := 1) (js_caV q_16_93 (js_Mo qy_16 qm_4_57)) (js_agV (av := []) (st := []) rfl rfl (js_o6b hb) rfl) rfl rfl (by rw [ql_34]; exact Nat.le_of_ble_eq_true rfl) (Nat.le_of_ble_eq_true rfl) hd rfl hz
theorem b_16_96 {E : js_E} {d : Nat} {σ : js_S} {x1 b : Int} : js_J E d 16 96 [(2, 6 + b), (0, x1)] [] σ = js_J E d 16 152 [(2, 6 + b), (0, x1)] [] σ :=
  (j_goto (t := 152) q_16_96 rfl).trans <| rfl
theorem b_16_99 {E : js_E} {d : Nat} {σ : js_S} {x1 b : Int} : js_J E d 16 99 [(2, 6 + b), (0, x1)] [] σ = js_J E d 16 100 [(2, 6 + b), (0, x1)] [(2, 6 + b)] σ :=
  (j_aload_n q_16_99 rfl).trans <| rfl
theorem k_16_100 {E : js_E} {d : Nat} {σ σ2 : js_S} {x1 b : Int} (hb : b = 0 ∨ b = 25) (hd : 1 ≤ d) (hz : js_J E (d - 1) 44 0 [(2, 6 + b), (9, 0), (9, 0), (9, 0), (9, 0), (9, 0)] [] σ = js_r0 E σ2) : js_J E d 16 100 [(2, 6 + b), (0, x1)] [(2, 6 + b)] σ = js_J E d 16 103 [(2, 6 + b), (0, x1)] [] σ2 :=
  j_call0 (m := 5) (js_caV q_16_100 (js_Mo qy_16 qm_4_60)) (js_agV (av := []) (st := []) rfl rfl (js_o6b hb) rfl) rfl rfl (by rw [ql_44]; exact Nat.le_of_ble_eq_true rfl) (Nat.le_of_ble_eq_true rfl) hd hz
theorem kt_16_100 {E : js_E} {d : Nat} {σ σ2 : js_S} {x1 b : Int} (hb : b = 0 ∨ b = 25) {w : Int} (hd : 1 ≤ d) (hz : js_J E (d - 1) 44 0 [(2, 6 + b), (9, 0), (9, 0), (9, 0), (9, 0), (9, 0)] [] σ = js_t E w σ2) : js_J E d 16 100 [(2, 6 + b), (0, x1)] [(2, 6 + b)] σ = js_t E w σ2 :=
  j_callT (m := 5) (js_caV q_16_100 (js_Mo qy_16 qm_4_60)) (js_agV (av := []) (st := []) rfl rfl (js_o6b hb) rfl) rfl rfl (by rw [ql_44]; exact Nat.le_of_ble_eq_true rfl) (Nat.le_of_ble_eq_true rfl) hd rfl hz
theorem b_16_103 {E : js_E} {d : Nat} {σ : js_S} {x1 b : Int} : js_J E d 16 103 [(2, 6 + b), (0, x1)] [] σ = js_J E d 16 152 [(2, 6 + b), (0, x1)] [] σ :=
  (j_goto (t := 152) q_16_103 rfl).trans <| rfl
theorem b_16_106 {E : js_E} {d : Nat} {σ : js_S} {x1 b : Int} : js_J E d 16 106 [(2, 6 + b), (0, x1)] [] σ = js_J E d 16 108 [(2, 6 + b), (0, x1)] [(0, 1), (2, 6 + b)] σ :=
  (j_aload_n q_16_106 rfl).trans <| (j_iconst q_16_107).trans <| rfl
theorem k_16_108 {E : js_E} {d : Nat} {σ σ2 : js_S} {x1 z1 b : Int} (hb : b = 0 ∨ b = 25) (hd : 1 ≤ d) (hz : js_J E (d - 1) 45 0 [(2, 6 + b), (0, z1), (9, 0)] [] σ = js_r0 E σ2) : js_J E d 16 108 [(2, 6 + b), (0, x1)] [(0, z1), (2, 6 + b)] σ = js_J E d 16 111 [(2, 6 + b), (0, x1)] [] σ2 :=
  j_call0 (m := 1) (js_caV q_16_108 (js_Mo qy_16 qm_4_63)) (js_agV (av := [(0, z1)]) (st := []) rfl rfl (js_o6b hb) rfl) rfl rfl (by rw [ql_45]; exact Nat.le_of_ble_eq_true rfl) (Nat.le_of_ble_eq_true rfl) hd hz
theorem kt_16_108 {E : js_E} {d : Nat} {σ σ2 : js_S} {x1 z1 b : Int} (hb : b = 0 ∨ b = 25) {w : Int} (hd : 1 ≤ d) (hz : js_J E (d - 1) 45 0 [(2, 6 + b), (0, z1), (9, 0)] [] σ = js_t E w σ2) : js_J E d 16 108 [(2, 6 + b), (0, x1)] [(0, z1), (2, 6 + b)] σ = js_t E w σ2 :=
  j_callT (m := 1) (js_caV q_16_108 (js_Mo qy_16 qm_4_63)) (js_agV (av := [(0, z1)]) (st := []) rfl rfl (js_o6b hb) rfl) rfl rfl (by rw [ql_45]; exact Nat.le_of_ble_eq_true rfl) (Nat.le_of_ble_eq_true rfl) hd rfl hz
theorem b_16_111 {E : js_E} {d : Nat} {σ : js_S} {x1 b : Int} : js_J E d 16 111 [(2, 6 + b), (0, x1)] [] σ = js_J E d 16 152 [(2, 6 + b), (0, x1)] [] σ :=
  (j_goto (t := 152) q_16_111 rfl).trans <| rfl
theorem b_16_114 {E : js_E} {d : Nat} {σ : js_S} {x1 b : Int} : js_J E d 16 114 [(2, 6 + b), (0, x1)] [] σ = js_J E d 16 116 [(2, 6 + b), (0, x1)] [(0, 2), (2, 6 + b)] σ :=
  (j_aload_n q_16_114 rfl).trans <| (j_iconst q_16_115).trans <| rfl
theorem k_16_116 {E : js_E} {d : Nat} {σ σ2 : js_S} {x1 z1 b : Int} (hb : b = 0 ∨ b = 25) (hd : 1 ≤ d) (hz : js_J E (d - 1) 45 0 [(2, 6 + b), (0, z1), (9, 0)] [] σ = js_r0 E σ2) : js_J E d 16 116 [(2, 6 + b), (0, x1)] [(0, z1), (2, 6 + b)] σ = js_J E d 16 119 [(2, 6 + b), (0, x1)] [] σ2 :=
  j_call0 (m := 1) (js_caV q_16_116 (js_Mo qy_16 qm_4_63)) (js_agV (av := [(0, z1)]) (st := []) rfl rfl (js_o6b hb) rfl) rfl rfl (by rw [ql_45]; exact Nat.le_of_ble_eq_true rfl) (Nat.le_of_ble_eq_true rfl) hd hz
theorem kt_16_116 {E : js_E} {d : Nat} {σ σ2 : js_S} {x1 z1 b : Int} (hb : b = 0 ∨ b = 25) {w : Int} (hd : 1 ≤ d) (hz : js_J E (d - 1) 45 0 [(2, 6 + b), (0, z1), (9, 0)] [] σ = js_t E w σ2) : js_J E d 16 116 [(2, 6 + b), (0, x1)] [(0, z1), (2, 6 + b)] σ = js_t E w σ2 :=
  j_callT (m := 1) (js_caV q_16_116 (js_Mo qy_16 qm_4_63)) (js_agV (av := [(0, z1)]) (st := []) rfl rfl (js_o6b hb) rfl) rfl rfl (by rw [ql_45]; exact Nat.le_of_ble_eq_true rfl) (Nat.le_of_ble_eq_true rfl) hd rfl hz
theorem b_16_119 {E : js_E} {d : Nat} {σ : js_S} {x1 b : Int} : js_J E d 16 119 [(2, 6 + b), (0, x1)] [] σ = js_J E d 16 152 [(2, 6 + b), (0, x1)] [] σ :=
  (j_goto (t := 152) q_16_119 rfl).trans <| rfl
theorem b_16_122 {E : js_E} {d : Nat} {σ : js_S} {x1 b : Int} : js_J E d 16 122 [(2, 6 + b), (0, x1)] [] σ = js_J E d 16 124 [(2, 6 + b), (0, x1)] [(0, 3), (2, 6 + b)] σ :=
  (j_aload_n q_16_122 rfl).trans <| (j_iconst q_16_123).trans <| rfl
theorem k_16_124 {E : js_E} {d : Nat} {σ σ2 : js_S} {x1 z1 b : Int} (hb : b = 0 ∨ b = 25) (hd : 1 ≤ d) (hz : js_J E (d - 1) 45 0 [(2, 6 + b), (0, z1), (9, 0)] [] σ = js_r0 E σ2) : js_J E d 16 124 [(2, 6 + b), (0, x1)] [(0, z1), (2, 6 + b)] σ = js_J E d 16 127 [(2, 6 + b), (0, x1)] [] σ2 :=
  j_call0 (m := 1) (js_caV q_16_124 (js_Mo qy_16 qm_4_63)) (js_agV (av := [(0, z1)]) (st := []) rfl rfl (js_o6b hb) rfl) rfl rfl (by rw [ql_45]; exact Nat.le_of_ble_eq_true rfl) (Nat.le_of_ble_eq_true rfl) hd hz
theorem kt_16_124 {E : js_E} {d : Nat} {σ σ2 : js_S} {x1 z1 b : Int} (hb : b = 0 ∨ b = 25) {w : Int} (hd : 1 ≤ d) (hz : js_J E (d - 1) 45 0 [(2, 6 + b), (0, z1), (9, 0)] [] σ = js_t E w σ2) : js_J E d 16 124 [(2, 6 + b), (0, x1)] [(0, z1), (2, 6 + b)] σ = js_t E w σ2 :=
  j_callT (m := 1) (js_caV q_16_124 (js_Mo qy_16 qm_4_63)) (js_agV (av := [(0, z1)]) (st := []) rfl rfl (js_o6b hb) rfl) rfl rfl (by rw [ql_45]; exact Nat.le_of_ble_eq_true rfl) (Nat.le_of_ble_eq_true rfl) hd rfl hz
theorem b_16_127 {E : js_E} {d : Nat} {σ : js_S} {x1 b : Int} : js_J E d 16 127 [(2, 6 + b), (0, x1)] [] σ = js_J E d 16 152 [(2, 6 + b), (0, x1)] [] σ :=
  (j_goto (t := 152) q_16_127 rfl).trans <| rfl
theorem b_16_130 {E : js_E} {d : Nat} {σ : js_S} {x1 b : Int} : js_J E d 16 130 [(2, 6 + b), (0, x1)] [] σ = js_J E d 16 131 [(2, 6 + b), (0, x1)] [(2, 6 + b)] σ :=
  (j_aload_n q_16_130 rfl).trans <| rfl
theorem k_16_131 {E : js_E} {d : Nat} {σ σ2 : js_S} {x1 b : Int} (hb : b = 0 ∨ b = 25) (hd : 1 ≤ d) (hz : js_J E (d - 1) 52 0 [(2, 6 + b), (9, 0), (9, 0), (9, 0)] [] σ = js_r0 E σ2) : js_J E d 16 131 [(2, 6 + b), (0, x1)] [(2, 6 + b)] σ = js_J E d 16 134 [(2, 6 + b), (0, x1)] [] σ2 :=
  j_call0 (m := 3) (js_caV q_16_131 (js_Mo qy_16 qm_4_67)) (js_agV (av := []) (st := []) rfl rfl (js_o6b hb) rfl) rfl rfl (by rw [ql_52]; exact Nat.le_of_ble_eq_true rfl) (Nat.le_of_ble_eq_true rfl) hd hz
theorem kt_16_131 {E : js_E} {d : Nat} {σ σ2 : js_S} {x1 b : Int} (hb : b = 0 ∨ b = 25) {w : Int} (hd : 1 ≤ d) (hz : js_J E (d - 1) 52 0 [(2, 6 + b), (9, 0), (9, 0), (9, 0)] [] σ = js_t E w σ2) : js_J E d 16 131 [(2, 6 + b), (0, x1)] [(2, 6 + b)] σ = js_t E w σ2 :=
  j_callT (m := 3) (js_caV q_16_131 (js_Mo qy_16 qm_4_67)) (js_agV (av := []) (st := []) rfl rfl (js_o6b hb) rfl) rfl rfl (by rw [ql_52]; exact Nat.le_of_ble_eq_true rfl) (Nat.le_of_ble_eq_true rfl) hd rfl hz
theorem b_16_134 {E : js_E} {d : Nat} {σ : js_S} {x1 b : Int} : js_J E d 16 134 [(2, 6 + b), (0, x1)] [] σ = js_J E d 16 152 [(2, 6 + b), (0, x1)] [] σ :=
  (j_goto (t := 152) q_16_134 rfl).trans <| rfl
theorem b_16_137 {E : js_E} {d : Nat} {σ : js_S} {x1 b : Int} (hb : b = 0 ∨ b = 25) : js_J E d 16 137 [(2, 6 + b), (0, x1)] [] σ = js_J E d 16 149 [(2, 6 + b), (0, x1)] [(0, σ 1 2), (0, 1), (2, 1)] σ :=
  (j_aload_n q_16_137 rfl).trans <| (j_get (ji := 1) (v := (2, 1)) q_16_138 (js_Fo qy_16 qf_4_17) (js_o6b hb) rfl rfl rfl rfl).trans <| (j_iconst q_16_141).trans <| (j_aload_n q_16_142 rfl).trans <| (j_get (ji := 1) (v := (2, 1)) q_16_143 (js_Fo qy_16 qf_4_17) (js_o6b hb) rfl rfl rfl rfl).trans <| (j_get (ji := 2) (v := (0, σ 1 2)) q_16_146 (js_Fo qy_16 qf_4_70) js_o1 rfl rfl rfl rfl).trans <| rfl
theorem k_16_149 {E : js_E} {d : Nat} {σ σ2 : js_S} {x1 z1 z2 b : Int} (hd : 1 ≤ d) (hz : js_J E (d - 1) 36 0 [(2, 1), (0, z1), (0, z2)] [] σ = js_r0 E σ2) : js_J E d 16 149 [(2, 6 + b), (0, x1)] [(0, z2), (0, z1), (2, 1)] σ = js_J E d 16 152 [(2, 6 + b), (0, x1)] [] σ2 :=
  j_call0 (m := 0) (js_caV q_16_149 (js_Mo qy_16 qm_4_73)) (js_agV (av := [(0, z1), (0, z2)]) (st := []) rfl rfl js_o1 rfl) rfl rfl (by rw [ql_36]; exact Nat.le_of_ble_eq_true rfl) (Nat.le_of_ble_eq_true rfl) hd hz
theorem kt_16_149 {E : js_E} {d : Nat} {σ σ2 : js_S} {x1 z1 z2 b : Int} {w : Int} (hd : 1 ≤ d) (hz : js_J E (d - 1) 36 0 [(2, 1), (0, z1), (0, z2)] [] σ = js_t E w σ2) : js_J E d 16 149 [(2, 6 + b), (0, x1)] [(0, z2), (0, z1), (2, 1)] σ = js_t E w σ2 :=
  j_callT (m := 0) (js_caV q_16_149 (js_Mo qy_16 qm_4_73)) (js_agV (av := [(0, z1), (0, z2)]) (st := []) rfl rfl js_o1 rfl) rfl rfl (by rw [ql_36]; exact Nat.le_of_ble_eq_true rfl) (Nat.le_of_ble_eq_true rfl) hd rfl hz
theorem b_16_152 {E : js_E} {d : Nat} {σ : js_S} {x1 b : Int} : js_J E d 16 152 [(2, 6 + b), (0, x1)] [] σ = js_J E d 16 23 [(2, 6 + b), (0, x1 + 1)] [] σ :=
  (j_iinc (l2 := [(2, 6 + b), (0, x1 + 1)]) q_16_152 rfl rfl).trans <| (j_goto (t := 23) q_16_155 rfl).trans <| rfl
theorem b_16_158 {E : js_E} {d : Nat} {σ : js_S} {x1 b : Int} : js_J E d 16 158 [(2, 6 + b), (0, x1)] [] σ = js_J E d 16 159 [(2, 6 + b), (0, x1)] [(2, 6 + b)] σ :=
  (j_aload_n q_16_158 rfl).trans <| rfl
theorem k_16_159 {E : js_E} {d : Nat} {σ σ2 : js_S} {x1 b : Int} (hb : b = 0 ∨ b = 25) (hd : 1 ≤ d) (hz : js_J E (d - 1) 112 0 [(2, 6 + b)] [] σ = js_r0 E σ2) : js_J E d 16 159 [(2, 6 + b), (0, x1)] [(2, 6 + b)] σ = js_J E d 16 162 [(2, 6 + b), (0, x1)] [] σ2 :=
  j_call0 (m := 0) (js_caV q_16_159 (js_Mo qy_16 qm_4_77)) (js_agV (av := []) (st := []) rfl rfl (js_o6b hb) rfl) rfl rfl (by rw [ql_112]; exact Nat.le_of_ble_eq_true rfl) (Nat.le_of_ble_eq_true rfl) hd hz
theorem kt_16_159 {E : js_E} {d : Nat} {σ σ2 : js_S} {x1 b : Int} (hb : b = 0 ∨ b = 25) {w : Int} (hd : 1 ≤ d) (hz : js_J E (d - 1) 112 0 [(2, 6 + b)] [] σ = js_t E w σ2) : js_J E d 16 159 [(2, 6 + b), (0, x1)] [(2, 6 + b)] σ = js_t E w σ2 :=
  j_callT (m := 0) (js_caV q_16_159 (js_Mo qy_16 qm_4_77)) (js_agV (av := []) (st := []) rfl rfl (js_o6b hb) rfl) rfl rfl (by rw [ql_112]; exact Nat.le_of_ble_eq_true rfl) (Nat.le_of_ble_eq_true rfl) hd rfl hz
theorem b_16_162 {E : js_E} {d : Nat} {σ : js_S} {x1 b : Int} : js_J E d 16 162 [(2, 6 + b), (0, x1)] [] σ = js_r0 E σ :=
  j_return q_16_162 qr_16
-- 17: VitalTwin$Program.clear ()V
theorem b_17_0 {E : js_E} {d : Nat} {σ : js_S} {b : Int} (hb : b = 0 ∨ b = 25) : js_J E d 17 0 [(2, 7 + b)] [] σ = js_J E d 17 4 [(2, 7 + b)] [(2, 8 + b)] σ :=
  (j_aload_n q_17_0 rfl).trans <| (j_get (ji := 0) (v := (2, 8 + b)) q_17_1 (js_Fo qy_17 qf_7_12) (js_o7b hb) rfl rfl rfl rfl).trans <| rfl
theorem k_17_4 {E : js_E} {d : Nat} {σ σ2 : js_S} {b : Int} (hb : b = 0 ∨ b = 25) (hd : 1 ≤ d) (hz : js_J E (d - 1) 18 0 [(2, 8 + b)] [] σ = js_r0 E σ2) : js_J E d 17 4 [(2, 7 + b)] [(2, 8 + b)] σ = js_J E d 17 7 [(2, 7 + b)] [] σ2 :=
  j_call0 (m := 0) (js_caV q_17_4 (js_Mo qy_17 qm_7_28)) (js_agV (av := []) (st := []) rfl rfl (js_o8b hb) rfl) rfl rfl (by rw [ql_18]; exact Nat.le_of_ble_eq_true rfl) (Nat.le_of_ble_eq_true rfl) hd hz
theorem kt_17_4 {E : js_E} {d : Nat} {σ σ2 : js_S} {b : Int} (hb : b = 0 ∨ b = 25) {w : Int} (hd : 1 ≤ d) (hz : js_J E (d - 1) 18 0 [(2, 8 + b)] [] σ = js_t E w σ2) : js_J E d 17 4 [(2, 7 + b)] [(2, 8 + b)] σ = js_t E w σ2 :=
  j_callT (m := 0) (js_caV q_17_4 (js_Mo qy_17 qm_7_28)) (js_agV (av := []) (st := []) rfl rfl (js_o8b hb) rfl) rfl rfl (by rw [ql_18]; exact Nat.le_of_ble_eq_true rfl) (Nat.le_of_ble_eq_true rfl) hd rfl hz
theorem b_17_7 {E : js_E} {d : Nat} {σ : js_S} {b : Int} (hb : b = 0 ∨ b = 25) : js_J E d 17 7 [(2, 7 + b)] [] σ = js_r0 E (js_up (js_up (js_up (js_up (js_up (js_up σ (7 + b) 1 0) (7 + b) 2 0) (7 + b) 3 (-1)) (7 + b) 4 0) (7 + b) 5 0) (7 + b) 6 0) :=
  (j_aload_n q_17_7 rfl).trans <| (j_iconst q_17_8).trans <| (j_putI (ji := 1) q_17_9 (js_Fo qy_17 qf_7_31) rfl (js_o7b hb) rfl rfl rfl).trans <| (j_aload_n q_17_12 rfl).trans <| (j_iconst q_17_13).trans <| (j_putI (ji := 2) q_17_14 (js_Fo qy_17 qf_7_35) rfl (js_o7b hb) rfl rfl rfl).trans <| (j_aload_n q_17_17 rfl).trans <| (j_iconst q_17_18).trans <| (j_putI (ji := 3) q_17_19 (js_Fo qy_17 qf_7_38) rfl (js_o7b hb) rfl rfl rfl).trans <| (j_aload_n q_17_22 rfl).trans <| (j_iconst q_17_23).trans <| (j_putI (ji := 4) q_17_24 (js_Fo qy_17 qf_7_41) rfl (js_o7b hb) rfl rfl rfl).trans <| (j_aload_n q_17_27 rfl).trans <| (j_iconst q_17_28).trans <| (j_putI (ji := 5) q_17_29 (js_Fo qy_17 qf_7_44) rfl (js_o7b hb) rfl rfl rfl).trans <| (j_aload_n q_17_32 rfl).trans <| (j_iconst q_17_33).trans <| (j_putI (ji := 6) q_17_34 (js_Fo qy_17 qf_7_47) rfl (js_o7b hb) rfl rfl rfl).trans <| j_return q_17_37 qr_17
-- 18: VitalTwin$Code.clear ()V
theorem b_18_0 {E : js_E} {d : Nat} {σ : js_S} {b : Int} (hb : b = 0 ∨ b = 25) : js_J E d 18 0 [(2, 8 + b)] [] σ = js_J E d 18 11 [(2, 8 + b)] [(2, 8 + b)] (js_up (js_up σ (8 + b) 6 0) (8 + b) 8 0) :=
  (j_aload_n q_18_0 rfl).trans <| (j_iconst q_18_1).trans <| (j_putI (ji := 6) q_18_2 (js_Fo qy_18 qf_1_42) rfl (js_o8b hb) rfl rfl rfl).trans <| (j_aload_n q_18_5 rfl).trans <| (j_iconst q_18_6).trans <| (j_putI (ji := 8) q_18_7 (js_Fo qy_18 qf_1_46) rfl (js_o8b hb) rfl rfl rfl).trans <| (j_aload_n q_18_10 rfl).trans <| rfl
theorem k_18_11 {E : js_E} {d : Nat} {σ σ2 : js_S} {b : Int} (hb : b = 0 ∨ b = 25) (hd : 1 ≤ d) (hz : js_J E (d - 1) 19 0 [(2, 8 + b)] [] σ = js_r0 E σ2) : js_J E d 18 11 [(2, 8 + b)] [(2, 8 + b)] σ = js_J E d 18 14 [(2, 8 + b)] [] σ2 :=
  j_call0 (m := 0) (js_caV q_18_11 (js_Mo qy_18 qm_1_49)) (js_agV (av := []) (st := []) rfl rfl (js_o8b hb) rfl) rfl rfl (by rw [ql_19]; exact Nat.le_of_ble_eq_true rfl) (Nat.le_of_ble_eq_true rfl) hd hz
theorem kt_18_11 {E : js_E} {d : Nat} {σ σ2 : js_S} {b : Int} (hb : b = 0 ∨ b = 25) {w : Int} (hd : 1 ≤ d) (hz : js_J E (d - 1) 19 0 [(2, 8 + b)] [] σ = js_t E w σ2) : js_J E d 18 11 [(2, 8 + b)] [(2, 8 + b)] σ = js_t E w σ2 :=
  j_callT (m := 0) (js_caV q_18_11 (js_Mo qy_18 qm_1_49)) (js_agV (av := []) (st := []) rfl rfl (js_o8b hb) rfl) rfl rfl (by rw [ql_19]; exact Nat.le_of_ble_eq_true rfl) (Nat.le_of_ble_eq_true rfl) hd rfl hz
theorem b_18_14 {E : js_E} {d : Nat} {σ : js_S} {b : Int} : js_J E d 18 14 [(2, 8 + b)] [] σ = js_r0 E σ :=
  j_return q_18_14 qr_18
-- 19: VitalTwin$Code.beginUnit ()V
theorem b_19_0 {E : js_E} {d : Nat} {σ : js_S} {b : Int} (hb : b = 0 ∨ b = 25) : js_J E d 19 0 [(2, 8 + b)] [] σ = js_r0 E (js_up (js_up (js_up (js_up (js_up σ (8 + b) 7 0) (8 + b) 9 0) (8 + b) 10 0) (8 + b) 11 0) (8 + b) 12 0) :=
  (j_aload_n q_19_0 rfl).trans <| (j_iconst q_19_1).trans <| (j_putI (ji := 7) q_19_2 (js_Fo qy_19 qf_1_52) rfl (js_o8b hb) rfl rfl rfl).trans <| (j_aload_n q_19_5 rfl).trans <| (j_iconst q_19_6).trans <| (j_putI (ji := 9) q_19_7 (js_Fo qy_19 qf_1_55) rfl (js_o8b hb) rfl rfl rfl).trans <| (j_aload_n q_19_10 rfl).trans <| (j_iconst q_19_11).trans <| (j_putI (ji := 10) q_19_12 (js_Fo qy_19 qf_1_58) rfl (js_o8b hb) rfl rfl rfl).trans <| (j_aload_n q_19_15 rfl).trans <| (j_iconst q_19_16).trans <| (j_putI (ji := 11) q_19_17 (js_Fo qy_19 qf_1_61) rfl (js_o8b hb) rfl rfl rfl).trans <| (j_aload_n q_19_20 rfl).trans <| (j_iconst q_19_21).trans <| (j_putI (ji := 12) q_19_22 (js_Fo qy_19 qf_1_64) rfl (js_o8b hb) rfl rfl rfl).trans <| j_return q_19_25 qr_19
-- 20: VitalTwin$Statements.clear ()V
theorem b_20_0 {E : js_E} {d : Nat} {σ : js_S} {b : Int} (hb : b = 0 ∨ b = 25) : js_J E d 20 0 [(2, 22 + b)] [] σ = js_J E d 20 9 [(2, 22 + b)] [(2, 23 + b)] (js_up σ (22 + b) 0 (-1)) :=
  (j_aload_n q_20_0 rfl).trans <| (j_iconst q_20_1).trans <| (j_putI (ji := 0) q_20_2 (js_Fo qy_20 qf_10_39) rfl (js_o22b hb) rfl rfl rfl).trans <| (j_aload_n q_20_5 rfl).trans <| (j_get (ji := 5) (v := (2, 23 + b)) q_20_6 (js_Fo qy_20 qf_10_35) (js_o22b hb) rfl rfl rfl rfl).trans <| rfl
theorem k_20_9 {E : js_E} {d : Nat} {σ σ2 : js_S} {b : Int} (hb : b = 0 ∨ b = 25) (hd : 1 ≤ d) (hz : js_J E (d - 1) 21 0 [(2, 23 + b)] [] σ = js_r0 E σ2) : js_J E d 20 9 [(2, 22 + b)] [(2, 23 + b)] σ = js_J E d 20 12 [(2, 22 + b)] [] σ2 :=
  j_call0 (m := 0) (js_caV q_20_9 (js_Mo qy_20 qm_10_43)) (js_agV (av := []) (st := []) rfl rfl (js_o23b hb) rfl) rfl rfl (by rw [ql_21]; exact Nat.le_of_ble_eq_true rfl) (Nat.le_of_ble_eq_true rfl) hd hz
theorem kt_20_9 {E : js_E} {d : Nat} {σ σ2 : js_S} {b : Int} (hb : b = 0 ∨ b = 25) {w : Int} (hd : 1 ≤ d) (hz : js_J E (d - 1) 21 0 [(2, 23 + b)] [] σ = js_t E w σ2) : js_J E d 20 9 [(2, 22 + b)] [(2, 23 + b)] σ = js_t E w σ2 :=
  j_callT (m := 0) (js_caV q_20_9 (js_Mo qy_20 qm_10_43)) (js_agV (av := []) (st := []) rfl rfl (js_o23b hb) rfl) rfl rfl (by rw [ql_21]; exact Nat.le_of_ble_eq_true rfl) (Nat.le_of_ble_eq_true rfl) hd rfl hz
theorem b_20_12 {E : js_E} {d : Nat} {σ : js_S} {b : Int} : js_J E d 20 12 [(2, 22 + b)] [] σ = js_r0 E σ :=
  j_return q_20_12 qr_20
-- 21: VitalTwin$Expressions.clear ()V
theorem b_21_0 {E : js_E} {d : Nat} {σ : js_S} {b : Int} (hb : b = 0 ∨ b = 25) : js_J E d 21 0 [(2, 23 + b)] [] σ = js_r0 E (js_up σ (23 + b) 15 0) :=
  (j_aload_n q_21_0 rfl).trans <| (j_iconst q_21_1).trans <| (j_putI (ji := 15) q_21_2 (js_Fo qy_21 qf_5_52) rfl (js_o23b hb) rfl rfl rfl).trans <| j_return q_21_5 qr_21
-- 22: VitalTwin$Reader.begin ()V
theorem b_22_0 {E : js_E} {d : Nat} {σ : js_S} : js_J E d 22 0 [(2, 1), (9, 0), (9, 0), (9, 0)] [] σ = (if js_w (σ 1 0) < js_w 8193 then js_J E d 22 47 [(2, 1), (0, 0), (0, 0), (9, 0)] [] (js_up σ 1 10 0) else js_J E d 22 20 [(2, 1), (9, 0), (9, 0), (9, 0)] [(0, 8192 + 1), (2, 1)] σ) :=
  (j_aload_n q_22_0 rfl).trans <| (j_get (ji := 8) (v := (2, 4)) q_22_1 (js_Fo qy_22 qf_8_18) js_o1 rfl rfl rfl rfl).trans <| (j_alen q_22_4 js_o4 (by decide) (by decide)).trans <| (j_aload_n q_22_5 rfl).trans <| (j_get (ji := 0) (v := (0, σ 1 0)) q_22_6 (js_Fo qy_22 qf_8_29) js_o1 rfl rfl rfl rfl).trans <| (j_cmpgt (t := 38) q_22_9 rfl).trans (js_ite ((j_aload_n q_22_38 rfl).trans <| (j_iconst q_22_39).trans <| (j_putI (ji := 10) q_22_40 (js_Fo qy_22 qf_8_54) rfl js_o1 rfl rfl rfl).trans <| (j_iconst q_22_43).trans <| (j_istore_n (l2 := [(2, 1), (0, 0), (9, 0), (9, 0)]) q_22_44 rfl (Nat.le_of_ble_eq_true rfl)).trans <| (j_iconst q_22_45).trans <| (j_istore_n (l2 := [(2, 1), (0, 0), (0, 0), (9, 0)]) q_22_46 rfl (Nat.le_of_ble_eq_true rfl)).trans <| rfl) ((j_aload_n q_22_12 rfl).trans <| (j_aload_n q_22_13 rfl).trans <| (j_get (ji := 7) (v := (2, 3)) q_22_14 (js_Fo qy_22 qf_8_15) js_o1 rfl rfl rfl rfl).trans <| (j_alen q_22_17 js_o3 (by decide) (by decide)).trans <| (j_iconst q_22_18).trans <| (j_iadd q_22_19).trans <| rfl))
theorem b_22_47 {E : js_E} {d : Nat} {σ : js_S} {x1 x2 : Int} {ux3 : js_v} : js_J E d 22 47 [(2, 1), (0, x1), (0, x2), ux3] [] σ = (if js_w x2 < 65536 then (if js_w x1 < js_w (σ 1 0) then js_J E d 22 63 [(2, 1), (0, x1), (0, x2), ux3] [(0, x1), (2, 1)] σ else js_J E d 22 89 [(2, 1), (0, x1), (0, x2), ux3] [] σ) else js_J E d 22 89 [(2, 1), (0, x1), (0, x2), ux3] [] σ) :=
  (j_iload_n q_22_47 rfl).trans <| (j_ldc (v := (0, 65536)) q_22_48 (js_Co qy_22 qc_8_33)).trans <| (j_cmpgeB (t := 89) q_22_50 rfl ww_65536).trans (js_ite ((j_iload_n q_22_53 rfl).trans <| (j_aload_n q_22_54 rfl).trans <| (j_get (ji := 0) (v := (0, σ 1 0)) q_22_55 (js_Fo qy_22 qf_8_29) js_o1 rfl rfl rfl rfl).trans <| (j_cmpge (t := 89) q_22_58 rfl).trans (js_ite ((j_aload_n q_22_61 rfl).trans <| (j_iload_n q_22_62 rfl).trans <| rfl) (rfl))) (rfl))
theorem k_22_63 {E : js_E} {d : Nat} {σ σ2 : js_S} {x1 x2 z1 : Int} {ux3 : js_v} {v : Int} (hd : 1 ≤ d) (hz : js_J E (d - 1) 23 0 [(2, 1), (0, z1), (9, 0)] [] σ = js_r E (0, v) σ2) : js_J E d 22 63 [(2, 1), (0, x1), (0, x2), ux3] [(0, z1), (2, 1)] σ = js_J E d 22 66 [(2, 1), (0, x1), (0, x2), ux3] [(0, v)] σ2 :=
  j_call (m := 1) (js_caV q_22_63 (js_Mo qy_22 qm_8_57)) (js_agV (av := [(0, z1)]) (st := []) rfl rfl js_o1 rfl) rfl rfl (by rw [ql_23]; exact Nat.le_of_ble_eq_true rfl) (Nat.le_of_ble_eq_true rfl) hd hz
theorem kt_22_63 {E : js_E} {d : Nat} {σ σ2 : js_S} {x1 x2 z1 : Int} {ux3 : js_v} {w : Int} (hd : 1 ≤ d) (hz : js_J E (d - 1) 23 0 [(2, 1), (0, z1), (9, 0)] [] σ = js_t E w σ2) : js_J E d 22 63 [(2, 1), (0, x1), (0, x2), ux3] [(0, z1), (2, 1)] σ = js_t E w σ2 :=
  j_callT (m := 1) (js_caV q_22_63 (js_Mo qy_22 qm_8_57)) (js_agV (av := [(0, z1)]) (st := []) rfl rfl js_o1 rfl) rfl rfl (by rw [ql_23]; exact Nat.le_of_ble_eq_true rfl) (Nat.le_of_ble_eq_true rfl) hd rfl hz
theorem b_22_66 {E : js_E} {d : Nat} {σ : js_S} {x1 x2 z0 : Int} {ux3 : js_v} : js_J E d 22 66 [(2, 1), (0, x1), (0, x2), ux3] [(0, z0)] σ = js_J E d 22 71 [(2, 1), (0, x1), (0, x2), (0, z0)] [(0, z0), (0, x1), (2, 1), (2, 1)] σ :=
  (j_istore_n (l2 := [(2, 1), (0, x1), (0, x2), (0, z0)]) q_22_66 rfl (Nat.le_of_ble_eq_true rfl)).trans <| (j_aload_n q_22_67 rfl).trans <| (j_aload_n q_22_68 rfl).trans <| (j_iload_n q_22_69 rfl).trans <| (j_iload_n q_22_70 rfl).trans <| rfl
theorem k_22_71 {E : js_E} {d : Nat} {σ σ2 : js_S} {x1 x2 x3 z2 z3 : Int} {v : Int} (hd : 1 ≤ d) (hz : js_J E (d - 1) 29 0 [(2, 1), (0, z2), (0, z3), (9, 0)] [] σ = js_r E (0, v) σ2) : js_J E d 22 71 [(2, 1), (0, x1), (0, x2), (0, x3)] [(0, z3), (0, z2), (2, 1), (2, 1)] σ = js_J E d 22 74 [(2, 1), (0, x1), (0, x2), (0, x3)] [(0, v), (2, 1)] σ2 :=
  j_call (m := 1) (js_caV q_22_71 (js_Mo qy_22 qm_8_61)) (js_agV (av := [(0, z2), (0, z3)]) (st := [(2, 1)]) rfl rfl js_o1 rfl) rfl rfl (by rw [ql_29]; exact Nat.le_of_ble_eq_true rfl) (Nat.le_of_ble_eq_true rfl) hd hz
theorem kt_22_71 {E : js_E} {d : Nat} {σ σ2 : js_S} {x1 x2 x3 z2 z3 : Int} {w : Int} (hd : 1 ≤ d) (hz : js_J E (d - 1) 29 0 [(2, 1), (0, z2), (0, z3), (9, 0)] [] σ = js_t E w σ2) : js_J E d 22 71 [(2, 1), (0, x1), (0, x2), (0, x3)] [(0, z3), (0, z2), (2, 1), (2, 1)] σ = js_t E w σ2 :=
  j_callT (m := 1) (js_caV q_22_71 (js_Mo qy_22 qm_8_61)) (js_agV (av := [(0, z2), (0, z3)]) (st := [(2, 1)]) rfl rfl js_o1 rfl) rfl rfl (by rw [ql_29]; exact Nat.le_of_ble_eq_true rfl) (Nat.le_of_ble_eq_true rfl) hd rfl hz
theorem b_22_74 {E : js_E} {d : Nat} {σ : js_S} {x1 x2 x3 z1 : Int} : js_J E d 22 74 [(2, 1), (0, x1), (0, x2), (0, x3)] [(0, z1), (2, 1)] σ = js_J E d 22 78 [(2, 1), (0, x1), (0, x2), (0, x3)] [(0, x3 - x1), (0, x1), (0, z1), (2, 1)] σ :=
  (j_iload_n q_22_74 rfl).trans <| (j_iload_n q_22_75 rfl).trans <| (j_iload_n q_22_76 rfl).trans <| (j_isub q_22_77).trans <| rfl
theorem k_22_78 {E : js_E} {d : Nat} {σ σ2 : js_S} {x1 x2 x3 z1 z2 z3 : Int} (hd : 1 ≤ d) (hz : js_J E (d - 1) 32 0 [(2, 1), (0, z1), (0, z2), (0, z3)] [] σ = js_r0 E σ2) : js_J E d 22 78 [(2, 1), (0, x1), (0, x2), (0, x3)] [(0, z3), (0, z2), (0, z1), (2, 1)] σ = js_J E d 22 81 [(2, 1), (0, x1), (0, x2), (0, x3)] [] σ2 :=
  j_call0 (m := 0) (js_caV q_22_78 (js_Mo qy_22 qm_8_64)) (js_agV (av := [(0, z1), (0, z2), (0, z3)]) (st := []) rfl rfl js_o1 rfl) rfl rfl (by rw [ql_32]; exact Nat.le_of_ble_eq_true rfl) (Nat.le_of_ble_eq_true rfl) hd hz
theorem kt_22_78 {E : js_E} {d : Nat} {σ σ2 : js_S} {x1 x2 x3 z1 z2 z3 : Int} {w : Int} (hd : 1 ≤ d) (hz : js_J E (d - 1) 32 0 [(2, 1), (0, z1), (0, z2), (0, z3)] [] σ = js_t E w σ2) : js_J E d 22 78 [(2, 1), (0, x1), (0, x2), (0, x3)] [(0, z3), (0, z2), (0, z1), (2, 1)] σ = js_t E w σ2 :=
  j_callT (m := 0) (js_caV q_22_78 (js_Mo qy_22 qm_8_64)) (js_agV (av := [(0, z1), (0, z2), (0, z3)]) (st := []) rfl rfl js_o1 rfl) rfl rfl (by rw [ql_32]; exact Nat.le_of_ble_eq_true rfl) (Nat.le_of_ble_eq_true rfl) hd rfl hz
theorem b_22_81 {E : js_E} {d : Nat} {σ : js_S} {x1 x2 x3 : Int} : js_J E d 22 81 [(2, 1), (0, x1), (0, x2), (0, x3)] [] σ = js_J E d 22 47 [(2, 1), (0, x3), (0, x2 + 1), (0, x3)] [] σ :=
  (j_iload_n q_22_81 rfl).trans <| (j_istore_n (l2 := [(2, 1), (0, x3), (0, x2), (0, x3)]) q_22_82 rfl (Nat.le_of_ble_eq_true rfl)).trans <| (j_iinc (l2 := [(2, 1), (0, x3), (0, x2 + 1), (0, x3)]) q_22_83 rfl rfl).trans <| (j_goto (t := 47) q_22_86 rfl).trans <| rfl
theorem b_22_89 {E : js_E} {d : Nat} {σ : js_S} {x1 x2 : Int} {ux3 : js_v} : js_J E d 22 89 [(2, 1), (0, x1), (0, x2), ux3] [] σ = js_J E d 22 96 [(2, 1), (0, x1), (0, x2), ux3] [(0, 0), (0, σ 1 0), (0, 0), (2, 1)] σ :=
  (j_aload_n q_22_89 rfl).trans <| (j_iconst q_22_90).trans <| (j_aload_n q_22_91 rfl).trans <| (j_get (ji := 0) (v := (0, σ 1 0)) q_22_92 (js_Fo qy_22 qf_8_29) js_o1 rfl rfl rfl rfl).trans <| (j_iconst q_22_95).trans <| rfl
theorem k_22_96 {E : js_E} {d : Nat} {σ σ2 : js_S} {x1 x2 z1 z2 z3 : Int} {ux3 : js_v} (hd : 1 ≤ d) (hz : js_J E (d - 1) 32 0 [(2, 1), (0, z1), (0, z2), (0, z3)] [] σ = js_r0 E σ2) : js_J E d 22 96 [(2, 1), (0, x1), (0, x2), ux3] [(0, z3), (0, z2), (0, z1), (2, 1)] σ = js_J E d 22 99 [(2, 1), (0, x1), (0, x2), ux3] [] σ2 :=
  j_call0 (m := 0) (js_caV q_22_96 (js_Mo qy_22 qm_8_64)) (js_agV (av := [(0, z1), (0, z2), (0, z3)]) (st := []) rfl rfl js_o1 rfl) rfl rfl (by rw [ql_32]; exact Nat.le_of_ble_eq_true rfl) (Nat.le_of_ble_eq_true rfl) hd hz
theorem kt_22_96 {E : js_E} {d : Nat} {σ σ2 : js_S} {x1 x2 z1 z2 z3 : Int} {ux3 : js_v} {w : Int} (hd : 1 ≤ d) (hz : js_J E (d - 1) 32 0 [(2, 1), (0, z1), (0, z2), (0, z3)] [] σ = js_t E w σ2) : js_J E d 22 96 [(2, 1), (0, x1), (0, x2), ux3] [(0, z3), (0, z2), (0, z1), (2, 1)] σ = js_t E w σ2 :=
  j_callT (m := 0) (js_caV q_22_96 (js_Mo qy_22 qm_8_64)) (js_agV (av := [(0, z1), (0, z2), (0, z3)]) (st := []) rfl rfl js_o1 rfl) rfl rfl (by rw [ql_32]; exact Nat.le_of_ble_eq_true rfl) (Nat.le_of_ble_eq_true rfl) hd rfl hz
theorem b_22_99 {E : js_E} {d : Nat} {σ : js_S} {x1 x2 : Int} {ux3 : js_v} : js_J E d 22 99 [(2, 1), (0, x1), (0, x2), ux3] [] σ = js_J E d 22 115 [(2, 1), (0, x1), (0, x2), ux3] [(2, 1)] (js_up (js_up (js_up σ 1 5 0) 1 6 0) 1 11 (-1)) :=
  (j_aload_n q_22_99 rfl).trans <| (j_iconst q_22_100).trans <| (j_putI (ji := 5) q_22_101 (js_Fo qy_22 qf_8_68) rfl js_o1 rfl rfl rfl).trans <| (j_aload_n q_22_104 rfl).trans <| (j_iconst q_22_105).trans <| (j_putI (ji := 6) q_22_106 (js_Fo qy_22 qf_8_71) rfl js_o1 rfl rfl rfl).trans <| (j_aload_n q_22_109 rfl).trans <| (j_iconst q_22_110).trans <| (j_putI (ji := 11) q_22_111 (js_Fo qy_22 qf_8_74) rfl js_o1 rfl rfl rfl).trans <| (j_aload_n q_22_114 rfl).trans <| rfl
theorem k_22_115 {E : js_E} {d : Nat} {σ σ2 : js_S} {x1 x2 : Int} {ux3 : js_v} (hd : 1 ≤ d) (hz : js_J E (d - 1) 33 0 [(2, 1), (9, 0)] [] σ = js_r0 E σ2) : js_J E d 22 115 [(2, 1), (0, x1), (0, x2), ux3] [(2, 1)] σ = js_J E d 22 118 [(2, 1), (0, x1), (0, x2), ux3] [] σ2 :=
  j_call0 (m := 1) (js_caV q_22_115 (js_Mo qy_22 qm_8_77)) (js_agV (av := []) (st := []) rfl rfl js_o1 rfl) rfl rfl (by rw [ql_33]; exact Nat.le_of_ble_eq_true rfl) (Nat.le_of_ble_eq_true rfl) hd hz
theorem kt_22_115 {E : js_E} {d : Nat} {σ σ2 : js_S} {x1 x2 : Int} {ux3 : js_v} {w : Int} (hd : 1 ≤ d) (hz : js_J E (d - 1) 33 0 [(2, 1), (9, 0)] [] σ = js_t E w σ2) : js_J E d 22 115 [(2, 1), (0, x1), (0, x2), ux3] [(2, 1)] σ = js_t E w σ2 :=
  j_callT (m := 1) (js_caV q_22_115 (js_Mo qy_22 qm_8_77)) (js_agV (av := []) (st := []) rfl rfl js_o1 rfl) rfl rfl (by rw [ql_33]; exact Nat.le_of_ble_eq_true rfl) (Nat.le_of_ble_eq_true rfl) hd rfl hz
theorem b_22_118 {E : js_E} {d : Nat} {σ : js_S} {x1 x2 : Int} {ux3 : js_v} : js_J E d 22 118 [(2, 1), (0, x1), (0, x2), ux3] [] σ = js_r0 E σ :=
  j_return q_22_118 qr_22
-- 23: VitalTwin$Reader.behindToken (I)I
theorem b_23_0 {E : js_E} {d : Nat} {σ : js_S} {x1 : Int} : js_J E d 23 0 [(2, 1), (0, x1), (9, 0)] [] σ = js_J E d 23 6 [(2, 1), (0, x1), (0, x1 + 1)] [(0, x1), (2, 1)] σ :=
  (j_iload_n q_23_0 rfl).trans <| (j_iconst q_23_1).trans <| (j_iadd q_23_2).trans <| (j_istore_n (l2 := [(2, 1), (0, x1), (0, x1 + 1)]) q_23_3 rfl (Nat.le_of_ble_eq_true rfl)).trans <| (j_aload_n q_23_4 rfl).trans <| (j_iload_n q_23_5 rfl).trans <| rfl
theorem k_23_6 {E : js_E} {d : Nat} {σ σ2 : js_S} {x1 x2 z1 : Int} {v : Int} (hd : 1 ≤ d) (hz : js_J E (d - 1) 24 0 [(2, 1), (0, z1)] [] σ = js_r E (0, v) σ2) : js_J E d 23 6 [(2, 1), (0, x1), (0, x2)] [(0, z1), (2, 1)] σ = js_J E d 23 9 [(2, 1), (0, x1), (0, x2)] [(0, v)] σ2 :=
  j_call (m := 0) (js_caV q_23_6 (js_Mo qy_23 qm_8_83)) (js_agV (av := [(0, z1)]) (st := []) rfl rfl js_o1 rfl) rfl rfl (by rw [ql_24]; exact Nat.le_of_ble_eq_true rfl) (Nat.le_of_ble_eq_true rfl) hd hz
theorem kt_23_6 {E : js_E} {d : Nat} {σ σ2 : js_S} {x1 x2 z1 : Int} {w : Int} (hd : 1 ≤ d) (hz : js_J E (d - 1) 24 0 [(2, 1), (0, z1)] [] σ = js_t E w σ2) : js_J E d 23 6 [(2, 1), (0, x1), (0, x2)] [(0, z1), (2, 1)] σ = js_t E w σ2 :=
  j_callT (m := 0) (js_caV q_23_6 (js_Mo qy_23 qm_8_83)) (js_agV (av := [(0, z1)]) (st := []) rfl rfl js_o1 rfl) rfl rfl (by rw [ql_24]; exact Nat.le_of_ble_eq_true rfl) (Nat.le_of_ble_eq_true rfl) hd rfl hz
theorem k_23_9 {E : js_E} {d : Nat} {σ σ2 : js_S} {x1 x2 z0 : Int} {v : Int} (hd : 1 ≤ d) (hz : js_J E (d - 1) 25 0 [(0, z0)] [] σ = js_r E (0, v) σ2) : js_J E d 23 9 [(2, 1), (0, x1), (0, x2)] [(0, z0)] σ = js_J E d 23 12 [(2, 1), (0, x1), (0, x2)] [(0, v)] σ2 :=
  j_call (m := 0) (js_caS q_23_9 (js_Mo qy_23 qm_8_86)) (js_agS (av := [(0, z0)]) (st := []) rfl rfl) rfl rfl (by rw [ql_25]; exact Nat.le_of_ble_eq_true rfl) (Nat.le_of_ble_eq_true rfl) hd hz
theorem kt_23_9 {E : js_E} {d : Nat} {σ σ2 : js_S} {x1 x2 z0 : Int} {w : Int} (hd : 1 ≤ d) (hz : js_J E (d - 1) 25 0 [(0, z0)] [] σ = js_t E w σ2) : js_J E d 23 9 [(2, 1), (0, x1), (0, x2)] [(0, z0)] σ = js_t E w σ2 :=
  j_callT (m := 0) (js_caS q_23_9 (js_Mo qy_23 qm_8_86)) (js_agS (av := [(0, z0)]) (st := []) rfl rfl) rfl rfl (by rw [ql_25]; exact Nat.le_of_ble_eq_true rfl) (Nat.le_of_ble_eq_true rfl) hd rfl hz
theorem b_23_12 {E : js_E} {d : Nat} {σ : js_S} {x1 x2 z0 : Int} : js_J E d 23 12 [(2, 1), (0, x1), (0, x2)] [(0, z0)] σ = (if js_w z0 = 0 then js_J E d 23 53 [(2, 1), (0, x1), (0, x2)] [(0, x1), (2, 1)] σ else js_J E d 23 15 [(2, 1), (0, x1), (0, x2)] [] σ) :=
  (j_ifeq (t := 51) q_23_12 rfl).trans (js_ite ((j_aload_n q_23_51 rfl).trans <| (j_iload_n q_23_52 rfl).trans <| rfl) (rfl))
theorem b_23_15 {E : js_E} {d : Nat} {σ : js_S} {x1 x2 : Int} : js_J E d 23 15 [(2, 1), (0, x1), (0, x2)] [] σ = (if js_w x2 < js_w (σ 1 0) then js_J E d 23 25 [(2, 1), (0, x1), (0, x2)] [(0, x2), (2, 1)] σ else js_r E (0, x2) σ) :=
  (j_iload_n q_23_15 rfl).trans <| (j_aload_n q_23_16 rfl).trans <| (j_get (ji := 0) (v := (0, σ 1 0)) q_23_17 (js_Fo qy_23 qf_8_29) js_o1 rfl rfl rfl rfl).trans <| (j_cmpge (t := 139) q_23_20 rfl).trans (js_ite ((j_aload_n q_23_23 rfl).trans <| (j_iload_n q_23_24 rfl).trans <| rfl) ((j_iload_n q_23_139 rfl).trans <| j_ireturn q_23_140 qr_23))
theorem k_23_25 {E : js_E} {d : Nat} {σ σ2 : js_S} {x1 x2 z1 : Int} {v : Int} (hd : 1 ≤ d) (hz : js_J E (d - 1) 24 0 [(2, 1), (0, z1)] [] σ = js_r E (0, v) σ2) : js_J E d 23 25 [(2, 1), (0, x1), (0, x2)] [(0, z1), (2, 1)] σ = js_J E d 23 28 [(2, 1), (0, x1), (0, x2)] [(0, v)] σ2 :=
  j_call (m := 0) (js_caV q_23_25 (js_Mo qy_23 qm_8_83)) (js_agV (av := [(0, z1)]) (st := []) rfl rfl js_o1 rfl) rfl rfl (by rw [ql_24]; exact Nat.le_of_ble_eq_true rfl) (Nat.le_of_ble_eq_true rfl) hd hz
theorem kt_23_25 {E : js_E} {d : Nat} {σ σ2 : js_S} {x1 x2 z1 : Int} {w : Int} (hd : 1 ≤ d) (hz : js_J E (d - 1) 24 0 [(2, 1), (0, z1)] [] σ = js_t E w σ2) : js_J E d 23 25 [(2, 1), (0, x1), (0, x2)] [(0, z1), (2, 1)] σ = js_t E w σ2 :=
  j_callT (m := 0) (js_caV q_23_25 (js_Mo qy_23 qm_8_83)) (js_agV (av := [(0, z1)]) (st := []) rfl rfl js_o1 rfl) rfl rfl (by rw [ql_24]; exact Nat.le_of_ble_eq_true rfl) (Nat.le_of_ble_eq_true rfl) hd rfl hz
theorem k_23_28 {E : js_E} {d : Nat} {σ σ2 : js_S} {x1 x2 z0 : Int} {v : Int} (hd : 1 ≤ d) (hz : js_J E (d - 1) 25 0 [(0, z0)] [] σ = js_r E (0, v) σ2) : js_J E d 23 28 [(2, 1), (0, x1), (0, x2)] [(0, z0)] σ = js_J E d 23 31 [(2, 1), (0, x1), (0, x2)] [(0, v)] σ2 :=
  j_call (m := 0) (js_caS q_23_28 (js_Mo qy_23 qm_8_86)) (js_agS (av := [(0, z0)]) (st := []) rfl rfl) rfl rfl (by rw [ql_25]; exact Nat.le_of_ble_eq_true rfl) (Nat.le_of_ble_eq_true rfl) hd hz
theorem kt_23_28 {E : js_E} {d : Nat} {σ σ2 : js_S} {x1 x2 z0 : Int} {w : Int} (hd : 1 ≤ d) (hz : js_J E (d - 1) 25 0 [(0, z0)] [] σ = js_t E w σ2) : js_J E d 23 28 [(2, 1), (0, x1), (0, x2)] [(0, z0)] σ = js_t E w σ2 :=
  j_callT (m := 0) (js_caS q_23_28 (js_Mo qy_23 qm_8_86)) (js_agS (av := [(0, z0)]) (st := []) rfl rfl) rfl rfl (by rw [ql_25]; exact Nat.le_of_ble_eq_true rfl) (Nat.le_of_ble_eq_true rfl) hd rfl hz
theorem b_23_31 {E : js_E} {d : Nat} {σ : js_S} {x1 x2 z0 : Int} : js_J E d 23 31 [(2, 1), (0, x1), (0, x2)] [(0, z0)] σ = (if js_w z0 = 0 then js_J E d 23 36 [(2, 1), (0, x1), (0, x2)] [(0, x2), (2, 1)] σ else js_J E d 23 45 [(2, 1), (0, x1), (0, x2)] [] σ) :=
  (j_ifne (t := 45) q_23_31 rfl).trans (js_ite ((j_aload_n q_23_34 rfl).trans <| (j_iload_n q_23_35 rfl).trans <| rfl) (rfl))
theorem k_23_36 {E : js_E} {d : Nat} {σ σ2 : js_S} {x1 x2 z1 : Int} {v : Int} (hd : 1 ≤ d) (hz : js_J E (d - 1) 24 0 [(2, 1), (0, z1)] [] σ = js_r E (0, v) σ2) : js_J E d 23 36 [(2, 1), (0, x1), (0, x2)] [(0, z1), (2, 1)] σ = js_J E d 23 39 [(2, 1), (0, x1), (0, x2)] [(0, v)] σ2 :=
  j_call (m := 0) (js_caV q_23_36 (js_Mo qy_23 qm_8_83)) (js_agV (av := [(0, z1)]) (st := []) rfl rfl js_o1 rfl) rfl rfl (by rw [ql_24]; exact Nat.le_of_ble_eq_true rfl) (Nat.le_of_ble_eq_true rfl) hd hz
theorem kt_23_36 {E : js_E} {d : Nat} {σ σ2 : js_S} {x1 x2 z1 : Int} {w : Int} (hd : 1 ≤ d) (hz : js_J E (d - 1) 24 0 [(2, 1), (0, z1)] [] σ = js_t E w σ2) : js_J E d 23 36 [(2, 1), (0, x1), (0, x2)] [(0, z1), (2, 1)] σ = js_t E w σ2 :=
  j_callT (m := 0) (js_caV q_23_36 (js_Mo qy_23 qm_8_83)) (js_agV (av := [(0, z1)]) (st := []) rfl rfl js_o1 rfl) rfl rfl (by rw [ql_24]; exact Nat.le_of_ble_eq_true rfl) (Nat.le_of_ble_eq_true rfl) hd rfl hz
theorem k_23_39 {E : js_E} {d : Nat} {σ σ2 : js_S} {x1 x2 z0 : Int} {v : Int} (hd : 1 ≤ d) (hz : js_J E (d - 1) 26 0 [(0, z0)] [] σ = js_r E (0, v) σ2) : js_J E d 23 39 [(2, 1), (0, x1), (0, x2)] [(0, z0)] σ = js_J E d 23 42 [(2, 1), (0, x1), (0, x2)] [(0, v)] σ2 :=
  j_call (m := 0) (js_caS q_23_39 (js_Mo qy_23 qm_8_90)) (js_agS (av := [(0, z0)]) (st := []) rfl rfl) rfl rfl (by rw [ql_26]; exact Nat.le_of_ble_eq_true rfl) (Nat.le_of_ble_eq_true rfl) hd hz
theorem kt_23_39 {E : js_E} {d : Nat} {σ σ2 : js_S} {x1 x2 z0 : Int} {w : Int} (hd : 1 ≤ d) (hz : js_J E (d - 1) 26 0 [(0, z0)] [] σ = js_t E w σ2) : js_J E d 23 39 [(2, 1), (0, x1), (0, x2)] [(0, z0)] σ = js_t E w σ2 :=
  j_callT (m := 0) (js_caS q_23_39 (js_Mo qy_23 qm_8_90)) (js_agS (av := [(0, z0)]) (st := []) rfl rfl) rfl rfl (by rw [ql_26]; exact Nat.le_of_ble_eq_true rfl) (Nat.le_of_ble_eq_true rfl) hd rfl hz
theorem b_23_42 {E : js_E} {d : Nat} {σ : js_S} {x1 x2 z0 : Int} : js_J E d 23 42 [(2, 1), (0, x1), (0, x2)] [(0, z0)] σ = (if js_w z0 = 0 then js_r E (0, x2) σ else js_J E d 23 45 [(2, 1), (0, x1), (0, x2)] [] σ) :=
  (j_ifeq (t := 139) q_23_42 rfl).trans (js_ite ((j_iload_n q_23_139 rfl).trans <| j_ireturn q_23_140 qr_23) (rfl))
theorem b_23_45 {E : js_E} {d : Nat} {σ : js_S} {x1 x2 : Int} : js_J E d 23 45 [(2, 1), (0, x1), (0, x2)] [] σ = js_J E d 23 15 [(2, 1), (0, x1), (0, x2 + 1)] [] σ :=
  (j_iinc (l2 := [(2, 1), (0, x1), (0, x2 + 1)]) q_23_45 rfl rfl).trans <| (j_goto (t := 15) q_23_48 rfl).trans <| rfl
theorem k_23_53 {E : js_E} {d : Nat} {σ σ2 : js_S} {x1 x2 z1 : Int} {v : Int} (hd : 1 ≤ d) (hz : js_J E (d - 1) 24 0 [(2, 1), (0, z1)] [] σ = js_r E (0, v) σ2) : js_J E d 23 53 [(2, 1), (0, x1), (0, x2)] [(0, z1), (2, 1)] σ = js_J E d 23 56 [(2, 1), (0, x1), (0, x2)] [(0, v)] σ2 :=
  j_call (m := 0) (js_caV q_23_53 (js_Mo qy_23 qm_8_83)) (js_agV (av := [(0, z1)]) (st := []) rfl rfl js_o1 rfl) rfl rfl (by rw [ql_24]; exact Nat.le_of_ble_eq_true rfl) (Nat.le_of_ble_eq_true rfl) hd hz
theorem kt_23_53 {E : js_E} {d : Nat} {σ σ2 : js_S} {x1 x2 z1 : Int} {w : Int} (hd : 1 ≤ d) (hz : js_J E (d - 1) 24 0 [(2, 1), (0, z1)] [] σ = js_t E w σ2) : js_J E d 23 53 [(2, 1), (0, x1), (0, x2)] [(0, z1), (2, 1)] σ = js_t E w σ2 :=
  j_callT (m := 0) (js_caV q_23_53 (js_Mo qy_23 qm_8_83)) (js_agV (av := [(0, z1)]) (st := []) rfl rfl js_o1 rfl) rfl rfl (by rw [ql_24]; exact Nat.le_of_ble_eq_true rfl) (Nat.le_of_ble_eq_true rfl) hd rfl hz
theorem k_23_56 {E : js_E} {d : Nat} {σ σ2 : js_S} {x1 x2 z0 : Int} {v : Int} (hd : 1 ≤ d) (hz : js_J E (d - 1) 26 0 [(0, z0)] [] σ = js_r E (0, v) σ2) : js_J E d 23 56 [(2, 1), (0, x1), (0, x2)] [(0, z0)] σ = js_J E d 23 59 [(2, 1), (0, x1), (0, x2)] [(0, v)] σ2 :=
  j_call (m := 0) (js_caS q_23_56 (js_Mo qy_23 qm_8_90)) (js_agS (av := [(0, z0)]) (st := []) rfl rfl) rfl rfl (by rw [ql_26]; exact Nat.le_of_ble_eq_true rfl) (Nat.le_of_ble_eq_true rfl) hd hz
theorem kt_23_56 {E : js_E} {d : Nat} {σ σ2 : js_S} {x1 x2 z0 : Int} {w : Int} (hd : 1 ≤ d) (hz : js_J E (d - 1) 26 0 [(0, z0)] [] σ = js_t E w σ2) : js_J E d 23 56 [(2, 1), (0, x1), (0, x2)] [(0, z0)] σ = js_t E w σ2 :=
  j_callT (m := 0) (js_caS q_23_56 (js_Mo qy_23 qm_8_90)) (js_agS (av := [(0, z0)]) (st := []) rfl rfl) rfl rfl (by rw [ql_26]; exact Nat.le_of_ble_eq_true rfl) (Nat.le_of_ble_eq_true rfl) hd rfl hz
theorem b_23_59 {E : js_E} {d : Nat} {σ : js_S} {x1 x2 z0 : Int} : js_J E d 23 59 [(2, 1), (0, x1), (0, x2)] [(0, z0)] σ = (if js_w z0 = 0 then js_J E d 23 89 [(2, 1), (0, x1), (0, x2)] [(0, x1), (2, 1)] σ else js_J E d 23 62 [(2, 1), (0, x1), (0, x2)] [] σ) :=
  (j_ifeq (t := 87) q_23_59 rfl).trans (js_ite ((j_aload_n q_23_87 rfl).trans <| (j_iload_n q_23_88 rfl).trans <| rfl) (rfl))
theorem b_23_62 {E : js_E} {d : Nat} {σ : js_S} {x1 x2 : Int} : js_J E d 23 62 [(2, 1), (0, x1), (0, x2)] [] σ = (if js_w x2 < js_w (σ 1 0) then js_J E d 23 72 [(2, 1), (0, x1), (0, x2)] [(0, x2), (2, 1)] σ else js_r E (0, x2) σ) :=
  (j_iload_n q_23_62 rfl).trans <| (j_aload_n q_23_63 rfl).trans <| (j_get (ji := 0) (v := (0, σ 1 0)) q_23_64 (js_Fo qy_23 qf_8_29) js_o1 rfl rfl rfl rfl).trans <| (j_cmpge (t := 139) q_23_67 rfl).trans (js_ite ((j_aload_n q_23_70 rfl).trans <| (j_iload_n q_23_71 rfl).trans <| rfl) ((j_iload_n q_23_139 rfl).trans <| j_ireturn q_23_140 qr_23))
theorem k_23_72 {E : js_E} {d : Nat} {σ σ2 : js_S} {x1 x2 z1 : Int} {v : Int} (hd : 1 ≤ d) (hz : js_J E (d - 1) 24 0 [(2, 1), (0, z1)] [] σ = js_r E (0, v) σ2) : js_J E d 23 72 [(2, 1), (0, x1), (0, x2)] [(0, z1), (2, 1)] σ = js_J E d 23 75 [(2, 1), (0, x1), (0, x2)] [(0, v)] σ2 :=
  j_call (m := 0) (js_caV q_23_72 (js_Mo qy_23 qm_8_83)) (js_agV (av := [(0, z1)]) (st := []) rfl rfl js_o1 rfl) rfl rfl (by rw [ql_24]; exact Nat.le_of_ble_eq_true rfl) (Nat.le_of_ble_eq_true rfl) hd hz
theorem kt_23_72 {E : js_E} {d : Nat} {σ σ2 : js_S} {x1 x2 z1 : Int} {w : Int} (hd : 1 ≤ d) (hz : js_J E (d - 1) 24 0 [(2, 1), (0, z1)] [] σ = js_t E w σ2) : js_J E d 23 72 [(2, 1), (0, x1), (0, x2)] [(0, z1), (2, 1)] σ = js_t E w σ2 :=
  j_callT (m := 0) (js_caV q_23_72 (js_Mo qy_23 qm_8_83)) (js_agV (av := [(0, z1)]) (st := []) rfl rfl js_o1 rfl) rfl rfl (by rw [ql_24]; exact Nat.le_of_ble_eq_true rfl) (Nat.le_of_ble_eq_true rfl) hd rfl hz
theorem k_23_75 {E : js_E} {d : Nat} {σ σ2 : js_S} {x1 x2 z0 : Int} {v : Int} (hd : 1 ≤ d) (hz : js_J E (d - 1) 26 0 [(0, z0)] [] σ = js_r E (0, v) σ2) : js_J E d 23 75 [(2, 1), (0, x1), (0, x2)] [(0, z0)] σ = js_J E d 23 78 [(2, 1), (0, x1), (0, x2)] [(0, v)] σ2 :=
  j_call (m := 0) (js_caS q_23_75 (js_Mo qy_23 qm_8_90)) (js_agS (av := [(0, z0)]) (st := []) rfl rfl) rfl rfl (by rw [ql_26]; exact Nat.le_of_ble_eq_true rfl) (Nat.le_of_ble_eq_true rfl) hd hz
theorem kt_23_75 {E : js_E} {d : Nat} {σ σ2 : js_S} {x1 x2 z0 : Int} {w : Int} (hd : 1 ≤ d) (hz : js_J E (d - 1) 26 0 [(0, z0)] [] σ = js_t E w σ2) : js_J E d 23 75 [(2, 1), (0, x1), (0, x2)] [(0, z0)] σ = js_t E w σ2 :=
  j_callT (m := 0) (js_caS q_23_75 (js_Mo qy_23 qm_8_90)) (js_agS (av := [(0, z0)]) (st := []) rfl rfl) rfl rfl (by rw [ql_26]; exact Nat.le_of_ble_eq_true rfl) (Nat.le_of_ble_eq_true rfl) hd rfl hz
theorem b_23_78 {E : js_E} {d : Nat} {σ : js_S} {x1 x2 z0 : Int} : js_J E d 23 78 [(2, 1), (0, x1), (0, x2)] [(0, z0)] σ = (if js_w z0 = 0 then js_r E (0, x2) σ else js_J E d 23 62 [(2, 1), (0, x1), (0, x2 + 1)] [] σ) :=
  (j_ifeq (t := 139) q_23_78 rfl).trans (js_ite ((j_iload_n q_23_139 rfl).trans <| j_ireturn q_23_140 qr_23) ((j_iinc (l2 := [(2, 1), (0, x1), (0, x2 + 1)]) q_23_81 rfl rfl).trans <| (j_goto (t := 62) q_23_84 rfl).trans <| rfl))
theorem k_23_89 {E : js_E} {d : Nat} {σ σ2 : js_S} {x1 x2 z1 : Int} {v : Int} (hd : 1 ≤ d) (hz : js_J E (d - 1) 27 0 [(2, 1), (0, z1)] [] σ = js_r E (0, v) σ2) : js_J E d 23 89 [(2, 1), (0, x1), (0, x2)] [(0, z1), (2, 1)] σ = js_J E d 23 92 [(2, 1), (0, x1), (0, x2)] [(0, v)] σ2 :=
  j_call (m := 0) (js_caV q_23_89 (js_Mo qy_23 qm_8_93)) (js_agV (av := [(0, z1)]) (st := []) rfl rfl js_o1 rfl) rfl rfl (by rw [ql_27]; exact Nat.le_of_ble_eq_true rfl) (Nat.le_of_ble_eq_true rfl) hd hz
theorem kt_23_89 {E : js_E} {d : Nat} {σ σ2 : js_S} {x1 x2 z1 : Int} {w : Int} (hd : 1 ≤ d) (hz : js_J E (d - 1) 27 0 [(2, 1), (0, z1)] [] σ = js_t E w σ2) : js_J E d 23 89 [(2, 1), (0, x1), (0, x2)] [(0, z1), (2, 1)] σ = js_t E w σ2 :=
  j_callT (m := 0) (js_caV q_23_89 (js_Mo qy_23 qm_8_93)) (js_agV (av := [(0, z1)]) (st := []) rfl rfl js_o1 rfl) rfl rfl (by rw [ql_27]; exact Nat.le_of_ble_eq_true rfl) (Nat.le_of_ble_eq_true rfl) hd rfl hz
theorem b_23_92 {E : js_E} {d : Nat} {σ : js_S} {x1 x2 z0 : Int} : js_J E d 23 92 [(2, 1), (0, x1), (0, x2)] [(0, z0)] σ = (if js_w z0 = 0 then js_J E d 23 121 [(2, 1), (0, x1), (0, x2)] [(0, x1), (2, 1)] σ else js_J E d 23 95 [(2, 1), (0, x1), (0, x2)] [] σ) :=
  (j_ifeq (t := 119) q_23_92 rfl).trans (js_ite ((j_aload_n q_23_119 rfl).trans <| (j_iload_n q_23_120 rfl).trans <| rfl) (rfl))
theorem b_23_95 {E : js_E} {d : Nat} {σ : js_S} {x1 x2 : Int} : js_J E d 23 95 [(2, 1), (0, x1), (0, x2)] [] σ = (if js_w x2 < js_w (σ 1 0) then js_J E d 23 105 [(2, 1), (0, x1), (0, x2)] [(0, x2), (2, 1)] σ else js_r E (0, x2) σ) :=
  (j_iload_n q_23_95 rfl).trans <| (j_aload_n q_23_96 rfl).trans <| (j_get (ji := 0) (v := (0, σ 1 0)) q_23_97 (js_Fo qy_23 qf_8_29) js_o1 rfl rfl rfl rfl).trans <| (j_cmpge (t := 139) q_23_100 rfl).trans (js_ite ((j_aload_n q_23_103 rfl).trans <| (j_iload_n q_23_104 rfl).trans <| rfl) ((j_iload_n q_23_139 rfl).trans <| j_ireturn q_23_140 qr_23))
theorem k_23_105 {E : js_E} {d : Nat} {σ σ2 : js_S} {x1 x2 z1 : Int} {v : Int} (hd : 1 ≤ d) (hz : js_J E (d - 1) 24 0 [(2, 1), (0, z1)] [] σ = js_r E (0, v) σ2) : js_J E d 23 105 [(2, 1), (0, x1), (0, x2)] [(0, z1), (2, 1)] σ = js_J E d 23 108 [(2, 1), (0, x1), (0, x2)] [(0, v)] σ2 :=
  j_call (m := 0) (js_caV q_23_105 (js_Mo qy_23 qm_8_83)) (js_agV (av := [(0, z1)]) (st := []) rfl rfl js_o1 rfl) rfl rfl (by rw [ql_24]; exact Nat.le_of_ble_eq_true rfl) (Nat.le_of_ble_eq_true rfl) hd hz
theorem kt_23_105 {E : js_E} {d : Nat} {σ σ2 : js_S} {x1 x2 z1 : Int} {w : Int} (hd : 1 ≤ d) (hz : js_J E (d - 1) 24 0 [(2, 1), (0, z1)] [] σ = js_t E w σ2) : js_J E d 23 105 [(2, 1), (0, x1), (0, x2)] [(0, z1), (2, 1)] σ = js_t E w σ2 :=
  j_callT (m := 0) (js_caV q_23_105 (js_Mo qy_23 qm_8_83)) (js_agV (av := [(0, z1)]) (st := []) rfl rfl js_o1 rfl) rfl rfl (by rw [ql_24]; exact Nat.le_of_ble_eq_true rfl) (Nat.le_of_ble_eq_true rfl) hd rfl hz
theorem b_23_108 {E : js_E} {d : Nat} {σ : js_S} {x1 x2 z0 : Int} : js_J E d 23 108 [(2, 1), (0, x1), (0, x2)] [(0, z0)] σ = (if js_w z0 = 10 then js_r E (0, x2) σ else js_J E d 23 95 [(2, 1), (0, x1), (0, x2 + 1)] [] σ) :=
  (j_bi q_23_108 rfl).trans <| (j_cmpeqB (t := 139) q_23_110 rfl ww_10).trans (js_ite ((j_iload_n q_23_139 rfl).trans <| j_ireturn q_23_140 qr_23) ((j_iinc (l2 := [(2, 1), (0, x1), (0, x2 + 1)]) q_23_113 rfl rfl).trans <| (j_goto (t := 95) q_23_116 rfl).trans <| rfl))
theorem k_23_121 {E : js_E} {d : Nat} {σ σ2 : js_S} {x1 x2 z1 : Int} {v : Int} (hd : 1 ≤ d) (hz : js_J E (d - 1) 24 0 [(2, 1), (0, z1)] [] σ = js_r E (0, v) σ2) : js_J E d 23 121 [(2, 1), (0, x1), (0, x2)] [(0, z1), (2, 1)] σ = js_J E d 23 124 [(2, 1), (0, x1), (0, x2)] [(0, v)] σ2 :=
  j_call (m := 0) (js_caV q_23_121 (js_Mo qy_23 qm_8_83)) (js_agV (av := [(0, z1)]) (st := []) rfl rfl js_o1 rfl) rfl rfl (by rw [ql_24]; exact Nat.le_of_ble_eq_true rfl) (Nat.le_of_ble_eq_true rfl) hd hz
theorem kt_23_121 {E : js_E} {d : Nat} {σ σ2 : js_S} {x1 x2 z1 : Int} {w : Int} (hd : 1 ≤ d) (hz : js_J E (d - 1) 24 0 [(2, 1), (0, z1)] [] σ = js_t E w σ2) : js_J E d 23 121 [(2, 1), (0, x1), (0, x2)] [(0, z1), (2, 1)] σ = js_t E w σ2 :=
  j_callT (m := 0) (js_caV q_23_121 (js_Mo qy_23 qm_8_83)) (js_agV (av := [(0, z1)]) (st := []) rfl rfl js_o1 rfl) rfl rfl (by rw [ql_24]; exact Nat.le_of_ble_eq_true rfl) (Nat.le_of_ble_eq_true rfl) hd rfl hz
theorem b_23_124 {E : js_E} {d : Nat} {σ : js_S} {x1 x2 z0 : Int} : js_J E d 23 124 [(2, 1), (0, x1), (0, x2)] [(0, z0)] σ = js_J E d 23 126 [(2, 1), (0, x1), (0, x2)] [(0, x2), (2, 1), (0, z0)] σ :=
  (j_aload_n q_23_124 rfl).trans <| (j_iload_n q_23_125 rfl).trans <| rfl
theorem k_23_126 {E : js_E} {d : Nat} {σ σ2 : js_S} {x1 x2 z0 z2 : Int} {v : Int} (hd : 1 ≤ d) (hz : js_J E (d - 1) 24 0 [(2, 1), (0, z2)] [] σ = js_r E (0, v) σ2) : js_J E d 23 126 [(2, 1), (0, x1), (0, x2)] [(0, z2), (2, 1), (0, z0)] σ = js_J E d 23 129 [(2, 1), (0, x1), (0, x2)] [(0, v), (0, z0)] σ2 :=
  j_call (m := 0) (js_caV q_23_126 (js_Mo qy_23 qm_8_83)) (js_agV (av := [(0, z2)]) (st := [(0, z0)]) rfl rfl js_o1 rfl) rfl rfl (by rw [ql_24]; exact Nat.le_of_ble_eq_true rfl) (Nat.le_of_ble_eq_true rfl) hd hz
theorem kt_23_126 {E : js_E} {d : Nat} {σ σ2 : js_S} {x1 x2 z0 z2 : Int} {w : Int} (hd : 1 ≤ d) (hz : js_J E (d - 1) 24 0 [(2, 1), (0, z2)] [] σ = js_t E w σ2) : js_J E d 23 126 [(2, 1), (0, x1), (0, x2)] [(0, z2), (2, 1), (0, z0)] σ = js_t E w σ2 :=
  j_callT (m := 0) (js_caV q_23_126 (js_Mo qy_23 qm_8_83)) (js_agV (av := [(0, z2)]) (st := [(0, z0)]) rfl rfl js_o1 rfl) rfl rfl (by rw [ql_24]; exact Nat.le_of_ble_eq_true rfl) (Nat.le_of_ble_eq_true rfl) hd rfl hz
theorem k_23_129 {E : js_E} {d : Nat} {σ σ2 : js_S} {x1 x2 z0 z1 : Int} {v : Int} (hd : 1 ≤ d) (hz : js_J E (d - 1) 28 0 [(0, z0), (0, z1)] [] σ = js_r E (0, v) σ2) : js_J E d 23 129 [(2, 1), (0, x1), (0, x2)] [(0, z1), (0, z0)] σ = js_J E d 23 132 [(2, 1), (0, x1), (0, x2)] [(0, v)] σ2 :=
  j_call (m := 0) (js_caS q_23_129 (js_Mo qy_23 qm_8_96)) (js_agS (av := [(0, z0), (0, z1)]) (st := []) rfl rfl) rfl rfl (by rw [ql_28]; exact Nat.le_of_ble_eq_true rfl) (Nat.le_of_ble_eq_true rfl) hd hz
theorem kt_23_129 {E : js_E} {d : Nat} {σ σ2 : js_S} {x1 x2 z0 z1 : Int} {w : Int} (hd : 1 ≤ d) (hz : js_J E (d - 1) 28 0 [(0, z0), (0, z1)] [] σ = js_t E w σ2) : js_J E d 23 129 [(2, 1), (0, x1), (0, x2)] [(0, z1), (0, z0)] σ = js_t E w σ2 :=
  j_callT (m := 0) (js_caS q_23_129 (js_Mo qy_23 qm_8_96)) (js_agS (av := [(0, z0), (0, z1)]) (st := []) rfl rfl) rfl rfl (by rw [ql_28]; exact Nat.le_of_ble_eq_true rfl) (Nat.le_of_ble_eq_true rfl) hd rfl hz
theorem b_23_132 {E : js_E} {d : Nat} {σ : js_S} {x1 x2 z0 : Int} : js_J E d 23 132 [(2, 1), (0, x1), (0, x2)] [(0, z0)] σ = (if js_w z0 = 1 then js_r E (0, x2) σ else js_r E (0, x2 + 1) σ) :=
  (j_iconst q_23_132).trans <| (j_cmpeqB (t := 139) q_23_133 rfl ww_1).trans (js_ite ((j_iload_n q_23_139 rfl).trans <| j_ireturn q_23_140 qr_23) ((j_iinc (l2 := [(2, 1), (0, x1), (0, x2 + 1)]) q_23_136 rfl rfl).trans <| (j_iload_n q_23_139 rfl).trans <| j_ireturn q_23_140 qr_23))
-- 24: VitalTwin$Reader.signAt (I)I
theorem b_24_0 {E : js_E} {d : Nat} {σ : js_S} {x1 : Int} : js_J E d 24 0 [(2, 1), (0, x1)] [] σ = (if js_w x1 < 0 then js_r E (0, 0) σ else (if js_w x1 < js_w (σ 1 0) then (if 0 ≤ js_w x1 ∧ js_w x1 < 8192 then js_r E (0, σ 3 (js_w x1)) σ else none) else js_r E (0, 0) σ)) :=
  (j_iload_n q_24_0 rfl).trans <| (j_iflt (t := 21) q_24_1 rfl).trans (js_ite ((j_iconst q_24_21).trans <| j_ireturn q_24_22 qr_24) ((j_iload_n q_24_4 rfl).trans <| (j_aload_n q_24_5 rfl).trans <| (j_get (ji := 0) (v := (0, σ 1 0)) q_24_6 (js_Fo qy_24 qf_8_29) js_o1 rfl rfl rfl rfl).trans <| (j_cmpge (t := 21) q_24_9 rfl).trans (js_ite ((j_aload_n q_24_12 rfl).trans <| (j_get (ji := 7) (v := (2, 3)) q_24_13 (js_Fo qy_24 qf_8_15) js_o1 rfl rfl rfl rfl).trans <| (j_iload_n q_24_16 rfl).trans <| (j_baload q_24_17 js_o3).trans <| js_itp fun g0 => (j_goto (t := 22) q_24_18 rfl).trans <| j_ireturn q_24_22 qr_24) ((j_iconst q_24_21).trans <| j_ireturn q_24_22 qr_24))))
-- 25: VitalTwin$Reader.isLetter (I)Z
theorem b_25_0 {E : js_E} {d : Nat} {σ : js_S} {x0 : Int} : js_J E d 25 0 [(0, x0)] [] σ = (if js_w x0 < 97 then js_J E d 25 12 [(0, x0)] [] σ else (if 122 < js_w x0 then js_J E d 25 12 [(0, x0)] [] σ else js_r E (0, 1) σ)) :=
  (j_iload_n q_25_0 rfl).trans <| (j_bi q_25_1 rfl).trans <| (j_cmpltB (t := 12) q_25_3 rfl ww_97).trans (js_ite (rfl) ((j_iload_n q_25_6 rfl).trans <| (j_bi q_25_7 rfl).trans <| (j_cmpleB (t := 30) q_25_9 rfl ww_122).trans (js_ite (rfl) ((j_iconst q_25_30).trans <| (j_goto (t := 35) q_25_31 rfl).trans <| j_breturn1 q_25_35 qr_25))))
theorem b_25_12 {E : js_E} {d : Nat} {σ : js_S} {x0 : Int} : js_J E d 25 12 [(0, x0)] [] σ = (if js_w x0 < 65 then js_J E d 25 24 [(0, x0)] [] σ else (if 90 < js_w x0 then js_J E d 25 24 [(0, x0)] [] σ else js_r E (0, 1) σ)) :=
  (j_iload_n q_25_12 rfl).trans <| (j_bi q_25_13 rfl).trans <| (j_cmpltB (t := 24) q_25_15 rfl ww_65).trans (js_ite (rfl) ((j_iload_n q_25_18 rfl).trans <| (j_bi q_25_19 rfl).trans <| (j_cmpleB (t := 30) q_25_21 rfl ww_90).trans (js_ite (rfl) ((j_iconst q_25_30).trans <| (j_goto (t := 35) q_25_31 rfl).trans <| j_breturn1 q_25_35 qr_25))))
theorem b_25_24 {E : js_E} {d : Nat} {σ : js_S} {x0 : Int} : js_J E d 25 24 [(0, x0)] [] σ = (if js_w x0 = 95 then js_r E (0, 1) σ else js_r E (0, 0) σ) :=
  (j_iload_n q_25_24 rfl).trans <| (j_bi q_25_25 rfl).trans <| (j_cmpneB (t := 34) q_25_27 rfl ww_95).trans (js_ite ((j_iconst q_25_30).trans <| (j_goto (t := 35) q_25_31 rfl).trans <| j_breturn1 q_25_35 qr_25) ((j_iconst q_25_34).trans <| j_breturn0 q_25_35 qr_25))
-- 26: VitalTwin$Reader.isDigit (I)Z
theorem b_26_0 {E : js_E} {d : Nat} {σ : js_S} {x0 : Int} : js_J E d 26 0 [(0, x0)] [] σ = (if js_w x0 < 48 then js_r E (0, 0) σ else (if 57 < js_w x0 then js_r E (0, 0) σ else js_r E (0, 1) σ)) :=
  (j_iload_n q_26_0 rfl).trans <| (j_bi q_26_1 rfl).trans <| (j_cmpltB (t := 16) q_26_3 rfl ww_48).trans (js_ite ((j_iconst q_26_16).trans <| j_breturn0 q_26_17 qr_26) ((j_iload_n q_26_6 rfl).trans <| (j_bi q_26_7 rfl).trans <| (j_cmpgtB (t := 16) q_26_9 rfl ww_57).trans (js_ite ((j_iconst q_26_16).trans <| j_breturn0 q_26_17 qr_26) ((j_iconst q_26_12).trans <| (j_goto (t := 17) q_26_13 rfl).trans <| j_breturn1 q_26_17 qr_26))))
-- 27: VitalTwin$Reader.isComment (I)Z
theorem b_27_0 {E : js_E} {d : Nat} {σ : js_S} {x1 : Int} : js_J E d 27 0 [(2, 1), (0, x1)] [] σ = js_J E d 27 2 [(2, 1), (0, x1)] [(0, x1), (2, 1)] σ :=
  (j_aload_n q_27_0 rfl).trans <| (j_iload_n q_27_1 rfl).trans <| rfl
theorem k_27_2 {E : js_E} {d : Nat} {σ σ2 : js_S} {x1 z1 : Int} {v : Int} (hd : 1 ≤ d) (hz : js_J E (d - 1) 24 0 [(2, 1), (0, z1)] [] σ = js_r E (0, v) σ2) : js_J E d 27 2 [(2, 1), (0, x1)] [(0, z1), (2, 1)] σ = js_J E d 27 5 [(2, 1), (0, x1)] [(0, v)] σ2 :=
  j_call (m := 0) (js_caV q_27_2 (js_Mo qy_27 qm_8_83)) (js_agV (av := [(0, z1)]) (st := []) rfl rfl js_o1 rfl) rfl rfl (by rw [ql_24]; exact Nat.le_of_ble_eq_true rfl) (Nat.le_of_ble_eq_true rfl) hd hz
theorem kt_27_2 {E : js_E} {d : Nat} {σ σ2 : js_S} {x1 z1 : Int} {w : Int} (hd : 1 ≤ d) (hz : js_J E (d - 1) 24 0 [(2, 1), (0, z1)] [] σ = js_t E w σ2) : js_J E d 27 2 [(2, 1), (0, x1)] [(0, z1), (2, 1)] σ = js_t E w σ2 :=
  j_callT (m := 0) (js_caV q_27_2 (js_Mo qy_27 qm_8_83)) (js_agV (av := [(0, z1)]) (st := []) rfl rfl js_o1 rfl) rfl rfl (by rw [ql_24]; exact Nat.le_of_ble_eq_true rfl) (Nat.le_of_ble_eq_true rfl) hd rfl hz
theorem b_27_5 {E : js_E} {d : Nat} {σ : js_S} {x1 z0 : Int} : js_J E d 27 5 [(2, 1), (0, x1)] [(0, z0)] σ = (if js_w z0 = 47 then js_J E d 27 14 [(2, 1), (0, x1)] [(0, x1 + 1), (2, 1)] σ else js_r E (0, 0) σ) :=
  (j_bi q_27_5 rfl).trans <| (j_cmpneB (t := 26) q_27_7 rfl ww_47).trans (js_ite ((j_aload_n q_27_10 rfl).trans <| (j_iload_n q_27_11 rfl).trans <| (j_iconst q_27_12).trans <| (j_iadd q_27_13).trans <| rfl) ((j_iconst q_27_26).trans <| j_breturn0 q_27_27 qr_27))
theorem k_27_14 {E : js_E} {d : Nat} {σ σ2 : js_S} {x1 z1 : Int} {v : Int} (hd : 1 ≤ d) (hz : js_J E (d - 1) 24 0 [(2, 1), (0, z1)] [] σ = js_r E (0, v) σ2) : js_J E d 27 14 [(2, 1), (0, x1)] [(0, z1), (2, 1)] σ = js_J E d 27 17 [(2, 1), (0, x1)] [(0, v)] σ2 :=
  j_call (m := 0) (js_caV q_27_14 (js_Mo qy_27 qm_8_83)) (js_agV (av := [(0, z1)]) (st := []) rfl rfl js_o1 rfl) rfl rfl (by rw [ql_24]; exact Nat.le_of_ble_eq_true rfl) (Nat.le_of_ble_eq_true rfl) hd hz
theorem kt_27_14 {E : js_E} {d : Nat} {σ σ2 : js_S} {x1 z1 : Int} {w : Int} (hd : 1 ≤ d) (hz : js_J E (d - 1) 24 0 [(2, 1), (0, z1)] [] σ = js_t E w σ2) : js_J E d 27 14 [(2, 1), (0, x1)] [(0, z1), (2, 1)] σ = js_t E w σ2 :=
  j_callT (m := 0) (js_caV q_27_14 (js_Mo qy_27 qm_8_83)) (js_agV (av := [(0, z1)]) (st := []) rfl rfl js_o1 rfl) rfl rfl (by rw [ql_24]; exact Nat.le_of_ble_eq_true rfl) (Nat.le_of_ble_eq_true rfl) hd rfl hz
theorem b_27_17 {E : js_E} {d : Nat} {σ : js_S} {x1 z0 : Int} : js_J E d 27 17 [(2, 1), (0, x1)] [(0, z0)] σ = (if js_w z0 = 47 then js_r E (0, 1) σ else js_r E (0, 0) σ) :=
  (j_bi q_27_17 rfl).trans <| (j_cmpneB (t := 26) q_27_19 rfl ww_47).trans (js_ite ((j_iconst q_27_22).trans <| (j_goto (t := 27) q_27_23 rfl).trans <| j_breturn1 q_27_27 qr_27) ((j_iconst q_27_26).trans <| j_breturn0 q_27_27 qr_27))
-- 28: VitalTwin$Reader.markOfTwo (II)I
theorem b_28_0 {E : js_E} {d : Nat} {σ : js_S} {x0 x1 : Int} : js_J E d 28 0 [(0, x0), (0, x1)] [] σ = (if js_w x1 = 61 then js_J E d 28 7 [(0, x0), (0, x1)] [(0, x0)] σ else (if js_w x0 = js_w x1 then (if js_w x0 = 46 then js_r E (0, 128) σ else (if js_w x0 = 38 then js_r E (0, 133) σ else (if js_w x0 = 124 then js_r E (0, 134) σ else js_r E (0, 1) σ))) else js_r E (0, 1) σ)) :=
  (j_iload_n q_28_0 rfl).trans <| (j_bi q_28_1 rfl).trans <| (j_cmpneB (t := 66) q_28_3 rfl ww_61).trans (js_ite ((j_iload_n q_28_6 rfl).trans <| rfl) ((j_iload_n q_28_66 rfl).trans <| (j_iload_n q_28_67 rfl).trans <| (j_cmpeq (t := 73) q_28_68 rfl).trans (js_ite ((j_iload_n q_28_73 rfl).trans <| (j_bi q_28_74 rfl).trans <| (j_cmpneB (t := 85) q_28_76 rfl ww_46).trans (js_ite ((j_si q_28_79 rfl).trans <| (j_goto (t := 110) q_28_82 rfl).trans <| j_ireturn q_28_110 qr_28) ((j_iload_n q_28_85 rfl).trans <| (j_bi q_28_86 rfl).trans <| (j_cmpneB (t := 97) q_28_88 rfl ww_38).trans (js_ite ((j_si q_28_91 rfl).trans <| (j_goto (t := 110) q_28_94 rfl).trans <| j_ireturn q_28_110 qr_28) ((j_iload_n q_28_97 rfl).trans <| (j_bi q_28_98 rfl).trans <| (j_cmpneB (t := 109) q_28_100 rfl ww_124).trans (js_ite ((j_si q_28_103 rfl).trans <| (j_goto (t := 110) q_28_106 rfl).trans <| j_ireturn q_28_110 qr_28) ((j_iconst q_28_109).trans <| j_ireturn q_28_110 qr_28))))))) ((j_iconst q_28_71).trans <| j_ireturn q_28_72 qr_28))))
theorem s_28_7_33 {E : js_E} {d : Nat} {σ : js_S} {x0 x1 z0 : Int} (h : js_w z0 = 33) : js_J E d 28 7 [(0, x0), (0, x1)] [(0, z0)] σ = js_J E d 28 60 [(0, x0), (0, x1)] [] σ :=
  j_lsw (t := 60) q_28_7 (by rw [h]; rfl)
theorem s_28_7_60 {E : js_E} {d : Nat} {σ : js_S} {x0 x1 z0 : Int} (h : js_w z0 = 60) : js_J E d 28 7 [(0, x0), (0, x1)] [(0, z0)] σ = js_J E d 28 48 [(0, x0), (0, x1)] [] σ :=
  j_lsw (t := 48) q_28_7 (by rw [h]; rfl)
theorem s_28_7_61 {E : js_E} {d : Nat} {σ : js_S} {x0 x1 z0 : Int} (h : js_w z0 = 61) : js_J E d 28 7 [(0, x0), (0, x1)] [(0, z0)] σ = js_J E d 28 56 [(0, x0), (0, x1)] [] σ :=
  j_lsw (t := 56) q_28_7 (by rw [h]; rfl)
theorem s_28_7_62 {E : js_E} {d : Nat} {σ : js_S} {x0 x1 z0 : Int} (h : js_w z0 = 62) : js_J E d 28 7 [(0, x0), (0, x1)] [(0, z0)] σ = js_J E d 28 52 [(0, x0), (0, x1)] [] σ :=
  j_lsw (t := 52) q_28_7 (by rw [h]; rfl)
theorem s_28_7_d {E : js_E} {d : Nat} {σ : js_S} {x0 x1 z0 : Int} (h : js_w z0 ≠ 33 ∧ js_w z0 ≠ 60 ∧ js_w z0 ≠ 61 ∧ js_w z0 ≠ 62) : js_J E d 28 7 [(0, x0), (0, x1)] [(0, z0)] σ = js_J E d 28 64 [(0, x0), (0, x1)] [] σ :=
  j_lsw (t := 64) q_28_7 (by obtain ⟨h0, h1, h2, h3⟩ := h; simp [Op.lookupswitch.offset, Ne.symm h0, Ne.symm h1, Ne.symm h2, Ne.symm h3]; rfl)
theorem b_28_48 {E : js_E} {d : Nat} {σ : js_S} {x0 x1 : Int} : js_J E d 28 48 [(0, x0), (0, x1)] [] σ = js_r E (0, 129) σ :=
  (j_si q_28_48 rfl).trans <| j_ireturn q_28_51 qr_28
theorem b_28_52 {E : js_E} {d : Nat} {σ : js_S} {x0 x1 : Int} : js_J E d 28 52 [(0, x0), (0, x1)] [] σ = js_r E (0, 130) σ :=
  (j_si q_28_52 rfl).trans <| j_ireturn q_28_55 qr_28
theorem b_28_56 {E : js_E} {d : Nat} {σ : js_S} {x0 x1 : Int} : js_J E d 28 56 [(0, x0), (0, x1)] [] σ = js_r E (0, 131) σ :=
  (j_si q_28_56 rfl).trans <| j_ireturn q_28_59 qr_28
theorem b_28_60 {E : js_E} {d : Nat} {σ : js_S} {x0 x1 : Int} : js_J E d 28 60 [(0, x0), (0, x1)] [] σ = js_r E (0, 132) σ :=
  (j_si q_28_60 rfl).trans <| j_ireturn q_28_63 qr_28
theorem b_28_64 {E : js_E} {d : Nat} {σ : js_S} {x0 x1 : Int} : js_J E d 28 64 [(0, x0), (0, x1)] [] σ = js_r E (0, 1) σ :=
  (j_iconst q_28_64).trans <| j_ireturn q_28_65 qr_28
-- 29: VitalTwin$Reader.kindOf (II)I
theorem b_29_0 {E : js_E} {d : Nat} {σ : js_S} {x1 x2 : Int} : js_J E d 29 0 [(2, 1), (0, x1), (0, x2), (9, 0)] [] σ = js_J E d 29 2 [(2, 1), (0, x1), (0, x2), (9, 0)] [(0, x1), (2, 1)] σ :=
  (j_aload_n q_29_0 rfl).trans <| (j_iload_n q_29_1 rfl).trans <| rfl
theorem k_29_2 {E : js_E} {d : Nat} {σ σ2 : js_S} {x1 x2 z1 : Int} {v : Int} (hd : 1 ≤ d) (hz : js_J E (d - 1) 24 0 [(2, 1), (0, z1)] [] σ = js_r E (0, v) σ2) : js_J E d 29 2 [(2, 1), (0, x1), (0, x2), (9, 0)] [(0, z1), (2, 1)] σ = js_J E d 29 5 [(2, 1), (0, x1), (0, x2), (9, 0)] [(0, v)] σ2 :=
  j_call (m := 0) (js_caV q_29_2 (js_Mo qy_29 qm_8_83)) (js_agV (av := [(0, z1)]) (st := []) rfl rfl js_o1 rfl) rfl rfl (by rw [ql_24]; exact Nat.le_of_ble_eq_true rfl) (Nat.le_of_ble_eq_true rfl) hd hz
theorem kt_29_2 {E : js_E} {d : Nat} {σ σ2 : js_S} {x1 x2 z1 : Int} {w : Int} (hd : 1 ≤ d) (hz : js_J E (d - 1) 24 0 [(2, 1), (0, z1)] [] σ = js_t E w σ2) : js_J E d 29 2 [(2, 1), (0, x1), (0, x2), (9, 0)] [(0, z1), (2, 1)] σ = js_t E w σ2 :=
  j_callT (m := 0) (js_caV q_29_2 (js_Mo qy_29 qm_8_83)) (js_agV (av := [(0, z1)]) (st := []) rfl rfl js_o1 rfl) rfl rfl (by rw [ql_24]; exact Nat.le_of_ble_eq_true rfl) (Nat.le_of_ble_eq_true rfl) hd rfl hz
theorem b_29_5 {E : js_E} {d : Nat} {σ : js_S} {x1 x2 z0 : Int} : js_J E d 29 5 [(2, 1), (0, x1), (0, x2), (9, 0)] [(0, z0)] σ = (if js_w z0 = 32 then js_r E (0, 4) σ else (if js_w z0 = 10 then js_r E (0, 4) σ else js_J E d 29 20 [(2, 1), (0, x1), (0, x2), (0, z0)] [(0, x1), (2, 1)] σ)) :=
  (j_istore_n (l2 := [(2, 1), (0, x1), (0, x2), (0, z0)]) q_29_5 rfl (Nat.le_of_ble_eq_true rfl)).trans <| (j_iload_n q_29_6 rfl).trans <| (j_bi q_29_7 rfl).trans <| (j_cmpeqB (t := 26) q_29_9 rfl ww_32).trans (js_ite ((j_iconst q_29_26).trans <| j_ireturn q_29_27 qr_29) ((j_iload_n q_29_12 rfl).trans <| (j_bi q_29_13 rfl).trans <| (j_cmpeqB (t := 26) q_29_15 rfl ww_10).trans (js_ite ((j_iconst q_29_26).trans <| j_ireturn q_29_27 qr_29) ((j_aload_n q_29_18 rfl).trans <| (j_iload_n q_29_19 rfl).trans <| rfl))))
theorem k_29_20 {E : js_E} {d : Nat} {σ σ2 : js_S} {x1 x2 x3 z1 : Int} {v : Int} (hd : 1 ≤ d) (hz : js_J E (d - 1) 27 0 [(2, 1), (0, z1)] [] σ = js_r E (0, v) σ2) : js_J E d 29 20 [(2, 1), (0, x1), (0, x2), (0, x3)] [(0, z1), (2, 1)] σ = js_J E d 29 23 [(2, 1), (0, x1), (0, x2), (0, x3)] [(0, v)] σ2 :=
  j_call (m := 0) (js_caV q_29_20 (js_Mo qy_29 qm_8_93)) (js_agV (av := [(0, z1)]) (st := []) rfl rfl js_o1 rfl) rfl rfl (by rw [ql_27]; exact Nat.le_of_ble_eq_true rfl) (Nat.le_of_ble_eq_true rfl) hd hz
theorem kt_29_20 {E : js_E} {d : Nat} {σ σ2 : js_S} {x1 x2 x3 z1 : Int} {w : Int} (hd : 1 ≤ d) (hz : js_J E (d - 1) 27 0 [(2, 1), (0, z1)] [] σ = js_t E w σ2) : js_J E d 29 20 [(2, 1), (0, x1), (0, x2), (0, x3)] [(0, z1), (2, 1)] σ = js_t E w σ2 :=
  j_callT (m := 0) (js_caV q_29_20 (js_Mo qy_29 qm_8_93)) (js_agV (av := [(0, z1)]) (st := []) rfl rfl js_o1 rfl) rfl rfl (by rw [ql_27]; exact Nat.le_of_ble_eq_true rfl) (Nat.le_of_ble_eq_true rfl) hd rfl hz
theorem b_29_23 {E : js_E} {d : Nat} {σ : js_S} {x1 x2 x3 z0 : Int} : js_J E d 29 23 [(2, 1), (0, x1), (0, x2), (0, x3)] [(0, z0)] σ = (if js_w z0 = 0 then js_J E d 29 29 [(2, 1), (0, x1), (0, x2), (0, x3)] [(0, x3)] σ else js_r E (0, 4) σ) :=
  (j_ifeq (t := 28) q_29_23 rfl).trans (js_ite ((j_iload_n q_29_28 rfl).trans <| rfl) ((j_iconst q_29_26).trans <| j_ireturn q_29_27 qr_29))
theorem k_29_29 {E : js_E} {d : Nat} {σ σ2 : js_S} {x1 x2 x3 z0 : Int} {v : Int} (hd : 1 ≤ d) (hz : js_J E (d - 1) 25 0 [(0, z0)] [] σ = js_r E (0, v) σ2) : js_J E d 29 29 [(2, 1), (0, x1), (0, x2), (0, x3)] [(0, z0)] σ = js_J E d 29 32 [(2, 1), (0, x1), (0, x2), (0, x3)] [(0, v)] σ2 :=
  j_call (m := 0) (js_caS q_29_29 (js_Mo qy_29 qm_8_86)) (js_agS (av := [(0, z0)]) (st := []) rfl rfl) rfl rfl (by rw [ql_25]; exact Nat.le_of_ble_eq_true rfl) (Nat.le_of_ble_eq_true rfl) hd hz
theorem kt_29_29 {E : js_E} {d : Nat} {σ σ2 : js_S} {x1 x2 x3 z0 : Int} {w : Int} (hd : 1 ≤ d) (hz : js_J E (d - 1) 25 0 [(0, z0)] [] σ = js_t E w σ2) : js_J E d 29 29 [(2, 1), (0, x1), (0, x2), (0, x3)] [(0, z0)] σ = js_t E w σ2 :=
  j_callT (m := 0) (js_caS q_29_29 (js_Mo qy_29 qm_8_86)) (js_agS (av := [(0, z0)]) (st := []) rfl rfl) rfl rfl (by rw [ql_25]; exact Nat.le_of_ble_eq_true rfl) (Nat.le_of_ble_eq_true rfl) hd rfl hz
theorem b_29_32 {E : js_E} {d : Nat} {σ : js_S} {x1 x2 x3 z0 : Int} : js_J E d 29 32 [(2, 1), (0, x1), (0, x2), (0, x3)] [(0, z0)] σ = (if js_w z0 = 0 then js_J E d 29 57 [(2, 1), (0, x1), (0, x2), (0, x3)] [(0, x3)] σ else (if 20 < js_w (x2 - x1) then js_J E d 29 55 [(2, 1), (0, x1), (0, x2), (0, x3)] [(0, 1)] σ else js_J E d 29 52 [(2, 1), (0, x1), (0, x2), (0, x3)] [(0, x2 - x1), (0, x1), (2, 1)] σ)) :=
  (j_ifeq (t := 56) q_29_32 rfl).trans (js_ite ((j_iload_n q_29_56 rfl).trans <| rfl) ((j_iload_n q_29_35 rfl).trans <| (j_iload_n q_29_36 rfl).trans <| (j_isub q_29_37).trans <| (j_bi q_29_38 rfl).trans <| (j_cmpleB (t := 47) q_29_40 rfl ww_20).trans (js_ite ((j_iconst q_29_43).trans <| (j_goto (t := 55) q_29_44 rfl).trans <| rfl) ((j_aload_n q_29_47 rfl).trans <| (j_iload_n q_29_48 rfl).trans <| (j_iload_n q_29_49 rfl).trans <| (j_iload_n q_29_50 rfl).trans <| (j_isub q_29_51).trans <| rfl))))
theorem k_29_52 {E : js_E} {d : Nat} {σ σ2 : js_S} {x1 x2 x3 z1 z2 : Int} {v : Int} (hd : 1 ≤ d) (hz : js_J E (d - 1) 30 0 [(2, 1), (0, z1), (0, z2), (9, 0), (9, 0), (9, 0), (9, 0), (9, 0)] [] σ = js_r E (0, v) σ2) : js_J E d 29 52 [(2, 1), (0, x1), (0, x2), (0, x3)] [(0, z2), (0, z1), (2, 1)] σ = js_J E d 29 55 [(2, 1), (0, x1), (0, x2), (0, x3)] [(0, v)] σ2 :=
  j_call (m := 5) (js_caV q_29_52 (js_Mo qy_29 qm_8_99)) (js_agV (av := [(0, z1), (0, z2)]) (st := []) rfl rfl js_o1 rfl) rfl rfl (by rw [ql_30]; exact Nat.le_of_ble_eq_true rfl) (Nat.le_of_ble_eq_true rfl) hd hz
theorem kt_29_52 {E : js_E} {d : Nat} {σ σ2 : js_S} {x1 x2 x3 z1 z2 : Int} {w : Int} (hd : 1 ≤ d) (hz : js_J E (d - 1) 30 0 [(2, 1), (0, z1), (0, z2), (9, 0), (9, 0), (9, 0), (9, 0), (9, 0)] [] σ = js_t E w σ2) : js_J E d 29 52 [(2, 1), (0, x1), (0, x2), (0, x3)] [(0, z2), (0, z1), (2, 1)] σ = js_t E w σ2 :=
  j_callT (m := 5) (js_caV q_29_52 (js_Mo qy_29 qm_8_99)) (js_agV (av := [(0, z1), (0, z2)]) (st := []) rfl rfl js_o1 rfl) rfl rfl (by rw [ql_30]; exact Nat.le_of_ble_eq_true rfl) (Nat.le_of_ble_eq_true rfl) hd rfl hz
theorem b_29_55 {E : js_E} {d : Nat} {σ : js_S} {x1 x2 x3 z0 : Int} : js_J E d 29 55 [(2, 1), (0, x1), (0, x2), (0, x3)] [(0, z0)] σ = js_r E (0, z0) σ :=
  j_ireturn q_29_55 qr_29
theorem k_29_57 {E : js_E} {d : Nat} {σ σ2 : js_S} {x1 x2 x3 z0 : Int} {v : Int} (hd : 1 ≤ d) (hz : js_J E (d - 1) 26 0 [(0, z0)] [] σ = js_r E (0, v) σ2) : js_J E d 29 57 [(2, 1), (0, x1), (0, x2), (0, x3)] [(0, z0)] σ = js_J E d 29 60 [(2, 1), (0, x1), (0, x2), (0, x3)] [(0, v)] σ2 :=
  j_call (m := 0) (js_caS q_29_57 (js_Mo qy_29 qm_8_90)) (js_agS (av := [(0, z0)]) (st := []) rfl rfl) rfl rfl (by rw [ql_26]; exact Nat.le_of_ble_eq_true rfl) (Nat.le_of_ble_eq_true rfl) hd hz
theorem kt_29_57 {E : js_E} {d : Nat} {σ σ2 : js_S} {x1 x2 x3 z0 : Int} {w : Int} (hd : 1 ≤ d) (hz : js_J E (d - 1) 26 0 [(0, z0)] [] σ = js_t E w σ2) : js_J E d 29 57 [(2, 1), (0, x1), (0, x2), (0, x3)] [(0, z0)] σ = js_t E w σ2 :=
  j_callT (m := 0) (js_caS q_29_57 (js_Mo qy_29 qm_8_90)) (js_agS (av := [(0, z0)]) (st := []) rfl rfl) rfl rfl (by rw [ql_26]; exact Nat.le_of_ble_eq_true rfl) (Nat.le_of_ble_eq_true rfl) hd rfl hz
-- b_29_60: library 9
theorem k_29_76 {E : js_E} {d : Nat} {σ σ2 : js_S} {x1 x2 x3 z1 z2 : Int} {v : Int} (hd : 1 ≤ d) (hz : js_J E (d - 1) 31 0 [(2, 1), (0, z1), (0, z2), (9, 0), (9, 0), (9, 0)] [] σ = js_r E (1, v) σ2) : js_J E d 29 76 [(2, 1), (0, x1), (0, x2), (0, x3)] [(0, z2), (0, z1), (2, 1)] σ = js_J E d 29 79 [(2, 1), (0, x1), (0, x2), (0, x3)] [(1, v)] σ2 :=
  j_call (m := 3) (js_caV q_29_76 (js_Mo qy_29 qm_8_102)) (js_agV (av := [(0, z1), (0, z2)]) (st := []) rfl rfl js_o1 rfl) rfl rfl (by rw [ql_31]; exact Nat.le_of_ble_eq_true rfl) (Nat.le_of_ble_eq_true rfl) hd hz
theorem kt_29_76 {E : js_E} {d : Nat} {σ σ2 : js_S} {x1 x2 x3 z1 z2 : Int} {w : Int} (hd : 1 ≤ d) (hz : js_J E (d - 1) 31 0 [(2, 1), (0, z1), (0, z2), (9, 0), (9, 0), (9, 0)] [] σ = js_t E w σ2) : js_J E d 29 76 [(2, 1), (0, x1), (0, x2), (0, x3)] [(0, z2), (0, z1), (2, 1)] σ = js_t E w σ2 :=
  j_callT (m := 3) (js_caV q_29_76 (js_Mo qy_29 qm_8_102)) (js_agV (av := [(0, z1), (0, z2)]) (st := []) rfl rfl js_o1 rfl) rfl rfl (by rw [ql_31]; exact Nat.le_of_ble_eq_true rfl) (Nat.le_of_ble_eq_true rfl) hd rfl hz
theorem b_29_79 {E : js_E} {d : Nat} {σ : js_S} {x1 x2 x3 z0 : Int} : js_J E d 29 79 [(2, 1), (0, x1), (0, x2), (0, x3)] [(1, z0)] σ = (if 2000000000 < js_l z0 then js_r E (0, 1) σ else js_r E (0, 3) σ) :=
  (j_ldc2 (v := (1, 2000000000)) q_29_79 (js_Co qy_29 qc_8_106)).trans <| (j_lleB (t := 90) q_29_82 q_29_83 rfl wl_2000000000).trans (js_ite ((j_iconst q_29_86).trans <| (j_goto (t := 91) q_29_87 rfl).trans <| j_ireturn q_29_91 qr_29) ((j_iconst q_29_90).trans <| j_ireturn q_29_91 qr_29))
theorem k_29_104 {E : js_E} {d : Nat} {σ σ2 : js_S} {x1 x2 x3 z0 z2 : Int} {v : Int} (hd : 1 ≤ d) (hz : js_J E (d - 1) 24 0 [(2, 1), (0, z2)] [] σ = js_r E (0, v) σ2) : js_J E d 29 104 [(2, 1), (0, x1), (0, x2), (0, x3)] [(0, z2), (2, 1), (0, z0)] σ = js_J E d 29 107 [(2, 1), (0, x1), (0, x2), (0, x3)] [(0, v), (0, z0)] σ2 :=
  j_call (m := 0) (js_caV q_29_104 (js_Mo qy_29 qm_8_83)) (js_agV (av := [(0, z2)]) (st := [(0, z0)]) rfl rfl js_o1 rfl) rfl rfl (by rw [ql_24]; exact Nat.le_of_ble_eq_true rfl) (Nat.le_of_ble_eq_true rfl) hd hz
theorem kt_29_104 {E : js_E} {d : Nat} {σ σ2 : js_S} {x1 x2 x3 z0 z2 : Int} {w : Int} (hd : 1 ≤ d) (hz : js_J E (d - 1) 24 0 [(2, 1), (0, z2)] [] σ = js_t E w σ2) : js_J E d 29 104 [(2, 1), (0, x1), (0, x2), (0, x3)] [(0, z2), (2, 1), (0, z0)] σ = js_t E w σ2 :=
  j_callT (m := 0) (js_caV q_29_104 (js_Mo qy_29 qm_8_83)) (js_agV (av := [(0, z2)]) (st := [(0, z0)]) rfl rfl js_o1 rfl) rfl rfl (by rw [ql_24]; exact Nat.le_of_ble_eq_true rfl) (Nat.le_of_ble_eq_true rfl) hd rfl hz
theorem k_29_107 {E : js_E} {d : Nat} {σ σ2 : js_S} {x1 x2 x3 z0 z1 : Int} {v : Int} (hd : 1 ≤ d) (hz : js_J E (d - 1) 28 0 [(0, z0), (0, z1)] [] σ = js_r E (0, v) σ2) : js_J E d 29 107 [(2, 1), (0, x1), (0, x2), (0, x3)] [(0, z1), (0, z0)] σ = js_J E d 29 110 [(2, 1), (0, x1), (0, x2), (0, x3)] [(0, v)] σ2 :=
  j_call (m := 0) (js_caS q_29_107 (js_Mo qy_29 qm_8_96)) (js_agS (av := [(0, z0), (0, z1)]) (st := []) rfl rfl) rfl rfl (by rw [ql_28]; exact Nat.le_of_ble_eq_true rfl) (Nat.le_of_ble_eq_true rfl) hd hz
theorem kt_29_107 {E : js_E} {d : Nat} {σ σ2 : js_S} {x1 x2 x3 z0 z1 : Int} {w : Int} (hd : 1 ≤ d) (hz : js_J E (d - 1) 28 0 [(0, z0), (0, z1)] [] σ = js_t E w σ2) : js_J E d 29 107 [(2, 1), (0, x1), (0, x2), (0, x3)] [(0, z1), (0, z0)] σ = js_t E w σ2 :=
  j_callT (m := 0) (js_caS q_29_107 (js_Mo qy_29 qm_8_96)) (js_agS (av := [(0, z0), (0, z1)]) (st := []) rfl rfl) rfl rfl (by rw [ql_28]; exact Nat.le_of_ble_eq_true rfl) (Nat.le_of_ble_eq_true rfl) hd rfl hz
theorem b_29_110 {E : js_E} {d : Nat} {σ : js_S} {x1 x2 x3 z0 : Int} : js_J E d 29 110 [(2, 1), (0, x1), (0, x2), (0, x3)] [(0, z0)] σ = js_r E (0, z0) σ :=
  j_ireturn q_29_110 qr_29
-- 30: VitalTwin$Reader.wordOrName (II)I
theorem b_30_0 {E : js_E} {d : Nat} {σ : js_S} {x1 x2 : Int} : js_J E d 30 0 [(2, 1), (0, x1), (0, x2), (9, 0), (9, 0), (9, 0), (9, 0), (9, 0)] [] σ = js_J E d 30 13 [(2, 1), (0, x1), (0, x2), (0, 200), (0, 0), (0, 1), (0, 0), (9, 0)] [] σ :=
  (j_si q_30_0 rfl).trans <| (j_istore_n (l2 := [(2, 1), (0, x1), (0, x2), (0, 200), (9, 0), (9, 0), (9, 0), (9, 0)]) q_30_3 rfl (Nat.le_of_ble_eq_true rfl)).trans <| (j_iconst q_30_4).trans <| (j_istore (l2 := [(2, 1), (0, x1), (0, x2), (0, 200), (0, 0), (9, 0), (9, 0), (9, 0)]) q_30_5 rfl (Nat.le_of_ble_eq_true rfl)).trans <| (j_iconst q_30_7).trans <| (j_istore (l2 := [(2, 1), (0, x1), (0, x2), (0, 200), (0, 0), (0, 1), (9, 0), (9, 0)]) q_30_8 rfl (Nat.le_of_ble_eq_true rfl)).trans <| (j_iconst q_30_10).trans <| (j_istore (l2 := [(2, 1), (0, x1), (0, x2), (0, 200), (0, 0), (0, 1), (0, 0), (9, 0)]) q_30_11 rfl (Nat.le_of_ble_eq_true rfl)).trans <| rfl
-- b_30_13: library 7
theorem b_30_52 {E : js_E} {d : Nat} {σ : js_S} {x1 x2 x3 x4 x5 x6 x7 : Int} : js_J E d 30 52 [(2, 1), (0, x1), (0, x2), (0, x3), (0, x4), (0, x5), (0, x6), (0, x7)] [] σ = js_J E d 30 92 [(2, 1), (0, x1), (0, x2), (0, x3 + 1), (0, 0), (0, 1), (0, x6), (0, x7)] [] σ :=
  (j_iinc (l2 := [(2, 1), (0, x1), (0, x2), (0, x3 + 1), (0, x4), (0, x5), (0, x6), (0, x7)]) q_30_52 rfl rfl).trans <| (j_iconst q_30_55).trans <| (j_istore (l2 := [(2, 1), (0, x1), (0, x2), (0, x3 + 1), (0, 0), (0, x5), (0, x6), (0, x7)]) q_30_56 rfl (Nat.le_of_ble_eq_true rfl)).trans <| (j_iconst q_30_58).trans <| (j_istore (l2 := [(2, 1), (0, x1), (0, x2), (0, x3 + 1), (0, 0), (0, 1), (0, x6), (0, x7)]) q_30_59 rfl (Nat.le_of_ble_eq_true rfl)).trans <| (j_goto (t := 92) q_30_61 rfl).trans <| rfl
theorem k_30_74 {E : js_E} {d : Nat} {σ σ2 : js_S} {x1 x2 x3 x4 x5 x6 x7 z1 : Int} {v : Int} (hd : 1 ≤ d) (hz : js_J E (d - 1) 24 0 [(2, 1), (0, z1)] [] σ = js_r E (0, v) σ2) : js_J E d 30 74 [(2, 1), (0, x1), (0, x2), (0, x3), (0, x4), (0, x5), (0, x6), (0, x7)] [(0, z1), (2, 1)] σ = js_J E d 30 77 [(2, 1), (0, x1), (0, x2), (0, x3), (0, x4), (0, x5), (0, x6), (0, x7)] [(0, v)] σ2 :=
  j_call (m := 0) (js_caV q_30_74 (js_Mo qy_30 qm_8_83)) (js_agV (av := [(0, z1)]) (st := []) rfl rfl js_o1 rfl) rfl rfl (by rw [ql_24]; exact Nat.le_of_ble_eq_true rfl) (Nat.le_of_ble_eq_true rfl) hd hz
theorem kt_30_74 {E : js_E} {d : Nat} {σ σ2 : js_S} {x1 x2 x3 x4 x5 x6 x7 z1 : Int} {w : Int} (hd : 1 ≤ d) (hz : js_J E (d - 1) 24 0 [(2, 1), (0, z1)] [] σ = js_t E w σ2) : js_J E d 30 74 [(2, 1), (0, x1), (0, x2), (0, x3), (0, x4), (0, x5), (0, x6), (0, x7)] [(0, z1), (2, 1)] σ = js_t E w σ2 :=
  j_callT (m := 0) (js_caV q_30_74 (js_Mo qy_30 qm_8_83)) (js_agV (av := [(0, z1)]) (st := []) rfl rfl js_o1 rfl) rfl rfl (by rw [ql_24]; exact Nat.le_of_ble_eq_true rfl) (Nat.le_of_ble_eq_true rfl) hd rfl hz
theorem b_30_77 {E : js_E} {d : Nat} {σ : js_S} {x1 x2 x3 x4 x5 x6 x7 z0 : Int} : js_J E d 30 77 [(2, 1), (0, x1), (0, x2), (0, x3), (0, x4), (0, x5), (0, x6), (0, x7)] [(0, z0)] σ = (if js_w z0 = js_w x7 then js_J E d 30 87 [(2, 1), (0, x1), (0, x2), (0, x3), (0, x4), (0, x5), (0, x6), (0, x7)] [(0, 1)] σ else js_J E d 30 86 [(2, 1), (0, x1), (0, x2), (0, x3), (0, x4), (0, x5), (0, x6), (0, x7)] [] σ) :=
  (j_iload q_30_77 rfl).trans <| (j_cmpne (t := 86) q_30_79 rfl).trans (js_ite ((j_iconst q_30_82).trans <| (j_goto (t := 87) q_30_83 rfl).trans <| rfl) (rfl))
theorem b_30_86 {E : js_E} {d : Nat} {σ : js_S} {x1 x2 x3 x4 x5 x6 x7 : Int} : js_J E d 30 86 [(2, 1), (0, x1), (0, x2), (0, x3), (0, x4), (0, x5), (0, x6), (0, x7)] [] σ = js_J E d 30 87 [(2, 1), (0, x1), (0, x2), (0, x3), (0, x4), (0, x5), (0, x6), (0, x7)] [(0, 0)] σ :=
  (j_iconst q_30_86).trans <| rfl
theorem b_30_87 {E : js_E} {d : Nat} {σ : js_S} {x1 x2 x3 x4 x5 x6 x7 z0 : Int} : js_J E d 30 87 [(2, 1), (0, x1), (0, x2), (0, x3), (0, x4), (0, x5), (0, x6), (0, x7)] [(0, z0)] σ = js_J E d 30 92 [(2, 1), (0, x1), (0, x2), (0, x3), (0, x4 + 1), (0, z0), (0, x6), (0, x7)] [] σ :=
  (j_istore (l2 := [(2, 1), (0, x1), (0, x2), (0, x3), (0, x4), (0, z0), (0, x6), (0, x7)]) q_30_87 rfl (Nat.le_of_ble_eq_true rfl)).trans <| (j_iinc (l2 := [(2, 1), (0, x1), (0, x2), (0, x3), (0, x4 + 1), (0, z0), (0, x6), (0, x7)]) q_30_89 rfl rfl).trans <| rfl
theorem b_30_92 {E : js_E} {d : Nat} {σ : js_S} {x1 x2 x3 x4 x5 x6 x7 : Int} : js_J E d 30 92 [(2, 1), (0, x1), (0, x2), (0, x3), (0, x4), (0, x5), (0, x6), (0, x7)] [] σ = js_J E d 30 13 [(2, 1), (0, x1), (0, x2), (0, x3), (0, x4), (0, x5), (0, x6 + 1), (0, x7)] [] σ :=
  (j_iinc (l2 := [(2, 1), (0, x1), (0, x2), (0, x3), (0, x4), (0, x5), (0, x6 + 1), (0, x7)]) q_30_92 rfl rfl).trans <| (j_goto (t := 13) q_30_95 rfl).trans <| rfl
-- 31: VitalTwin$Reader.numberAt (II)J
theorem b_31_0 {E : js_E} {d : Nat} {σ : js_S} {x1 x2 : Int} : js_J E d 31 0 [(2, 1), (0, x1), (0, x2), (9, 0), (9, 0), (9, 0)] [] σ = js_J E d 31 5 [(2, 1), (0, x1), (0, x2), (1, 0), (9, 0), (0, 0)] [] σ :=
  (j_lconst0 q_31_0).trans <| (j_lstore_n (l2 := [(2, 1), (0, x1), (0, x2), (1, 0), (9, 0), (9, 0)]) q_31_1 rfl (Nat.le_of_ble_eq_true rfl)).trans <| (j_iconst q_31_2).trans <| (j_istore (l2 := [(2, 1), (0, x1), (0, x2), (1, 0), (9, 0), (0, 0)]) q_31_3 rfl (Nat.le_of_ble_eq_true rfl)).trans <| rfl
theorem b_31_5 {E : js_E} {d : Nat} {σ : js_S} {x1 x2 x3 x5 : Int} : js_J E d 31 5 [(2, 1), (0, x1), (0, x2), (1, x3), (9, 0), (0, x5)] [] σ = (if js_w x5 < js_w x2 then js_J E d 31 21 [(2, 1), (0, x1), (0, x2), (1, x3), (9, 0), (0, x5)] [(0, x1 + x5), (2, 1), (1, 10 * x3)] σ else js_r E (1, x3) σ) :=
  (j_iload q_31_5 rfl).trans <| (j_iload_n q_31_7 rfl).trans <| (j_cmpge (t := 37) q_31_8 rfl).trans (js_ite ((j_ldc2 (v := (1, 10)) q_31_11 (js_Co qy_31 qc_8_124)).trans <| (j_lload_n q_31_14 rfl).trans <| (j_lmul q_31_15).trans <| (j_aload_n q_31_16 rfl).trans <| (j_iload_n q_31_17 rfl).trans <| (j_iload q_31_18 rfl).trans <| (j_iadd q_31_20).trans <| rfl) ((j_lload_n q_31_37 rfl).trans <| j_lreturn q_31_38 qr_31))
theorem k_31_21 {E : js_E} {d : Nat} {σ σ2 : js_S} {x1 x2 x3 x5 z0 z2 : Int} {v : Int} (hd : 1 ≤ d) (hz : js_J E (d - 1) 24 0 [(2, 1), (0, z2)] [] σ = js_r E (0, v) σ2) : js_J E d 31 21 [(2, 1), (0, x1), (0, x2), (1, x3), (9, 0), (0, x5)] [(0, z2), (2, 1), (1, z0)] σ = js_J E d 31 24 [(2, 1), (0, x1), (0, x2), (1, x3), (9, 0), (0, x5)] [(0, v), (1, z0)] σ2 :=
  j_call (m := 0) (js_caV q_31_21 (js_Mo qy_31 qm_8_83)) (js_agV (av := [(0, z2)]) (st := [(1, z0)]) rfl rfl js_o1 rfl) rfl rfl (by rw [ql_24]; exact Nat.le_of_ble_eq_true rfl) (Nat.le_of_ble_eq_true rfl) hd hz
theorem kt_31_21 {E : js_E} {d : Nat} {σ σ2 : js_S} {x1 x2 x3 x5 z0 z2 : Int} {w : Int} (hd : 1 ≤ d) (hz : js_J E (d - 1) 24 0 [(2, 1), (0, z2)] [] σ = js_t E w σ2) : js_J E d 31 21 [(2, 1), (0, x1), (0, x2), (1, x3), (9, 0), (0, x5)] [(0, z2), (2, 1), (1, z0)] σ = js_t E w σ2 :=
  j_callT (m := 0) (js_caV q_31_21 (js_Mo qy_31 qm_8_83)) (js_agV (av := [(0, z2)]) (st := [(1, z0)]) rfl rfl js_o1 rfl) rfl rfl (by rw [ql_24]; exact Nat.le_of_ble_eq_true rfl) (Nat.le_of_ble_eq_true rfl) hd rfl hz
theorem b_31_24 {E : js_E} {d : Nat} {σ : js_S} {x1 x2 x3 x5 z0 z1 : Int} : js_J E d 31 24 [(2, 1), (0, x1), (0, x2), (1, x3), (9, 0), (0, x5)] [(0, z1), (1, z0)] σ = js_J E d 31 5 [(2, 1), (0, x1), (0, x2), (1, (z0 + (js_w z1)) - 48), (9, 0), (0, x5 + 1)] [] σ :=
  (j_i2l q_31_24).trans <| (j_ladd q_31_25).trans <| (j_ldc2 (v := (1, 48)) q_31_26 (js_Co qy_31 qc_8_126)).trans <| (j_lsub q_31_29).trans <| (j_lstore_n (l2 := [(2, 1), (0, x1), (0, x2), (1, (z0 + (js_w z1)) - 48), (9, 0), (0, x5)]) q_31_30 rfl (Nat.le_of_ble_eq_true rfl)).trans <| (j_iinc (l2 := [(2, 1), (0, x1), (0, x2), (1, (z0 + (js_w z1)) - 48), (9, 0), (0, x5 + 1)]) q_31_31 rfl rfl).trans <| (j_goto (t := 5) q_31_34 rfl).trans <| rfl
-- 32: VitalTwin$Reader.addToken (III)V
theorem b_32_0 {E : js_E} {d : Nat} {σ : js_S} {x1 x2 x3 : Int} (hd : 4 ≤ d) : js_J E d 32 0 [(2, 1), (0, x1), (0, x2), (0, x3)] [] σ = (if js_w x1 = 4 then js_r0 E σ else (if js_w (σ 1 10) < 8193 then (if 0 ≤ js_w (σ 1 10) ∧ js_w (σ 1 10) < 8193 then js_r0 E (js_up (js_up (js_up σ 4 (js_w (σ 1 10)) (js_i2b (js_i2b x1))) 5 (js_w (σ 1 10)) ((32 * x2) + (if js_w x3 < js_w 31 then x3 else 31))) 1 10 ((σ 1 10) + 1)) else none) else js_r0 E σ)) :=
  (j_iload_n q_32_0 rfl).trans <| (j_iconst q_32_1).trans <| (j_cmpeqB (t := 58) q_32_2 rfl ww_4).trans (js_ite (j_return q_32_58 qr_32) ((j_aload_n q_32_5 rfl).trans <| (j_get (ji := 10) (v := (0, σ 1 10)) q_32_6 (js_Fo qy_32 qf_8_54) js_o1 rfl rfl rfl rfl).trans <| (j_aload_n q_32_9 rfl).trans <| (j_get (ji := 8) (v := (2, 4)) q_32_10 (js_Fo qy_32 qf_8_18) js_o1 rfl rfl rfl rfl).trans <| (j_alen q_32_13 js_o4 (by decide) (by decide)).trans <| (j_cmpgeB (t := 58) q_32_14 rfl ww_8193).trans (js_ite ((j_aload_n q_32_17 rfl).trans <| (j_get (ji := 8) (v := (2, 4)) q_32_18 (js_Fo qy_32 qf_8_18) js_o1 rfl rfl rfl rfl).trans <| (j_aload_n q_32_21 rfl).trans <| (j_get (ji := 10) (v := (0, σ 1 10)) q_32_22 (js_Fo qy_32 qf_8_54) js_o1 rfl rfl rfl rfl).trans <| (j_iload_n q_32_25 rfl).trans <| (j_i2b q_32_26).trans <| (j_bastore q_32_27 js_o4).trans <| js_itp fun g0 => (j_aload_n q_32_28 rfl).trans <| (j_get (ji := 9) (v := (2, 5)) q_32_29 (js_Fo qy_32 qf_8_21) js_o1 rfl rfl rfl rfl).trans <| (j_aload_n q_32_32 rfl).trans <| (j_get (ji := 10) (v := (0, σ 1 10)) q_32_33 (js_Fo qy_32 qf_8_54) js_o1 rfl rfl rfl (congrArg (Prod.mk 0) ((js_up_na _ (by decide))))).trans <| (j_bi q_32_36 rfl).trans <| (j_iload_n q_32_38 rfl).trans <| (j_imul q_32_39).trans <| (j_bi q_32_40 rfl).trans <| (j_iload_n q_32_42 rfl).trans <| (j_min (js_clS q_32_43 (js_Mo qy_32 qm_8_80)) (Nat.le_of_ble_eq_true rfl) hd).trans <| (j_iadd q_32_46).trans <| (j_iastore q_32_47 js_o5).trans <| (if_pos g0).trans <| (j_aload_n q_32_48 rfl).trans <| (j_dupr q_32_49).trans <| (j_get (ji := 10) (v := (0, σ 1 10)) q_32_50 (js_Fo qy_32 qf_8_54) js_o1 rfl rfl rfl (congrArg (Prod.mk 0) ((js_up_na _ (by decide)).trans <| (js_up_na _ (by decide))))).trans <| (j_iconst q_32_53).trans <| (j_iadd q_32_54).trans <| (j_putI (ji := 10) q_32_55 (js_Fo qy_32 qf_8_54) rfl js_o1 rfl rfl rfl).trans <| j_return q_32_58 qr_32) (j_return q_32_58 qr_32))))
