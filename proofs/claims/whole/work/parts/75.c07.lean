/-! part 75.c07: block equations of the class's (and the law's helpers') methods 116 to 137 (printed by wip/whole/tools/gen71.py) -/
theorem qy_116 : vt_O 116 = 6 := by decide +kernel
theorem qr_116 : vt_rc.getD 116 0 = 0 := by decide +kernel
theorem ql_116 : vt_ml.getD 116 0 = 6 := by decide +kernel
theorem qy_117 : vt_O 117 = 6 := by decide +kernel
theorem qr_117 : vt_rc.getD 117 0 = 0 := by decide +kernel
theorem ql_117 : vt_ml.getD 117 0 = 4 := by decide +kernel
theorem qy_118 : vt_O 118 = 9 := by decide +kernel
theorem qr_118 : vt_rc.getD 118 0 = 0 := by decide +kernel
theorem ql_118 : vt_ml.getD 118 0 = 2 := by decide +kernel
theorem qy_120 : vt_O 120 = 9 := by decide +kernel
theorem qr_120 : vt_rc.getD 120 0 = 0 := by decide +kernel
theorem ql_120 : vt_ml.getD 120 0 = 3 := by decide +kernel
theorem qy_119 : vt_O 119 = 3 := by decide +kernel
theorem qr_119 : vt_rc.getD 119 0 = 0 := by decide +kernel
theorem ql_119 : vt_ml.getD 119 0 = 3 := by decide +kernel
theorem qy_121 : vt_O 121 = 3 := by decide +kernel
theorem qr_121 : vt_rc.getD 121 0 = 0 := by decide +kernel
theorem ql_121 : vt_ml.getD 121 0 = 4 := by decide +kernel
theorem qy_122 : vt_O 122 = 3 := by decide +kernel
theorem qr_122 : vt_rc.getD 122 0 = 0 := by decide +kernel
theorem ql_122 : vt_ml.getD 122 0 = 4 := by decide +kernel
theorem qy_123 : vt_O 123 = 0 := by decide +kernel
theorem qr_123 : vt_rc.getD 123 0 = 1 := by decide +kernel
theorem ql_123 : vt_ml.getD 123 0 = 4 := by decide +kernel
theorem qy_124 : vt_O 124 = 11 := by decide +kernel
theorem qr_124 : vt_rc.getD 124 0 = 1 := by decide +kernel
theorem ql_124 : vt_ml.getD 124 0 = 2 := by decide +kernel
theorem qy_125 : vt_O 125 = 0 := by decide +kernel
theorem qr_125 : vt_rc.getD 125 0 = 1 := by decide +kernel
theorem ql_125 : vt_ml.getD 125 0 = 3 := by decide +kernel
theorem qy_126 : vt_O 126 = 7 := by decide +kernel
theorem qr_126 : vt_rc.getD 126 0 = 1 := by decide +kernel
theorem ql_126 : vt_ml.getD 126 0 = 4 := by decide +kernel
theorem qy_127 : vt_O 127 = 0 := by decide +kernel
theorem qr_127 : vt_rc.getD 127 0 = 1 := by decide +kernel
theorem ql_127 : vt_ml.getD 127 0 = 4 := by decide +kernel
theorem qy_128 : vt_O 128 = 0 := by decide +kernel
theorem qr_128 : vt_rc.getD 128 0 = 1 := by decide +kernel
theorem ql_128 : vt_ml.getD 128 0 = 5 := by decide +kernel
theorem qy_129 : vt_O 129 = 0 := by decide +kernel
theorem qr_129 : vt_rc.getD 129 0 = 0 := by decide +kernel
theorem ql_129 : vt_ml.getD 129 0 = 8 := by decide +kernel
theorem qy_130 : vt_O 130 = 0 := by decide +kernel
theorem qr_130 : vt_rc.getD 130 0 = 0 := by decide +kernel
theorem ql_130 : vt_ml.getD 130 0 = 2 := by decide +kernel
theorem qy_131 : vt_O 131 = 0 := by decide +kernel
theorem qr_131 : vt_rc.getD 131 0 = 0 := by decide +kernel
theorem ql_131 : vt_ml.getD 131 0 = 8 := by decide +kernel
theorem qy_132 : vt_O 132 = 0 := by decide +kernel
theorem qr_132 : vt_rc.getD 132 0 = 2 := by decide +kernel
theorem ql_132 : vt_ml.getD 132 0 = 3 := by decide +kernel
theorem qy_133 : vt_O 133 = 6 := by decide +kernel
theorem qr_133 : vt_rc.getD 133 0 = 2 := by decide +kernel
theorem ql_133 : vt_ml.getD 133 0 = 5 := by decide +kernel
theorem qy_134 : vt_O 134 = 7 := by decide +kernel
theorem qr_134 : vt_rc.getD 134 0 = 4 := by decide +kernel
theorem ql_134 : vt_ml.getD 134 0 = 6 := by decide +kernel
theorem qy_135 : vt_O 135 = 7 := by decide +kernel
theorem qr_135 : vt_rc.getD 135 0 = 1 := by decide +kernel
theorem ql_135 : vt_ml.getD 135 0 = 6 := by decide +kernel
theorem qy_136 : vt_O 136 = 0 := by decide +kernel
theorem qr_136 : vt_rc.getD 136 0 = 1 := by decide +kernel
theorem ql_136 : vt_ml.getD 136 0 = 5 := by decide +kernel
theorem qy_137 : vt_O 137 = 6 := by decide +kernel
theorem qr_137 : vt_rc.getD 137 0 = 2 := by decide +kernel
theorem ql_137 : vt_ml.getD 137 0 = 3 := by decide +kernel
theorem qy_138 : vt_O 138 = 6 := by decide +kernel
theorem qr_138 : vt_rc.getD 138 0 = 2 := by decide +kernel
theorem ql_138 : vt_ml.getD 138 0 = 1 := by decide +kernel
theorem qy_139 : vt_O 139 = 6 := by decide +kernel
theorem qr_139 : vt_rc.getD 139 0 = 1 := by decide +kernel
theorem ql_139 : vt_ml.getD 139 0 = 8 := by decide +kernel
theorem q_116_0 : js_I 116 0 = some (.aload_n 0, 1) := by decide +kernel
theorem q_116_1 : js_I 116 1 = some (.aload_n 1, 1) := by decide +kernel
theorem q_116_2 : js_I 116 2 = some (.putfield 39, 3) := by decide +kernel
theorem q_116_5 : js_I 116 5 = some (.aload_n 0, 1) := by decide +kernel
theorem q_116_6 : js_I 116 6 = some (.iconst 1, 1) := by decide +kernel
theorem q_116_7 : js_I 116 7 = some (.putfield 43, 3) := by decide +kernel
theorem q_116_10 : js_I 116 10 = some (.iconst 0, 1) := by decide +kernel
theorem q_116_11 : js_I 116 11 = some (.istore_n 2, 1) := by decide +kernel
theorem q_116_12 : js_I 116 12 = some (.iload_n 2, 1) := by decide +kernel
theorem q_116_13 : js_I 116 13 = some (.aload_n 0, 1) := by decide +kernel
theorem q_116_14 : js_I 116 14 = some (.getfield 39, 3) := by decide +kernel
theorem q_116_17 : js_I 116 17 = some (.getfield 47, 3) := by decide +kernel
theorem q_116_20 : js_I 116 20 = some (.if_icmp .ge 99, 3) := by decide +kernel
theorem q_116_23 : js_I 116 23 = some (.aload_n 0, 1) := by decide +kernel
theorem q_116_24 : js_I 116 24 = some (.getfield 39, 3) := by decide +kernel
theorem q_116_27 : js_I 116 27 = some (.iload_n 2, 1) := by decide +kernel
theorem q_116_28 : js_I 116 28 = some (.invokevirtual 53, 3) := by decide +kernel
theorem q_116_119 : js_I 116 119 = some (.aload_n 0, 1) := by decide +kernel
theorem q_116_120 : js_I 116 120 = some (.invokevirtual 74, 3) := by decide +kernel
theorem q_116_31 : js_I 116 31 = some (.astore_n 3, 1) := by decide +kernel
theorem q_116_32 : js_I 116 32 = some (.aload_n 3, 1) := by decide +kernel
theorem q_116_33 : js_I 116 33 = some (.ifnull 80, 3) := by decide +kernel
theorem q_116_36 : js_I 116 36 = some (.aload_n 3, 1) := by decide +kernel
theorem q_116_37 : js_I 116 37 = some (.getfield 57, 3) := by decide +kernel
theorem q_116_40 : js_I 116 40 = some (.iconst 1, 1) := by decide +kernel
theorem q_116_41 : js_I 116 41 = some (.if_icmp .ne 72, 3) := by decide +kernel
theorem q_116_44 : js_I 116 44 = some (.aload_n 3, 1) := by decide +kernel
theorem q_116_45 : js_I 116 45 = some (.getfield 62, 3) := by decide +kernel
theorem q_116_48 : js_I 116 48 = some (.ifCond .gt 14, 3) := by decide +kernel
theorem q_116_51 : js_I 116 51 = some (.aload_n 3, 1) := by decide +kernel
theorem q_116_52 : js_I 116 52 = some (.getfield 65, 3) := by decide +kernel
theorem q_116_55 : js_I 116 55 = some (.ifCond .lt 7, 3) := by decide +kernel
theorem q_116_58 : js_I 116 58 = some (.iconst 0, 1) := by decide +kernel
theorem q_116_59 : js_I 116 59 = some (.goto 7, 3) := by decide +kernel
theorem q_116_62 : js_I 116 62 = some (.aload_n 3, 1) := by decide +kernel
theorem q_116_63 : js_I 116 63 = some (.getfield 62, 3) := by decide +kernel
theorem q_116_66 : js_I 116 66 = some (.istore 4, 2) := by decide +kernel
theorem q_116_68 : js_I 116 68 = some (.aload_n 3, 1) := by decide +kernel
theorem q_116_69 : js_I 116 69 = some (.getfield 68, 3) := by decide +kernel
theorem q_116_72 : js_I 116 72 = some (.istore 5, 2) := by decide +kernel
theorem q_116_74 : js_I 116 74 = some (.iload 5, 2) := by decide +kernel
theorem q_116_76 : js_I 116 76 = some (.aload_n 3, 1) := by decide +kernel
theorem q_116_77 : js_I 116 77 = some (.getfield 68, 3) := by decide +kernel
theorem q_116_80 : js_I 116 80 = some (.aload_n 3, 1) := by decide +kernel
theorem q_116_81 : js_I 116 81 = some (.getfield 71, 3) := by decide +kernel
theorem q_116_84 : js_I 116 84 = some (.iadd, 1) := by decide +kernel
theorem q_116_85 : js_I 116 85 = some (.if_icmp .ge 28, 3) := by decide +kernel
theorem q_116_88 : js_I 116 88 = some (.iload 5, 2) := by decide +kernel
theorem q_116_90 : js_I 116 90 = some (.aload_n 0, 1) := by decide +kernel
theorem q_116_91 : js_I 116 91 = some (.getfield 30, 3) := by decide +kernel
theorem q_116_94 : js_I 116 94 = some (.arraylength, 1) := by decide +kernel
theorem q_116_95 : js_I 116 95 = some (.if_icmp .ge 18, 3) := by decide +kernel
theorem q_116_98 : js_I 116 98 = some (.aload_n 0, 1) := by decide +kernel
theorem q_116_99 : js_I 116 99 = some (.getfield 30, 3) := by decide +kernel
theorem q_116_102 : js_I 116 102 = some (.iload 5, 2) := by decide +kernel
theorem q_116_104 : js_I 116 104 = some (.iload 4, 2) := by decide +kernel
theorem q_116_106 : js_I 116 106 = some (.iastore, 1) := by decide +kernel
theorem q_116_107 : js_I 116 107 = some (.iinc 5 1, 3) := by decide +kernel
theorem q_116_110 : js_I 116 110 = some (.goto (-36), 3) := by decide +kernel
theorem q_116_113 : js_I 116 113 = some (.iinc 2 1, 3) := by decide +kernel
theorem q_116_116 : js_I 116 116 = some (.goto (-104), 3) := by decide +kernel
theorem q_116_123 : js_I 116 123 = some (.return_, 1) := by decide +kernel
theorem q_117_0 : js_I 117 0 = some (.aload_n 0, 1) := by decide +kernel
theorem q_117_1 : js_I 117 1 = some (.getfield 20, 3) := by decide +kernel
theorem q_117_4 : js_I 117 4 = some (.aload_n 0, 1) := by decide +kernel
theorem q_117_5 : js_I 117 5 = some (.getfield 39, 3) := by decide +kernel
theorem q_117_8 : js_I 117 8 = some (.getfield 77, 3) := by decide +kernel
theorem q_117_11 : js_I 117 11 = some (.invokevirtual 80, 3) := by decide +kernel
theorem q_117_14 : js_I 117 14 = some (.iconst 0, 1) := by decide +kernel
theorem q_117_15 : js_I 117 15 = some (.istore_n 1, 1) := by decide +kernel
theorem q_117_16 : js_I 117 16 = some (.iload_n 1, 1) := by decide +kernel
theorem q_117_17 : js_I 117 17 = some (.aload_n 0, 1) := by decide +kernel
theorem q_117_18 : js_I 117 18 = some (.getfield 39, 3) := by decide +kernel
theorem q_117_21 : js_I 117 21 = some (.getfield 47, 3) := by decide +kernel
theorem q_117_24 : js_I 117 24 = some (.if_icmp .ge 74, 3) := by decide +kernel
theorem q_117_27 : js_I 117 27 = some (.aload_n 0, 1) := by decide +kernel
theorem q_117_28 : js_I 117 28 = some (.getfield 39, 3) := by decide +kernel
theorem q_117_31 : js_I 117 31 = some (.iload_n 1, 1) := by decide +kernel
theorem q_117_32 : js_I 117 32 = some (.invokevirtual 53, 3) := by decide +kernel
theorem q_117_98 : js_I 117 98 = some (.aload_n 0, 1) := by decide +kernel
theorem q_117_99 : js_I 117 99 = some (.iconst 0, 1) := by decide +kernel
theorem q_117_100 : js_I 117 100 = some (.putfield 90, 3) := by decide +kernel
theorem q_117_103 : js_I 117 103 = some (.aload_n 0, 1) := by decide +kernel
theorem q_117_104 : js_I 117 104 = some (.iconst 0, 1) := by decide +kernel
theorem q_117_105 : js_I 117 105 = some (.putfield 93, 3) := by decide +kernel
theorem q_117_108 : js_I 117 108 = some (.aload_n 0, 1) := by decide +kernel
theorem q_117_109 : js_I 117 109 = some (.iconst 0, 1) := by decide +kernel
theorem q_117_110 : js_I 117 110 = some (.putfield 96, 3) := by decide +kernel
theorem q_117_113 : js_I 117 113 = some (.aload_n 0, 1) := by decide +kernel
theorem q_117_114 : js_I 117 114 = some (.iconst 0, 1) := by decide +kernel
theorem q_117_115 : js_I 117 115 = some (.putfield 99, 3) := by decide +kernel
theorem q_117_118 : js_I 117 118 = some (.return_, 1) := by decide +kernel
theorem q_117_35 : js_I 117 35 = some (.astore_n 2, 1) := by decide +kernel
theorem q_117_36 : js_I 117 36 = some (.aload_n 2, 1) := by decide +kernel
theorem q_117_37 : js_I 117 37 = some (.ifnull 55, 3) := by decide +kernel
theorem q_117_40 : js_I 117 40 = some (.aload_n 2, 1) := by decide +kernel
theorem q_117_41 : js_I 117 41 = some (.getfield 57, 3) := by decide +kernel
theorem q_117_44 : js_I 117 44 = some (.iconst 2, 1) := by decide +kernel
theorem q_117_45 : js_I 117 45 = some (.if_icmp .eq 11, 3) := by decide +kernel
theorem q_117_48 : js_I 117 48 = some (.aload_n 2, 1) := by decide +kernel
theorem q_117_49 : js_I 117 49 = some (.getfield 57, 3) := by decide +kernel
theorem q_117_52 : js_I 117 52 = some (.iconst 3, 1) := by decide +kernel
theorem q_117_53 : js_I 117 53 = some (.if_icmp .ne 39, 3) := by decide +kernel
theorem q_117_56 : js_I 117 56 = some (.aload_n 2, 1) := by decide +kernel
theorem q_117_57 : js_I 117 57 = some (.getfield 68, 3) := by decide +kernel
theorem q_117_60 : js_I 117 60 = some (.istore_n 3, 1) := by decide +kernel
theorem q_117_61 : js_I 117 61 = some (.iload_n 3, 1) := by decide +kernel
theorem q_117_62 : js_I 117 62 = some (.aload_n 2, 1) := by decide +kernel
theorem q_117_63 : js_I 117 63 = some (.getfield 68, 3) := by decide +kernel
theorem q_117_66 : js_I 117 66 = some (.aload_n 2, 1) := by decide +kernel
theorem q_117_67 : js_I 117 67 = some (.getfield 71, 3) := by decide +kernel
theorem q_117_70 : js_I 117 70 = some (.iadd, 1) := by decide +kernel
theorem q_117_71 : js_I 117 71 = some (.if_icmp .ge 21, 3) := by decide +kernel
theorem q_117_74 : js_I 117 74 = some (.aload_n 0, 1) := by decide +kernel
theorem q_117_75 : js_I 117 75 = some (.getfield 20, 3) := by decide +kernel
theorem q_117_78 : js_I 117 78 = some (.iload_n 3, 1) := by decide +kernel
theorem q_117_79 : js_I 117 79 = some (.aload_n 2, 1) := by decide +kernel
theorem q_117_80 : js_I 117 80 = some (.getfield 83, 3) := by decide +kernel
theorem q_117_83 : js_I 117 83 = some (.invokevirtual 86, 3) := by decide +kernel
theorem q_117_86 : js_I 117 86 = some (.iinc 3 1, 3) := by decide +kernel
theorem q_117_89 : js_I 117 89 = some (.goto (-28), 3) := by decide +kernel
theorem q_117_92 : js_I 117 92 = some (.iinc 1 1, 3) := by decide +kernel
theorem q_117_95 : js_I 117 95 = some (.goto (-79), 3) := by decide +kernel
theorem q_118_0 : js_I 118 0 = some (.aload_n 0, 1) := by decide +kernel
theorem q_118_1 : js_I 118 1 = some (.iconst 0, 1) := by decide +kernel
theorem q_118_2 : js_I 118 2 = some (.putfield 25, 3) := by decide +kernel
theorem q_118_5 : js_I 118 5 = some (.aload_n 0, 1) := by decide +kernel
theorem q_118_6 : js_I 118 6 = some (.iconst 0, 1) := by decide +kernel
theorem q_118_7 : js_I 118 7 = some (.putfield 29, 3) := by decide +kernel
theorem q_118_10 : js_I 118 10 = some (.aload_n 0, 1) := by decide +kernel
theorem q_118_11 : js_I 118 11 = some (.iconst 0, 1) := by decide +kernel
theorem q_118_12 : js_I 118 12 = some (.putfield 32, 3) := by decide +kernel
theorem q_118_15 : js_I 118 15 = some (.aload_n 0, 1) := by decide +kernel
theorem q_118_16 : js_I 118 16 = some (.iconst 0, 1) := by decide +kernel
theorem q_118_17 : js_I 118 17 = some (.putfield 35, 3) := by decide +kernel
theorem q_118_20 : js_I 118 20 = some (.aload_n 0, 1) := by decide +kernel
theorem q_118_21 : js_I 118 21 = some (.getfield 14, 3) := by decide +kernel
theorem q_118_24 : js_I 118 24 = some (.iload_n 1, 1) := by decide +kernel
theorem q_118_25 : js_I 118 25 = some (.invokevirtual 38, 3) := by decide +kernel
theorem q_118_28 : js_I 118 28 = some (.aload_n 0, 1) := by decide +kernel
theorem q_118_29 : js_I 118 29 = some (.getfield 22, 3) := by decide +kernel
theorem q_118_32 : js_I 118 32 = some (.iload_n 1, 1) := by decide +kernel
theorem q_118_33 : js_I 118 33 = some (.invokevirtual 38, 3) := by decide +kernel
theorem q_118_36 : js_I 118 36 = some (.return_, 1) := by decide +kernel
theorem q_119_0 : js_I 119 0 = some (.aload_n 0, 1) := by decide +kernel
theorem q_119_1 : js_I 119 1 = some (.lconst 0, 1) := by decide +kernel
theorem q_119_2 : js_I 119 2 = some (.putfield 23, 3) := by decide +kernel
theorem q_119_5 : js_I 119 5 = some (.aload_n 0, 1) := by decide +kernel
theorem q_119_6 : js_I 119 6 = some (.lconst 0, 1) := by decide +kernel
theorem q_119_7 : js_I 119 7 = some (.putfield 26, 3) := by decide +kernel
theorem q_119_10 : js_I 119 10 = some (.iconst 0, 1) := by decide +kernel
theorem q_119_11 : js_I 119 11 = some (.istore_n 2, 1) := by decide +kernel
theorem q_119_12 : js_I 119 12 = some (.iload_n 2, 1) := by decide +kernel
theorem q_119_13 : js_I 119 13 = some (.iload_n 1, 1) := by decide +kernel
theorem q_119_14 : js_I 119 14 = some (.if_icmp .ge 25, 3) := by decide +kernel
theorem q_119_17 : js_I 119 17 = some (.iload_n 2, 1) := by decide +kernel
theorem q_119_18 : js_I 119 18 = some (.aload_n 0, 1) := by decide +kernel
theorem q_119_19 : js_I 119 19 = some (.getfield 15, 3) := by decide +kernel
theorem q_119_22 : js_I 119 22 = some (.arraylength, 1) := by decide +kernel
theorem q_119_23 : js_I 119 23 = some (.if_icmp .ge 16, 3) := by decide +kernel
theorem q_119_26 : js_I 119 26 = some (.aload_n 0, 1) := by decide +kernel
theorem q_119_27 : js_I 119 27 = some (.getfield 15, 3) := by decide +kernel
theorem q_119_30 : js_I 119 30 = some (.iload_n 2, 1) := by decide +kernel
theorem q_119_31 : js_I 119 31 = some (.lconst 0, 1) := by decide +kernel
theorem q_119_32 : js_I 119 32 = some (.lastore, 1) := by decide +kernel
theorem q_119_33 : js_I 119 33 = some (.iinc 2 1, 3) := by decide +kernel
theorem q_119_36 : js_I 119 36 = some (.goto (-24), 3) := by decide +kernel
theorem q_119_39 : js_I 119 39 = some (.return_, 1) := by decide +kernel
theorem q_120_0 : js_I 120 0 = some (.aload_n 0, 1) := by decide +kernel
theorem q_120_1 : js_I 120 1 = some (.getfield 14, 3) := by decide +kernel
theorem q_120_4 : js_I 120 4 = some (.iload_n 1, 1) := by decide +kernel
theorem q_120_5 : js_I 120 5 = some (.iload_n 2, 1) := by decide +kernel
theorem q_120_6 : js_I 120 6 = some (.i2l, 1) := by decide +kernel
theorem q_120_7 : js_I 120 7 = some (.invokevirtual 46, 3) := by decide +kernel
theorem q_120_10 : js_I 120 10 = some (.aload_n 0, 1) := by decide +kernel
theorem q_120_11 : js_I 120 11 = some (.getfield 22, 3) := by decide +kernel
theorem q_120_14 : js_I 120 14 = some (.iload_n 1, 1) := by decide +kernel
theorem q_120_15 : js_I 120 15 = some (.iload_n 2, 1) := by decide +kernel
theorem q_120_16 : js_I 120 16 = some (.i2l, 1) := by decide +kernel
theorem q_120_17 : js_I 120 17 = some (.invokevirtual 46, 3) := by decide +kernel
theorem q_120_20 : js_I 120 20 = some (.return_, 1) := by decide +kernel
theorem q_121_0 : js_I 121 0 = some (.aload_n 0, 1) := by decide +kernel
theorem q_121_1 : js_I 121 1 = some (.iload_n 1, 1) := by decide +kernel
theorem q_121_2 : js_I 121 2 = some (.lload_n 2, 1) := by decide +kernel
theorem q_121_3 : js_I 121 3 = some (.aload_n 0, 1) := by decide +kernel
theorem q_121_4 : js_I 121 4 = some (.getfield 19, 3) := by decide +kernel
theorem q_121_7 : js_I 121 7 = some (.lmul, 1) := by decide +kernel
theorem q_121_8 : js_I 121 8 = some (.invokevirtual 51, 3) := by decide +kernel
theorem q_121_11 : js_I 121 11 = some (.return_, 1) := by decide +kernel
theorem q_122_0 : js_I 122 0 = some (.iload_n 1, 1) := by decide +kernel
theorem q_122_1 : js_I 122 1 = some (.ifCond .lt 19, 3) := by decide +kernel
theorem q_122_20 : js_I 122 20 = some (.return_, 1) := by decide +kernel
theorem q_122_4 : js_I 122 4 = some (.iload_n 1, 1) := by decide +kernel
theorem q_122_5 : js_I 122 5 = some (.aload_n 0, 1) := by decide +kernel
theorem q_122_6 : js_I 122 6 = some (.getfield 15, 3) := by decide +kernel
theorem q_122_9 : js_I 122 9 = some (.arraylength, 1) := by decide +kernel
theorem q_122_10 : js_I 122 10 = some (.if_icmp .ge 10, 3) := by decide +kernel
theorem q_122_13 : js_I 122 13 = some (.aload_n 0, 1) := by decide +kernel
theorem q_122_14 : js_I 122 14 = some (.getfield 15, 3) := by decide +kernel
theorem q_122_17 : js_I 122 17 = some (.iload_n 1, 1) := by decide +kernel
theorem q_122_18 : js_I 122 18 = some (.lload_n 2, 1) := by decide +kernel
theorem q_122_19 : js_I 122 19 = some (.lastore, 1) := by decide +kernel
theorem q_123_0 : js_I 123 0 = some (.aload_n 0, 1) := by decide +kernel
theorem q_123_1 : js_I 123 1 = some (.getfield 30, 3) := by decide +kernel
theorem q_123_4 : js_I 123 4 = some (.getfield 39, 3) := by decide +kernel
theorem q_123_7 : js_I 123 7 = some (.iload_n 1, 1) := by decide +kernel
theorem q_123_8 : js_I 123 8 = some (.invokevirtual 74, 3) := by decide +kernel
theorem q_123_11 : js_I 123 11 = some (.astore_n 3, 1) := by decide +kernel
theorem q_123_12 : js_I 123 12 = some (.aload_n 3, 1) := by decide +kernel
theorem q_123_13 : js_I 123 13 = some (.ifnonnull 7, 3) := by decide +kernel
theorem q_123_16 : js_I 123 16 = some (.iconst (-1), 1) := by decide +kernel
theorem q_123_17 : js_I 123 17 = some (.goto 8, 3) := by decide +kernel
theorem q_123_20 : js_I 123 20 = some (.aload_n 3, 1) := by decide +kernel
theorem q_123_21 : js_I 123 21 = some (.iload_n 2, 1) := by decide +kernel
theorem q_123_22 : js_I 123 22 = some (.invokevirtual 80, 3) := by decide +kernel
theorem q_123_25 : js_I 123 25 = some (.ireturn, 1) := by decide +kernel
theorem q_124_0 : js_I 124 0 = some (.iload_n 1, 1) := by decide +kernel
theorem q_124_1 : js_I 124 1 = some (.tableswitch 96 0 8 #[51, 56, 61, 66, 71, 76, 81, 86, 91], 51) := by decide +kernel
theorem q_124_52 : js_I 124 52 = some (.aload_n 0, 1) := by decide +kernel
theorem q_124_53 : js_I 124 53 = some (.getfield 15, 3) := by decide +kernel
theorem q_124_56 : js_I 124 56 = some (.ireturn, 1) := by decide +kernel
theorem q_124_57 : js_I 124 57 = some (.aload_n 0, 1) := by decide +kernel
theorem q_124_58 : js_I 124 58 = some (.getfield 18, 3) := by decide +kernel
theorem q_124_61 : js_I 124 61 = some (.ireturn, 1) := by decide +kernel
theorem q_124_62 : js_I 124 62 = some (.aload_n 0, 1) := by decide +kernel
theorem q_124_63 : js_I 124 63 = some (.getfield 21, 3) := by decide +kernel
theorem q_124_66 : js_I 124 66 = some (.ireturn, 1) := by decide +kernel
theorem q_124_67 : js_I 124 67 = some (.aload_n 0, 1) := by decide +kernel
theorem q_124_68 : js_I 124 68 = some (.getfield 24, 3) := by decide +kernel
theorem q_124_71 : js_I 124 71 = some (.ireturn, 1) := by decide +kernel
theorem q_124_72 : js_I 124 72 = some (.aload_n 0, 1) := by decide +kernel
theorem q_124_73 : js_I 124 73 = some (.getfield 27, 3) := by decide +kernel
theorem q_124_76 : js_I 124 76 = some (.ireturn, 1) := by decide +kernel
theorem q_124_77 : js_I 124 77 = some (.aload_n 0, 1) := by decide +kernel
theorem q_124_78 : js_I 124 78 = some (.getfield 30, 3) := by decide +kernel
theorem q_124_81 : js_I 124 81 = some (.ireturn, 1) := by decide +kernel
theorem q_124_82 : js_I 124 82 = some (.aload_n 0, 1) := by decide +kernel
theorem q_124_83 : js_I 124 83 = some (.getfield 33, 3) := by decide +kernel
theorem q_124_86 : js_I 124 86 = some (.ireturn, 1) := by decide +kernel
theorem q_124_87 : js_I 124 87 = some (.aload_n 0, 1) := by decide +kernel
theorem q_124_88 : js_I 124 88 = some (.getfield 36, 3) := by decide +kernel
theorem q_124_91 : js_I 124 91 = some (.ireturn, 1) := by decide +kernel
theorem q_124_92 : js_I 124 92 = some (.aload_n 0, 1) := by decide +kernel
theorem q_124_93 : js_I 124 93 = some (.getfield 39, 3) := by decide +kernel
theorem q_124_96 : js_I 124 96 = some (.ireturn, 1) := by decide +kernel
theorem q_124_97 : js_I 124 97 = some (.iconst (-1), 1) := by decide +kernel
theorem q_124_98 : js_I 124 98 = some (.ireturn, 1) := by decide +kernel
theorem q_125_0 : js_I 125 0 = some (.aload_n 0, 1) := by decide +kernel
theorem q_125_1 : js_I 125 1 = some (.getfield 30, 3) := by decide +kernel
theorem q_125_4 : js_I 125 4 = some (.getfield 39, 3) := by decide +kernel
theorem q_125_7 : js_I 125 7 = some (.iload_n 1, 1) := by decide +kernel
theorem q_125_8 : js_I 125 8 = some (.iload_n 2, 1) := by decide +kernel
theorem q_125_9 : js_I 125 9 = some (.invokevirtual 86, 3) := by decide +kernel
theorem q_125_12 : js_I 125 12 = some (.ireturn, 1) := by decide +kernel
theorem q_126_0 : js_I 126 0 = some (.aload_n 0, 1) := by decide +kernel
theorem q_126_1 : js_I 126 1 = some (.iload_n 1, 1) := by decide +kernel
theorem q_126_2 : js_I 126 2 = some (.invokevirtual 50, 3) := by decide +kernel
theorem q_126_5 : js_I 126 5 = some (.astore_n 3, 1) := by decide +kernel
theorem q_126_6 : js_I 126 6 = some (.aload_n 3, 1) := by decide +kernel
theorem q_126_7 : js_I 126 7 = some (.ifnull 15, 3) := by decide +kernel
theorem q_126_22 : js_I 126 22 = some (.iconst (-1), 1) := by decide +kernel
theorem q_126_23 : js_I 126 23 = some (.goto 17, 3) := by decide +kernel
theorem q_126_40 : js_I 126 40 = some (.ireturn, 1) := by decide +kernel
theorem q_126_10 : js_I 126 10 = some (.iload_n 2, 1) := by decide +kernel
theorem q_126_11 : js_I 126 11 = some (.ifCond .lt 11, 3) := by decide +kernel
theorem q_126_14 : js_I 126 14 = some (.iload_n 2, 1) := by decide +kernel
theorem q_126_15 : js_I 126 15 = some (.aload_n 3, 1) := by decide +kernel
theorem q_126_16 : js_I 126 16 = some (.getfield 54, 3) := by decide +kernel
theorem q_126_19 : js_I 126 19 = some (.if_icmp .lt 7, 3) := by decide +kernel
theorem q_126_26 : js_I 126 26 = some (.aload_n 0, 1) := by decide +kernel
theorem q_126_27 : js_I 126 27 = some (.getfield 24, 3) := by decide +kernel
theorem q_126_30 : js_I 126 30 = some (.aload_n 3, 1) := by decide +kernel
theorem q_126_31 : js_I 126 31 = some (.getfield 57, 3) := by decide +kernel
theorem q_126_34 : js_I 126 34 = some (.bipush 20, 2) := by decide +kernel
theorem q_126_36 : js_I 126 36 = some (.imul, 1) := by decide +kernel
theorem q_126_37 : js_I 126 37 = some (.iload_n 2, 1) := by decide +kernel
theorem q_126_38 : js_I 126 38 = some (.iadd, 1) := by decide +kernel
theorem q_126_39 : js_I 126 39 = some (.baload, 1) := by decide +kernel
theorem q_127_0 : js_I 127 0 = some (.aload_n 0, 1) := by decide +kernel
theorem q_127_1 : js_I 127 1 = some (.getfield 30, 3) := by decide +kernel
theorem q_127_4 : js_I 127 4 = some (.getfield 39, 3) := by decide +kernel
theorem q_127_7 : js_I 127 7 = some (.getfield 89, 3) := by decide +kernel
theorem q_127_10 : js_I 127 10 = some (.astore_n 3, 1) := by decide +kernel
theorem q_127_11 : js_I 127 11 = some (.aload_n 3, 1) := by decide +kernel
theorem q_127_12 : js_I 127 12 = some (.iload_n 1, 1) := by decide +kernel
theorem q_127_13 : js_I 127 13 = some (.invokevirtual 93, 3) := by decide +kernel
theorem q_127_16 : js_I 127 16 = some (.ifCond .ne 5, 3) := by decide +kernel
theorem q_127_19 : js_I 127 19 = some (.iconst (-1), 1) := by decide +kernel
theorem q_127_20 : js_I 127 20 = some (.ireturn, 1) := by decide +kernel
theorem q_127_21 : js_I 127 21 = some (.iload_n 2, 1) := by decide +kernel
theorem q_127_22 : js_I 127 22 = some (.tableswitch 47 0 2 #[26, 33, 40], 26) := by decide +kernel
theorem q_127_48 : js_I 127 48 = some (.aload_n 3, 1) := by decide +kernel
theorem q_127_49 : js_I 127 49 = some (.getfield 99, 3) := by decide +kernel
theorem q_127_52 : js_I 127 52 = some (.iload_n 1, 1) := by decide +kernel
theorem q_127_53 : js_I 127 53 = some (.iaload, 1) := by decide +kernel
theorem q_127_54 : js_I 127 54 = some (.ireturn, 1) := by decide +kernel
theorem q_127_55 : js_I 127 55 = some (.aload_n 3, 1) := by decide +kernel
theorem q_127_56 : js_I 127 56 = some (.getfield 103, 3) := by decide +kernel
theorem q_127_59 : js_I 127 59 = some (.iload_n 1, 1) := by decide +kernel
theorem q_127_60 : js_I 127 60 = some (.iaload, 1) := by decide +kernel
theorem q_127_61 : js_I 127 61 = some (.ireturn, 1) := by decide +kernel
theorem q_127_62 : js_I 127 62 = some (.aload_n 3, 1) := by decide +kernel
theorem q_127_63 : js_I 127 63 = some (.getfield 106, 3) := by decide +kernel
theorem q_127_66 : js_I 127 66 = some (.iload_n 1, 1) := by decide +kernel
theorem q_127_67 : js_I 127 67 = some (.iaload, 1) := by decide +kernel
theorem q_127_68 : js_I 127 68 = some (.ireturn, 1) := by decide +kernel
theorem q_127_69 : js_I 127 69 = some (.iconst (-1), 1) := by decide +kernel
theorem q_127_70 : js_I 127 70 = some (.ireturn, 1) := by decide +kernel
theorem q_128_0 : js_I 128 0 = some (.aload_n 0, 1) := by decide +kernel
theorem q_128_1 : js_I 128 1 = some (.getfield 30, 3) := by decide +kernel
theorem q_128_4 : js_I 128 4 = some (.getfield 39, 3) := by decide +kernel
theorem q_128_7 : js_I 128 7 = some (.getfield 89, 3) := by decide +kernel
theorem q_128_10 : js_I 128 10 = some (.astore 4, 2) := by decide +kernel
theorem q_128_12 : js_I 128 12 = some (.iload_n 1, 1) := by decide +kernel
theorem q_128_13 : js_I 128 13 = some (.ifCond .lt 17, 3) := by decide +kernel
theorem q_128_30 : js_I 128 30 = some (.iconst (-1), 1) := by decide +kernel
theorem q_128_31 : js_I 128 31 = some (.ireturn, 1) := by decide +kernel
theorem q_128_16 : js_I 128 16 = some (.iload_n 1, 1) := by decide +kernel
theorem q_128_17 : js_I 128 17 = some (.iconst 1, 1) := by decide +kernel
theorem q_128_18 : js_I 128 18 = some (.if_icmp .gt 12, 3) := by decide +kernel
theorem q_128_21 : js_I 128 21 = some (.aload 4, 2) := by decide +kernel
theorem q_128_23 : js_I 128 23 = some (.iload_n 2, 1) := by decide +kernel
theorem q_128_24 : js_I 128 24 = some (.invokevirtual 93, 3) := by decide +kernel
theorem q_128_27 : js_I 128 27 = some (.ifCond .ne 5, 3) := by decide +kernel
theorem q_128_32 : js_I 128 32 = some (.aload_n 0, 1) := by decide +kernel
theorem q_128_33 : js_I 128 33 = some (.aload 4, 2) := by decide +kernel
theorem q_128_35 : js_I 128 35 = some (.getfield 99, 3) := by decide +kernel
theorem q_128_38 : js_I 128 38 = some (.iload_n 2, 1) := by decide +kernel
theorem q_128_39 : js_I 128 39 = some (.iaload, 1) := by decide +kernel
theorem q_128_40 : js_I 128 40 = some (.aload 4, 2) := by decide +kernel
theorem q_128_42 : js_I 128 42 = some (.getfield 103, 3) := by decide +kernel
theorem q_128_45 : js_I 128 45 = some (.iload_n 2, 1) := by decide +kernel
theorem q_128_46 : js_I 128 46 = some (.iaload, 1) := by decide +kernel
theorem q_128_47 : js_I 128 47 = some (.aload 4, 2) := by decide +kernel
theorem q_128_49 : js_I 128 49 = some (.getfield 106, 3) := by decide +kernel
theorem q_128_52 : js_I 128 52 = some (.iload_n 2, 1) := by decide +kernel
theorem q_128_53 : js_I 128 53 = some (.iaload, 1) := by decide +kernel
theorem q_128_54 : js_I 128 54 = some (.iload_n 1, 1) := by decide +kernel
theorem q_128_55 : js_I 128 55 = some (.ifCond .ne 7, 3) := by decide +kernel
theorem q_128_58 : js_I 128 58 = some (.lconst 1, 1) := by decide +kernel
theorem q_128_59 : js_I 128 59 = some (.goto 6, 3) := by decide +kernel
theorem q_128_62 : js_I 128 62 = some (.ldc2_w 122, 3) := by decide +kernel
theorem q_128_65 : js_I 128 65 = some (.invokevirtual 124, 3) := by decide +kernel
theorem q_128_68 : js_I 128 68 = some (.iload_n 3, 1) := by decide +kernel
theorem q_128_69 : js_I 128 69 = some (.ifCond .lt 11, 3) := by decide +kernel
theorem q_128_80 : js_I 128 80 = some (.iconst (-1), 1) := by decide +kernel
theorem q_128_81 : js_I 128 81 = some (.goto 9, 3) := by decide +kernel
theorem q_128_90 : js_I 128 90 = some (.ireturn, 1) := by decide +kernel
theorem q_128_72 : js_I 128 72 = some (.iload_n 3, 1) := by decide +kernel
theorem q_128_73 : js_I 128 73 = some (.aload_n 0, 1) := by decide +kernel
theorem q_128_74 : js_I 128 74 = some (.getfield 128, 3) := by decide +kernel
theorem q_128_77 : js_I 128 77 = some (.if_icmp .lt 7, 3) := by decide +kernel
theorem q_128_84 : js_I 128 84 = some (.aload_n 0, 1) := by decide +kernel
theorem q_128_85 : js_I 128 85 = some (.getfield 50, 3) := by decide +kernel
theorem q_128_88 : js_I 128 88 = some (.iload_n 3, 1) := by decide +kernel
theorem q_128_89 : js_I 128 89 = some (.baload, 1) := by decide +kernel
theorem q_129_0 : js_I 129 0 = some (.aload_n 0, 1) := by decide +kernel
theorem q_129_1 : js_I 129 1 = some (.iconst 0, 1) := by decide +kernel
theorem q_129_2 : js_I 129 2 = some (.putfield 128, 3) := by decide +kernel
theorem q_129_5 : js_I 129 5 = some (.iload_n 1, 1) := by decide +kernel
theorem q_129_6 : js_I 129 6 = some (.bipush 6, 2) := by decide +kernel
theorem q_129_8 : js_I 129 8 = some (.imul, 1) := by decide +kernel
theorem q_129_9 : js_I 129 9 = some (.istore 6, 2) := by decide +kernel
theorem q_129_11 : js_I 129 11 = some (.iload 6, 2) := by decide +kernel
theorem q_129_13 : js_I 129 13 = some (.istore 7, 2) := by decide +kernel
theorem q_129_15 : js_I 129 15 = some (.iload 7, 2) := by decide +kernel
theorem q_129_17 : js_I 129 17 = some (.iload 6, 2) := by decide +kernel
theorem q_129_19 : js_I 129 19 = some (.bipush 6, 2) := by decide +kernel
theorem q_129_21 : js_I 129 21 = some (.iadd, 1) := by decide +kernel
theorem q_129_22 : js_I 129 22 = some (.if_icmp .ge 42, 3) := by decide +kernel
theorem q_129_25 : js_I 129 25 = some (.iload 7, 2) := by decide +kernel
theorem q_129_27 : js_I 129 27 = some (.ldc 233, 2) := by decide +kernel
theorem q_129_29 : js_I 129 29 = some (.invokevirtual 235, 3) := by decide +kernel
theorem q_129_55 : js_I 129 55 = some (.invokevirtual 244, 3) := by decide +kernel
theorem q_129_58 : js_I 129 58 = some (.iinc 7 1, 3) := by decide +kernel
theorem q_129_61 : js_I 129 61 = some (.goto (-46), 3) := by decide +kernel
theorem q_129_64 : js_I 129 64 = some (.iload_n 1, 1) := by decide +kernel
theorem q_129_65 : js_I 129 65 = some (.ifCond .eq 15, 3) := by decide +kernel
theorem q_129_68 : js_I 129 68 = some (.iload_n 1, 1) := by decide +kernel
theorem q_129_69 : js_I 129 69 = some (.bipush 22, 2) := by decide +kernel
theorem q_129_71 : js_I 129 71 = some (.if_icmp .eq 9, 3) := by decide +kernel
theorem q_129_74 : js_I 129 74 = some (.iload_n 1, 1) := by decide +kernel
theorem q_129_75 : js_I 129 75 = some (.bipush 23, 2) := by decide +kernel
theorem q_129_77 : js_I 129 77 = some (.if_icmp .ne 15, 3) := by decide +kernel
theorem q_129_92 : js_I 129 92 = some (.iload_n 1, 1) := by decide +kernel
theorem q_129_93 : js_I 129 93 = some (.iconst 1, 1) := by decide +kernel
theorem q_129_94 : js_I 129 94 = some (.if_icmp .eq 30, 3) := by decide +kernel
theorem q_129_97 : js_I 129 97 = some (.iload_n 1, 1) := by decide +kernel
theorem q_129_98 : js_I 129 98 = some (.iconst 2, 1) := by decide +kernel
theorem q_129_99 : js_I 129 99 = some (.if_icmp .eq 25, 3) := by decide +kernel
theorem q_129_102 : js_I 129 102 = some (.iload_n 1, 1) := by decide +kernel
theorem q_129_103 : js_I 129 103 = some (.iconst 4, 1) := by decide +kernel
theorem q_129_104 : js_I 129 104 = some (.if_icmp .eq 20, 3) := by decide +kernel
theorem q_129_107 : js_I 129 107 = some (.iload_n 1, 1) := by decide +kernel
theorem q_129_108 : js_I 129 108 = some (.iconst 5, 1) := by decide +kernel
theorem q_129_109 : js_I 129 109 = some (.if_icmp .eq 15, 3) := by decide +kernel
theorem q_129_112 : js_I 129 112 = some (.iload_n 1, 1) := by decide +kernel
theorem q_129_113 : js_I 129 113 = some (.bipush 24, 2) := by decide +kernel
theorem q_129_115 : js_I 129 115 = some (.if_icmp .lt 15, 3) := by decide +kernel
theorem q_129_118 : js_I 129 118 = some (.iload_n 1, 1) := by decide +kernel
theorem q_129_119 : js_I 129 119 = some (.bipush 27, 2) := by decide +kernel
theorem q_129_121 : js_I 129 121 = some (.if_icmp .gt 9, 3) := by decide +kernel
theorem q_129_80 : js_I 129 80 = some (.aload_n 0, 1) := by decide +kernel
theorem q_129_81 : js_I 129 81 = some (.iload_n 2, 1) := by decide +kernel
theorem q_129_82 : js_I 129 82 = some (.i2l, 1) := by decide +kernel
theorem q_129_83 : js_I 129 83 = some (.lload 4, 2) := by decide +kernel
theorem q_129_85 : js_I 129 85 = some (.lmul, 1) := by decide +kernel
theorem q_129_86 : js_I 129 86 = some (.invokevirtual 248, 3) := by decide +kernel
theorem q_129_89 : js_I 129 89 = some (.goto 41, 3) := by decide +kernel
theorem q_129_124 : js_I 129 124 = some (.aload_n 0, 1) := by decide +kernel
theorem q_129_125 : js_I 129 125 = some (.iload_n 2, 1) := by decide +kernel
theorem q_129_126 : js_I 129 126 = some (.i2l, 1) := by decide +kernel
theorem q_129_127 : js_I 129 127 = some (.invokevirtual 248, 3) := by decide +kernel
theorem q_129_130 : js_I 129 130 = some (.iload_n 1, 1) := by decide +kernel
theorem q_129_131 : js_I 129 131 = some (.iconst 4, 1) := by decide +kernel
theorem q_129_132 : js_I 129 132 = some (.if_icmp .eq 8, 3) := by decide +kernel
theorem q_129_135 : js_I 129 135 = some (.iload_n 1, 1) := by decide +kernel
theorem q_129_136 : js_I 129 136 = some (.iconst 5, 1) := by decide +kernel
theorem q_129_137 : js_I 129 137 = some (.if_icmp .ne 9, 3) := by decide +kernel
theorem q_129_140 : js_I 129 140 = some (.aload_n 0, 1) := by decide +kernel
theorem q_129_141 : js_I 129 141 = some (.iload_n 3, 1) := by decide +kernel
theorem q_129_142 : js_I 129 142 = some (.i2l, 1) := by decide +kernel
theorem q_129_143 : js_I 129 143 = some (.invokevirtual 248, 3) := by decide +kernel
theorem q_129_146 : js_I 129 146 = some (.return_, 1) := by decide +kernel
theorem q_130_0 : js_I 130 0 = some (.aload_n 0, 1) := by decide +kernel
theorem q_130_1 : js_I 130 1 = some (.getfield 128, 3) := by decide +kernel
theorem q_130_4 : js_I 130 4 = some (.aload_n 0, 1) := by decide +kernel
theorem q_130_5 : js_I 130 5 = some (.getfield 50, 3) := by decide +kernel
theorem q_130_8 : js_I 130 8 = some (.arraylength, 1) := by decide +kernel
theorem q_130_9 : js_I 130 9 = some (.if_icmp .ge 24, 3) := by decide +kernel
theorem q_130_12 : js_I 130 12 = some (.aload_n 0, 1) := by decide +kernel
theorem q_130_13 : js_I 130 13 = some (.getfield 50, 3) := by decide +kernel
theorem q_130_16 : js_I 130 16 = some (.aload_n 0, 1) := by decide +kernel
theorem q_130_17 : js_I 130 17 = some (.getfield 128, 3) := by decide +kernel
theorem q_130_20 : js_I 130 20 = some (.iload_n 1, 1) := by decide +kernel
theorem q_130_21 : js_I 130 21 = some (.i2b, 1) := by decide +kernel
theorem q_130_22 : js_I 130 22 = some (.bastore, 1) := by decide +kernel
theorem q_130_23 : js_I 130 23 = some (.aload_n 0, 1) := by decide +kernel
theorem q_130_24 : js_I 130 24 = some (.dup, 1) := by decide +kernel
theorem q_130_25 : js_I 130 25 = some (.getfield 128, 3) := by decide +kernel
theorem q_130_28 : js_I 130 28 = some (.iconst 1, 1) := by decide +kernel
theorem q_130_29 : js_I 130 29 = some (.iadd, 1) := by decide +kernel
theorem q_130_30 : js_I 130 30 = some (.putfield 128, 3) := by decide +kernel
theorem q_130_33 : js_I 130 33 = some (.return_, 1) := by decide +kernel
theorem q_131_0 : js_I 131 0 = some (.aload_n 0, 1) := by decide +kernel
theorem q_131_1 : js_I 131 1 = some (.bipush 32, 2) := by decide +kernel
theorem q_131_3 : js_I 131 3 = some (.invokevirtual 244, 3) := by decide +kernel
theorem q_131_6 : js_I 131 6 = some (.lload_n 1, 1) := by decide +kernel
theorem q_131_7 : js_I 131 7 = some (.lconst 0, 1) := by decide +kernel
theorem q_131_8 : js_I 131 8 = some (.lcmp, 1) := by decide +kernel
theorem q_131_9 : js_I 131 9 = some (.ifCond .ge 9, 3) := by decide +kernel
theorem q_131_12 : js_I 131 12 = some (.aload_n 0, 1) := by decide +kernel
theorem q_131_13 : js_I 131 13 = some (.bipush 45, 2) := by decide +kernel
theorem q_131_15 : js_I 131 15 = some (.invokevirtual 244, 3) := by decide +kernel
theorem q_131_18 : js_I 131 18 = some (.lload_n 1, 1) := by decide +kernel
theorem q_131_19 : js_I 131 19 = some (.invokestatic 252, 3) := by decide +kernel
theorem q_131_22 : js_I 131 22 = some (.lstore_n 3, 1) := by decide +kernel
theorem q_131_23 : js_I 131 23 = some (.lconst 1, 1) := by decide +kernel
theorem q_131_24 : js_I 131 24 = some (.lstore 5, 2) := by decide +kernel
theorem q_131_26 : js_I 131 26 = some (.iconst 0, 1) := by decide +kernel
theorem q_131_27 : js_I 131 27 = some (.istore 7, 2) := by decide +kernel
theorem q_131_29 : js_I 131 29 = some (.iload 7, 2) := by decide +kernel
theorem q_131_31 : js_I 131 31 = some (.bipush 16, 2) := by decide +kernel
theorem q_131_33 : js_I 131 33 = some (.if_icmp .ge 28, 3) := by decide +kernel
theorem q_131_36 : js_I 131 36 = some (.lload_n 3, 1) := by decide +kernel
theorem q_131_37 : js_I 131 37 = some (.lload 5, 2) := by decide +kernel
theorem q_131_39 : js_I 131 39 = some (.ldiv, 1) := by decide +kernel
theorem q_131_40 : js_I 131 40 = some (.ldc2_w 256, 3) := by decide +kernel
theorem q_131_43 : js_I 131 43 = some (.lcmp, 1) := by decide +kernel
theorem q_131_44 : js_I 131 44 = some (.ifCond .lt 17, 3) := by decide +kernel
theorem q_131_47 : js_I 131 47 = some (.lload 5, 2) := by decide +kernel
theorem q_131_49 : js_I 131 49 = some (.ldc2_w 256, 3) := by decide +kernel
theorem q_131_52 : js_I 131 52 = some (.lmul, 1) := by decide +kernel
theorem q_131_53 : js_I 131 53 = some (.lstore 5, 2) := by decide +kernel
theorem q_131_55 : js_I 131 55 = some (.iinc 7 1, 3) := by decide +kernel
theorem q_131_58 : js_I 131 58 = some (.goto (-29), 3) := by decide +kernel
theorem q_131_61 : js_I 131 61 = some (.iconst 0, 1) := by decide +kernel
theorem q_131_62 : js_I 131 62 = some (.istore 7, 2) := by decide +kernel
theorem q_131_64 : js_I 131 64 = some (.iload 7, 2) := by decide +kernel
theorem q_131_66 : js_I 131 66 = some (.bipush 17, 2) := by decide +kernel
theorem q_131_68 : js_I 131 68 = some (.if_icmp .ge 42, 3) := by decide +kernel
theorem q_131_71 : js_I 131 71 = some (.lload 5, 2) := by decide +kernel
theorem q_131_73 : js_I 131 73 = some (.lconst 0, 1) := by decide +kernel
theorem q_131_74 : js_I 131 74 = some (.lcmp, 1) := by decide +kernel
theorem q_131_75 : js_I 131 75 = some (.ifCond .le 35, 3) := by decide +kernel
theorem q_131_78 : js_I 131 78 = some (.aload_n 0, 1) := by decide +kernel
theorem q_131_79 : js_I 131 79 = some (.ldc2_w 258, 3) := by decide +kernel
theorem q_131_82 : js_I 131 82 = some (.lload_n 3, 1) := by decide +kernel
theorem q_131_83 : js_I 131 83 = some (.lload 5, 2) := by decide +kernel
theorem q_131_85 : js_I 131 85 = some (.ldiv, 1) := by decide +kernel
theorem q_131_86 : js_I 131 86 = some (.ldc2_w 256, 3) := by decide +kernel
theorem q_131_89 : js_I 131 89 = some (.lrem, 1) := by decide +kernel
theorem q_131_90 : js_I 131 90 = some (.ladd, 1) := by decide +kernel
theorem q_131_91 : js_I 131 91 = some (.l2i, 1) := by decide +kernel
theorem q_131_92 : js_I 131 92 = some (.i2c, 1) := by decide +kernel
theorem q_131_93 : js_I 131 93 = some (.invokevirtual 244, 3) := by decide +kernel
theorem q_131_110 : js_I 131 110 = some (.return_, 1) := by decide +kernel
theorem q_131_96 : js_I 131 96 = some (.lload 5, 2) := by decide +kernel
theorem q_131_98 : js_I 131 98 = some (.ldc2_w 256, 3) := by decide +kernel
theorem q_131_101 : js_I 131 101 = some (.ldiv, 1) := by decide +kernel
theorem q_131_102 : js_I 131 102 = some (.lstore 5, 2) := by decide +kernel
theorem q_131_104 : js_I 131 104 = some (.iinc 7 1, 3) := by decide +kernel
theorem q_131_107 : js_I 131 107 = some (.goto (-43), 3) := by decide +kernel
theorem q_132_0 : js_I 132 0 = some (.aload_n 0, 1) := by decide +kernel
theorem q_132_1 : js_I 132 1 = some (.getfield 46, 3) := by decide +kernel
theorem q_132_4 : js_I 132 4 = some (.iload_n 1, 1) := by decide +kernel
theorem q_132_5 : js_I 132 5 = some (.iload_n 2, 1) := by decide +kernel
theorem q_132_6 : js_I 132 6 = some (.invokevirtual 131, 3) := by decide +kernel
theorem q_132_9 : js_I 132 9 = some (.ireturn, 1) := by decide +kernel
theorem q_133_0 : js_I 133 0 = some (.aload_n 0, 1) := by decide +kernel
theorem q_133_1 : js_I 133 1 = some (.getfield 39, 3) := by decide +kernel
theorem q_133_4 : js_I 133 4 = some (.iconst 1, 1) := by decide +kernel
theorem q_133_5 : js_I 133 5 = some (.iload_n 1, 1) := by decide +kernel
theorem q_133_6 : js_I 133 6 = some (.invokevirtual 102, 3) := by decide +kernel
theorem q_133_9 : js_I 133 9 = some (.astore_n 3, 1) := by decide +kernel
theorem q_133_10 : js_I 133 10 = some (.aload_n 0, 1) := by decide +kernel
theorem q_133_11 : js_I 133 11 = some (.getfield 39, 3) := by decide +kernel
theorem q_133_14 : js_I 133 14 = some (.iconst 1, 1) := by decide +kernel
theorem q_133_15 : js_I 133 15 = some (.iload_n 1, 1) := by decide +kernel
theorem q_133_16 : js_I 133 16 = some (.invokevirtual 106, 3) := by decide +kernel
theorem q_133_19 : js_I 133 19 = some (.istore 4, 2) := by decide +kernel
theorem q_133_21 : js_I 133 21 = some (.aload_n 3, 1) := by decide +kernel
theorem q_133_22 : js_I 133 22 = some (.ifnull 44, 3) := by decide +kernel
theorem q_133_66 : js_I 133 66 = some (.iconst 0, 1) := by decide +kernel
theorem q_133_67 : js_I 133 67 = some (.ireturn, 1) := by decide +kernel
theorem q_133_25 : js_I 133 25 = some (.iload 4, 2) := by decide +kernel
theorem q_133_27 : js_I 133 27 = some (.ifCond .lt 39, 3) := by decide +kernel
theorem q_133_30 : js_I 133 30 = some (.iload 4, 2) := by decide +kernel
theorem q_133_32 : js_I 133 32 = some (.aload_n 0, 1) := by decide +kernel
theorem q_133_33 : js_I 133 33 = some (.getfield 30, 3) := by decide +kernel
theorem q_133_36 : js_I 133 36 = some (.arraylength, 1) := by decide +kernel
theorem q_133_37 : js_I 133 37 = some (.if_icmp .ge 29, 3) := by decide +kernel
theorem q_133_40 : js_I 133 40 = some (.iload_n 2, 1) := by decide +kernel
theorem q_133_41 : js_I 133 41 = some (.aload_n 3, 1) := by decide +kernel
theorem q_133_42 : js_I 133 42 = some (.getfield 62, 3) := by decide +kernel
theorem q_133_45 : js_I 133 45 = some (.if_icmp .lt 21, 3) := by decide +kernel
theorem q_133_48 : js_I 133 48 = some (.iload_n 2, 1) := by decide +kernel
theorem q_133_49 : js_I 133 49 = some (.aload_n 3, 1) := by decide +kernel
theorem q_133_50 : js_I 133 50 = some (.getfield 65, 3) := by decide +kernel
theorem q_133_53 : js_I 133 53 = some (.if_icmp .gt 13, 3) := by decide +kernel
theorem q_133_56 : js_I 133 56 = some (.aload_n 0, 1) := by decide +kernel
theorem q_133_57 : js_I 133 57 = some (.getfield 20, 3) := by decide +kernel
theorem q_133_60 : js_I 133 60 = some (.getfield 110, 3) := by decide +kernel
theorem q_133_63 : js_I 133 63 = some (.ifCond .eq 5, 3) := by decide +kernel
theorem q_133_68 : js_I 133 68 = some (.aload_n 0, 1) := by decide +kernel
theorem q_133_69 : js_I 133 69 = some (.getfield 30, 3) := by decide +kernel
theorem q_133_72 : js_I 133 72 = some (.iload 4, 2) := by decide +kernel
theorem q_133_74 : js_I 133 74 = some (.iload_n 2, 1) := by decide +kernel
theorem q_133_75 : js_I 133 75 = some (.iastore, 1) := by decide +kernel
theorem q_133_76 : js_I 133 76 = some (.iconst 1, 1) := by decide +kernel
theorem q_133_77 : js_I 133 77 = some (.ireturn, 1) := by decide +kernel
theorem q_134_0 : js_I 134 0 = some (.aload_n 0, 1) := by decide +kernel
theorem q_134_1 : js_I 134 1 = some (.iload_n 1, 1) := by decide +kernel
theorem q_134_2 : js_I 134 2 = some (.iload_n 2, 1) := by decide +kernel
theorem q_134_3 : js_I 134 3 = some (.invokevirtual 127, 3) := by decide +kernel
theorem q_134_6 : js_I 134 6 = some (.istore_n 3, 1) := by decide +kernel
theorem q_134_7 : js_I 134 7 = some (.iconst 0, 1) := by decide +kernel
theorem q_134_8 : js_I 134 8 = some (.istore 4, 2) := by decide +kernel
theorem q_134_10 : js_I 134 10 = some (.iload 4, 2) := by decide +kernel
theorem q_134_12 : js_I 134 12 = some (.aload_n 0, 1) := by decide +kernel
theorem q_134_13 : js_I 134 13 = some (.getfield 31, 3) := by decide +kernel
theorem q_134_16 : js_I 134 16 = some (.if_icmp .ge 62, 3) := by decide +kernel
theorem q_134_19 : js_I 134 19 = some (.iload_n 3, 1) := by decide +kernel
theorem q_134_20 : js_I 134 20 = some (.ifCond .lt 58, 3) := by decide +kernel
theorem q_134_78 : js_I 134 78 = some (.aconst_null, 1) := by decide +kernel
theorem q_134_79 : js_I 134 79 = some (.areturn, 1) := by decide +kernel
theorem q_134_23 : js_I 134 23 = some (.aload_n 0, 1) := by decide +kernel
theorem q_134_24 : js_I 134 24 = some (.iload 4, 2) := by decide +kernel
theorem q_134_26 : js_I 134 26 = some (.invokevirtual 50, 3) := by decide +kernel
theorem q_134_29 : js_I 134 29 = some (.astore 5, 2) := by decide +kernel
theorem q_134_31 : js_I 134 31 = some (.aload 5, 2) := by decide +kernel
theorem q_134_33 : js_I 134 33 = some (.ifnull 39, 3) := by decide +kernel
theorem q_134_36 : js_I 134 36 = some (.aload 5, 2) := by decide +kernel
theorem q_134_38 : js_I 134 38 = some (.getfield 121, 3) := by decide +kernel
theorem q_134_41 : js_I 134 41 = some (.iload_n 1, 1) := by decide +kernel
theorem q_134_42 : js_I 134 42 = some (.if_icmp .ne 30, 3) := by decide +kernel
theorem q_134_45 : js_I 134 45 = some (.iload_n 3, 1) := by decide +kernel
theorem q_134_46 : js_I 134 46 = some (.aload 5, 2) := by decide +kernel
theorem q_134_48 : js_I 134 48 = some (.getfield 114, 3) := by decide +kernel
theorem q_134_51 : js_I 134 51 = some (.if_icmp .lt 21, 3) := by decide +kernel
theorem q_134_54 : js_I 134 54 = some (.iload_n 3, 1) := by decide +kernel
theorem q_134_55 : js_I 134 55 = some (.aload 5, 2) := by decide +kernel
theorem q_134_57 : js_I 134 57 = some (.getfield 114, 3) := by decide +kernel
theorem q_134_60 : js_I 134 60 = some (.aload 5, 2) := by decide +kernel
theorem q_134_62 : js_I 134 62 = some (.getfield 124, 3) := by decide +kernel
theorem q_134_65 : js_I 134 65 = some (.iadd, 1) := by decide +kernel
theorem q_134_66 : js_I 134 66 = some (.if_icmp .ge 6, 3) := by decide +kernel
theorem q_134_69 : js_I 134 69 = some (.aload 5, 2) := by decide +kernel
theorem q_134_71 : js_I 134 71 = some (.areturn, 1) := by decide +kernel
theorem q_134_72 : js_I 134 72 = some (.iinc 4 1, 3) := by decide +kernel
theorem q_134_75 : js_I 134 75 = some (.goto (-65), 3) := by decide +kernel
theorem q_135_0 : js_I 135 0 = some (.iload_n 2, 1) := by decide +kernel
theorem q_135_1 : js_I 135 1 = some (.istore_n 3, 1) := by decide +kernel
theorem q_135_2 : js_I 135 2 = some (.iconst 0, 1) := by decide +kernel
theorem q_135_3 : js_I 135 3 = some (.istore 4, 2) := by decide +kernel
theorem q_135_5 : js_I 135 5 = some (.iload 4, 2) := by decide +kernel
theorem q_135_7 : js_I 135 7 = some (.aload_n 0, 1) := by decide +kernel
theorem q_135_8 : js_I 135 8 = some (.getfield 31, 3) := by decide +kernel
theorem q_135_11 : js_I 135 11 = some (.if_icmp .ge 60, 3) := by decide +kernel
theorem q_135_14 : js_I 135 14 = some (.iload_n 3, 1) := by decide +kernel
theorem q_135_15 : js_I 135 15 = some (.ifCond .lt 56, 3) := by decide +kernel
theorem q_135_71 : js_I 135 71 = some (.iconst (-1), 1) := by decide +kernel
theorem q_135_72 : js_I 135 72 = some (.ireturn, 1) := by decide +kernel
theorem q_135_18 : js_I 135 18 = some (.aload_n 0, 1) := by decide +kernel
theorem q_135_19 : js_I 135 19 = some (.iload 4, 2) := by decide +kernel
theorem q_135_21 : js_I 135 21 = some (.invokevirtual 50, 3) := by decide +kernel
theorem q_135_24 : js_I 135 24 = some (.astore 5, 2) := by decide +kernel
theorem q_135_26 : js_I 135 26 = some (.aload 5, 2) := by decide +kernel
theorem q_135_28 : js_I 135 28 = some (.ifnull 37, 3) := by decide +kernel
theorem q_135_31 : js_I 135 31 = some (.aload 5, 2) := by decide +kernel
theorem q_135_33 : js_I 135 33 = some (.getfield 121, 3) := by decide +kernel
theorem q_135_36 : js_I 135 36 = some (.iload_n 1, 1) := by decide +kernel
theorem q_135_37 : js_I 135 37 = some (.if_icmp .ne 28, 3) := by decide +kernel
theorem q_135_40 : js_I 135 40 = some (.iload_n 3, 1) := by decide +kernel
theorem q_135_41 : js_I 135 41 = some (.aload 5, 2) := by decide +kernel
theorem q_135_43 : js_I 135 43 = some (.getfield 124, 3) := by decide +kernel
theorem q_135_46 : js_I 135 46 = some (.if_icmp .ge 11, 3) := by decide +kernel
theorem q_135_49 : js_I 135 49 = some (.aload 5, 2) := by decide +kernel
theorem q_135_51 : js_I 135 51 = some (.getfield 114, 3) := by decide +kernel
theorem q_135_54 : js_I 135 54 = some (.iload_n 3, 1) := by decide +kernel
theorem q_135_55 : js_I 135 55 = some (.iadd, 1) := by decide +kernel
theorem q_135_56 : js_I 135 56 = some (.ireturn, 1) := by decide +kernel
theorem q_135_57 : js_I 135 57 = some (.iload_n 3, 1) := by decide +kernel
theorem q_135_58 : js_I 135 58 = some (.aload 5, 2) := by decide +kernel
theorem q_135_60 : js_I 135 60 = some (.getfield 124, 3) := by decide +kernel
theorem q_135_63 : js_I 135 63 = some (.isub, 1) := by decide +kernel
theorem q_135_64 : js_I 135 64 = some (.istore_n 3, 1) := by decide +kernel
theorem q_135_65 : js_I 135 65 = some (.iinc 4 1, 3) := by decide +kernel
theorem q_135_68 : js_I 135 68 = some (.goto (-63), 3) := by decide +kernel
theorem q_136_0 : js_I 136 0 = some (.iload 4, 2) := by decide +kernel
theorem q_136_2 : js_I 136 2 = some (.ifCond .lt 35, 3) := by decide +kernel
theorem q_136_37 : js_I 136 37 = some (.iconst (-1), 1) := by decide +kernel
theorem q_136_38 : js_I 136 38 = some (.ireturn, 1) := by decide +kernel
theorem q_136_5 : js_I 136 5 = some (.iload 4, 2) := by decide +kernel
theorem q_136_7 : js_I 136 7 = some (.iconst 4, 1) := by decide +kernel
theorem q_136_8 : js_I 136 8 = some (.if_icmp .gt 29, 3) := by decide +kernel
theorem q_136_11 : js_I 136 11 = some (.iload_n 3, 1) := by decide +kernel
theorem q_136_12 : js_I 136 12 = some (.ifCond .lt 25, 3) := by decide +kernel
theorem q_136_15 : js_I 136 15 = some (.aload_n 0, 1) := by decide +kernel
theorem q_136_16 : js_I 136 16 = some (.getfield 46, 3) := by decide +kernel
theorem q_136_19 : js_I 136 19 = some (.iload_n 1, 1) := by decide +kernel
theorem q_136_20 : js_I 136 20 = some (.iload_n 2, 1) := by decide +kernel
theorem q_136_21 : js_I 136 21 = some (.invokevirtual 172, 3) := by decide +kernel
theorem q_136_24 : js_I 136 24 = some (.ifCond .eq 13, 3) := by decide +kernel
theorem q_136_27 : js_I 136 27 = some (.aload_n 0, 1) := by decide +kernel
theorem q_136_28 : js_I 136 28 = some (.getfield 46, 3) := by decide +kernel
theorem q_136_31 : js_I 136 31 = some (.invokevirtual 175, 3) := by decide +kernel
theorem q_136_34 : js_I 136 34 = some (.ifCond .ne 5, 3) := by decide +kernel
theorem q_136_39 : js_I 136 39 = some (.aload_n 0, 1) := by decide +kernel
theorem q_136_40 : js_I 136 40 = some (.getfield 46, 3) := by decide +kernel
theorem q_136_43 : js_I 136 43 = some (.iload_n 1, 1) := by decide +kernel
theorem q_136_44 : js_I 136 44 = some (.iload_n 2, 1) := by decide +kernel
theorem q_136_45 : js_I 136 45 = some (.iload_n 3, 1) := by decide +kernel
theorem q_136_46 : js_I 136 46 = some (.iload 4, 2) := by decide +kernel
theorem q_136_48 : js_I 136 48 = some (.invokevirtual 179, 3) := by decide +kernel
theorem q_136_51 : js_I 136 51 = some (.ireturn, 1) := by decide +kernel
theorem q_137_0 : js_I 137 0 = some (.aload_n 0, 1) := by decide +kernel
theorem q_137_1 : js_I 137 1 = some (.getfield 43, 3) := by decide +kernel
theorem q_137_4 : js_I 137 4 = some (.ifCond .eq 33, 3) := by decide +kernel
theorem q_137_37 : js_I 137 37 = some (.iconst 0, 1) := by decide +kernel
theorem q_137_38 : js_I 137 38 = some (.ireturn, 1) := by decide +kernel
theorem q_137_7 : js_I 137 7 = some (.iload_n 1, 1) := by decide +kernel
theorem q_137_8 : js_I 137 8 = some (.ifCond .lt 29, 3) := by decide +kernel
theorem q_137_11 : js_I 137 11 = some (.iload_n 1, 1) := by decide +kernel
theorem q_137_12 : js_I 137 12 = some (.iconst 1, 1) := by decide +kernel
theorem q_137_13 : js_I 137 13 = some (.if_icmp .gt 24, 3) := by decide +kernel
theorem q_137_16 : js_I 137 16 = some (.iload_n 2, 1) := by decide +kernel
theorem q_137_17 : js_I 137 17 = some (.bipush (-2), 2) := by decide +kernel
theorem q_137_19 : js_I 137 19 = some (.if_icmp .lt 18, 3) := by decide +kernel
theorem q_137_22 : js_I 137 22 = some (.iload_n 2, 1) := by decide +kernel
theorem q_137_23 : js_I 137 23 = some (.aload_n 0, 1) := by decide +kernel
theorem q_137_24 : js_I 137 24 = some (.getfield 39, 3) := by decide +kernel
theorem q_137_27 : js_I 137 27 = some (.getfield 77, 3) := by decide +kernel
theorem q_137_30 : js_I 137 30 = some (.if_icmp .ge 7, 3) := by decide +kernel
theorem q_137_33 : js_I 137 33 = some (.iconst 1, 1) := by decide +kernel
theorem q_137_34 : js_I 137 34 = some (.goto 4, 3) := by decide +kernel
theorem qf_6_39 : ip_lk (vt_FL.getD 6 []) 39 = some (6, 1) := by decide +kernel
theorem qf_6_43 : ip_lk (vt_FL.getD 6 []) 43 = some (6, 2) := by decide +kernel
theorem qf_6_47 : ip_lk (vt_FL.getD 6 []) 47 = some (7, 1) := by decide +kernel
theorem qf_6_57 : ip_lk (vt_FL.getD 6 []) 57 = some (11, 1) := by decide +kernel
theorem qf_6_62 : ip_lk (vt_FL.getD 6 []) 62 = some (11, 3) := by decide +kernel
theorem qf_6_65 : ip_lk (vt_FL.getD 6 []) 65 = some (11, 4) := by decide +kernel
theorem qf_6_68 : ip_lk (vt_FL.getD 6 []) 68 = some (11, 5) := by decide +kernel
theorem qf_6_71 : ip_lk (vt_FL.getD 6 []) 71 = some (11, 6) := by decide +kernel
theorem qf_6_30 : ip_lk (vt_FL.getD 6 []) 30 = some (6, 5) := by decide +kernel
theorem qf_6_20 : ip_lk (vt_FL.getD 6 []) 20 = some (6, 0) := by decide +kernel
theorem qf_6_77 : ip_lk (vt_FL.getD 6 []) 77 = some (7, 2) := by decide +kernel
theorem qf_6_90 : ip_lk (vt_FL.getD 6 []) 90 = some (6, 3) := by decide +kernel
theorem qf_6_93 : ip_lk (vt_FL.getD 6 []) 93 = some (6, 4) := by decide +kernel
theorem qf_6_96 : ip_lk (vt_FL.getD 6 []) 96 = some (6, 8) := by decide +kernel
theorem qf_6_99 : ip_lk (vt_FL.getD 6 []) 99 = some (6, 9) := by decide +kernel
theorem qf_6_83 : ip_lk (vt_FL.getD 6 []) 83 = some (11, 8) := by decide +kernel
theorem qf_9_25 : ip_lk (vt_FL.getD 9 []) 25 = some (9, 0) := by decide +kernel
theorem qf_9_29 : ip_lk (vt_FL.getD 9 []) 29 = some (9, 1) := by decide +kernel
theorem qf_9_32 : ip_lk (vt_FL.getD 9 []) 32 = some (9, 3) := by decide +kernel
theorem qf_9_35 : ip_lk (vt_FL.getD 9 []) 35 = some (9, 2) := by decide +kernel
theorem qf_9_14 : ip_lk (vt_FL.getD 9 []) 14 = some (9, 4) := by decide +kernel
theorem qf_9_22 : ip_lk (vt_FL.getD 9 []) 22 = some (9, 5) := by decide +kernel
theorem qf_3_23 : ip_lk (vt_FL.getD 3 []) 23 = some (3, 0) := by decide +kernel
theorem qf_3_26 : ip_lk (vt_FL.getD 3 []) 26 = some (3, 1) := by decide +kernel
theorem qf_3_15 : ip_lk (vt_FL.getD 3 []) 15 = some (3, 5) := by decide +kernel
theorem qf_3_19 : ip_lk (vt_FL.getD 3 []) 19 = some (3, 4) := by decide +kernel
theorem qf_0_30 : ip_lk (vt_FL.getD 0 []) 30 = some (0, 4) := by decide +kernel
theorem qf_0_39 : ip_lk (vt_FL.getD 0 []) 39 = some (4, 0) := by decide +kernel
theorem qf_0_89 : ip_lk (vt_FL.getD 0 []) 89 = some (7, 0) := by decide +kernel
theorem qf_0_99 : ip_lk (vt_FL.getD 0 []) 99 = some (1, 0) := by decide +kernel
theorem qf_0_103 : ip_lk (vt_FL.getD 0 []) 103 = some (1, 1) := by decide +kernel
theorem qf_0_106 : ip_lk (vt_FL.getD 0 []) 106 = some (1, 2) := by decide +kernel
theorem qf_0_128 : ip_lk (vt_FL.getD 0 []) 128 = some (0, 3) := by decide +kernel
theorem qf_0_50 : ip_lk (vt_FL.getD 0 []) 50 = some (0, 2) := by decide +kernel
theorem qf_0_46 : ip_lk (vt_FL.getD 0 []) 46 = some (0, 1) := by decide +kernel
theorem qf_6_110 : ip_lk (vt_FL.getD 6 []) 110 = some (9, 0) := by decide +kernel
theorem qf_7_121 : ip_lk (vt_FL.getD 7 []) 121 = some (11, 1) := by decide +kernel
theorem qf_7_124 : ip_lk (vt_FL.getD 7 []) 124 = some (11, 6) := by decide +kernel
theorem qm_6_53 : ip_lk (vt_ML.getD 6 []) 53 = some (67, 1, 1, 7) := by decide +kernel
theorem qm_6_74 : ip_lk (vt_ML.getD 6 []) 74 = some (117, 0, 1, 6) := by decide +kernel
theorem qm_6_80 : ip_lk (vt_ML.getD 6 []) 80 = some (118, 1, 1, 9) := by decide +kernel
theorem qm_6_86 : ip_lk (vt_ML.getD 6 []) 86 = some (120, 2, 1, 9) := by decide +kernel
theorem qm_9_38 : ip_lk (vt_ML.getD 9 []) 38 = some (119, 1, 1, 3) := by decide +kernel
theorem qm_9_46 : ip_lk (vt_ML.getD 9 []) 46 = some (121, 2, 1, 3) := by decide +kernel
theorem qm_3_51 : ip_lk (vt_ML.getD 3 []) 51 = some (122, 2, 1, 3) := by decide +kernel
theorem qm_0_74 : ip_lk (vt_ML.getD 0 []) 74 = some (67, 1, 1, 7) := by decide +kernel
theorem qm_0_80 : ip_lk (vt_ML.getD 0 []) 80 = some (124, 1, 1, 11) := by decide +kernel
theorem qm_0_86 : ip_lk (vt_ML.getD 0 []) 86 = some (126, 2, 1, 7) := by decide +kernel
theorem qm_0_93 : ip_lk (vt_ML.getD 0 []) 93 = some (92, 1, 1, 1) := by decide +kernel
theorem qm_0_124 : ip_lk (vt_ML.getD 0 []) 124 = some (129, 4, 1, 0) := by decide +kernel
theorem qm_0_235 : ip_lk (vt_ML.getD 0 []) 235 = some (7, 0, 5, 0) := by decide +kernel
theorem qm_0_244 : ip_lk (vt_ML.getD 0 []) 244 = some (130, 1, 1, 0) := by decide +kernel
theorem qm_0_248 : ip_lk (vt_ML.getD 0 []) 248 = some (131, 1, 1, 0) := by decide +kernel
theorem qm_0_252 : ip_lk (vt_ML.getD 0 []) 252 = some (5, 1, 4, 0) := by decide +kernel
theorem qm_0_131 : ip_lk (vt_ML.getD 0 []) 131 = some (133, 2, 1, 6) := by decide +kernel
theorem qm_6_102 : ip_lk (vt_ML.getD 6 []) 102 = some (134, 2, 1, 7) := by decide +kernel
theorem qm_6_106 : ip_lk (vt_ML.getD 6 []) 106 = some (135, 2, 1, 7) := by decide +kernel
theorem qm_7_127 : ip_lk (vt_ML.getD 7 []) 127 = some (135, 2, 1, 7) := by decide +kernel
theorem qm_0_172 : ip_lk (vt_ML.getD 0 []) 172 = some (137, 2, 1, 6) := by decide +kernel
theorem qm_0_175 : ip_lk (vt_ML.getD 0 []) 175 = some (138, 0, 1, 6) := by decide +kernel
theorem qm_0_179 : ip_lk (vt_ML.getD 0 []) 179 = some (139, 4, 1, 6) := by decide +kernel
theorem qc_0_122 : ip_lk (vt_CL.getD 0 []) 122 = some (js_V (1, 58659)) := by decide +kernel
theorem qc_0_233 : ip_lk (vt_CL.getD 0 []) 233 = some (js_V (3, 3)) := by decide +kernel
theorem qc_0_256 : ip_lk (vt_CL.getD 0 []) 256 = some (js_V (1, 10)) := by decide +kernel
theorem qc_0_258 : ip_lk (vt_CL.getD 0 []) 258 = some (js_V (1, 48)) := by decide +kernel
theorem ww_27 : js_w 27 = 27 := by decide +kernel
-- 116: VitalTwin$Machine.load (LVitalTwin$Program;)V
theorem b_116_0 {E : js_E} {d : Nat} {σ : js_S} {b : Int} : js_J E d 116 0 [(2, 56), (2, 7 + b), (9, 0), (9, 0), (9, 0), (9, 0)] [] σ = js_J E d 116 12 [(2, 56), (2, 7 + b), (0, 0), (9, 0), (9, 0), (9, 0)] [] (js_up (js_up σ 56 1 (7 + b)) 56 2 1) :=
  (j_aload_n q_116_0 rfl).trans <| (j_aload_n q_116_1 rfl).trans <| (j_putR (ji := 1) q_116_2 (js_Fo qy_116 qf_6_39) rfl js_o56 rfl rfl rfl).trans <| (j_aload_n q_116_5 rfl).trans <| (j_iconst q_116_6).trans <| (j_putB1 (ji := 2) q_116_7 (js_Fo qy_116 qf_6_43) rfl js_o56 rfl rfl rfl).trans <| (j_iconst q_116_10).trans <| (j_istore_n (l2 := [(2, 56), (2, 7 + b), (0, 0), (9, 0), (9, 0), (9, 0)]) q_116_11 rfl (Nat.le_of_ble_eq_true rfl)).trans <| rfl
theorem b_116_12 {E : js_E} {d : Nat} {σ : js_S} {x2 b : Int} {ux3 ux4 ux5 : js_v} (hb : b = 0 ∨ b = 25) (hp : σ 56 1 = 7 + b) : js_J E d 116 12 [(2, 56), (2, 7 + b), (0, x2), ux3, ux4, ux5] [] σ = (if js_w x2 < js_w (σ (7 + b) 1) then js_J E d 116 28 [(2, 56), (2, 7 + b), (0, x2), ux3, ux4, ux5] [(0, x2), (2, 7 + b)] σ else js_J E d 116 120 [(2, 56), (2, 7 + b), (0, x2), ux3, ux4, ux5] [(2, 56)] σ) :=
  (j_iload_n q_116_12 rfl).trans <| (j_aload_n q_116_13 rfl).trans <| (j_get (ji := 1) (v := (2, 7 + b)) q_116_14 (js_Fo qy_116 qf_6_39) js_o56 rfl rfl rfl (congrArg (Prod.mk 2) hp)).trans <| (j_get (ji := 1) (v := (0, σ (7 + b) 1)) q_116_17 (js_Fo qy_116 qf_6_47) (js_o7b hb) rfl rfl rfl rfl).trans <| (j_cmpge (t := 119) q_116_20 rfl).trans (js_ite ((j_aload_n q_116_23 rfl).trans <| (j_get (ji := 1) (v := (2, 7 + b)) q_116_24 (js_Fo qy_116 qf_6_39) js_o56 rfl rfl rfl (congrArg (Prod.mk 2) hp)).trans <| (j_iload_n q_116_27 rfl).trans <| rfl) ((j_aload_n q_116_119 rfl).trans <| rfl))
theorem k_116_28 {E : js_E} {d : Nat} {σ σ2 : js_S} {x2 z1 b : Int} {ux3 ux4 ux5 : js_v} (hb : b = 0 ∨ b = 25) {v : Int} (hd : 1 ≤ d) (hz : js_J E (d - 1) 67 0 [(2, 7 + b), (0, z1)] [] σ = js_r E (2, v) σ2) : js_J E d 116 28 [(2, 56), (2, 7 + b), (0, x2), ux3, ux4, ux5] [(0, z1), (2, 7 + b)] σ = js_J E d 116 31 [(2, 56), (2, 7 + b), (0, x2), ux3, ux4, ux5] [(2, v)] σ2 :=
  j_call (m := 0) (js_caV q_116_28 (js_Mo qy_116 qm_6_53)) (js_agV (av := [(0, z1)]) (st := []) rfl rfl (js_o7b hb) rfl) rfl rfl (by rw [ql_67]; exact Nat.le_of_ble_eq_true rfl) (Nat.le_of_ble_eq_true rfl) hd hz
theorem kt_116_28 {E : js_E} {d : Nat} {σ σ2 : js_S} {x2 z1 b : Int} {ux3 ux4 ux5 : js_v} (hb : b = 0 ∨ b = 25) {w : Int} (hd : 1 ≤ d) (hz : js_J E (d - 1) 67 0 [(2, 7 + b), (0, z1)] [] σ = js_t E w σ2) : js_J E d 116 28 [(2, 56), (2, 7 + b), (0, x2), ux3, ux4, ux5] [(0, z1), (2, 7 + b)] σ = js_t E w σ2 :=
  j_callT (m := 0) (js_caV q_116_28 (js_Mo qy_116 qm_6_53)) (js_agV (av := [(0, z1)]) (st := []) rfl rfl (js_o7b hb) rfl) rfl rfl (by rw [ql_67]; exact Nat.le_of_ble_eq_true rfl) (Nat.le_of_ble_eq_true rfl) hd rfl hz
theorem b_116_31 {E : js_E} {d : Nat} {σ : js_S} {x2 z0 b : Int} {ux3 ux4 ux5 : js_v} : js_J E d 116 31 [(2, 56), (2, 7 + b), (0, x2), ux3, ux4, ux5] [(2, z0)] σ = (if z0 < 0 then js_J E d 116 113 [(2, 56), (2, 7 + b), (0, x2), (2, z0), ux4, ux5] [] σ else js_J E d 116 36 [(2, 56), (2, 7 + b), (0, x2), (2, z0), ux4, ux5] [] σ) :=
  (j_astore_n (l2 := [(2, 56), (2, 7 + b), (0, x2), (2, z0), ux4, ux5]) q_116_31 rfl (Nat.le_of_ble_eq_true rfl)).trans <| (j_aload_n q_116_32 rfl).trans <| (j_ifnull (t := 113) q_116_33 rfl).trans (js_ite (rfl) (rfl))
theorem b_116_36 {E : js_E} {d : Nat} {σ : js_S} {x2 x3 b : Int} {ux4 ux5 : js_v} (hs_x3 : js_desc E.1 σ x3 = some (0, 11, js_sym)) : js_J E d 116 36 [(2, 56), (2, 7 + b), (0, x2), (2, x3), ux4, ux5] [] σ = (if js_w (σ x3 1) = 1 then (if 0 < js_w (σ x3 3) then js_J E d 116 62 [(2, 56), (2, 7 + b), (0, x2), (2, x3), ux4, ux5] [] σ else (if js_w (σ x3 4) < 0 then js_J E d 116 62 [(2, 56), (2, 7 + b), (0, x2), (2, x3), ux4, ux5] [] σ else js_J E d 116 66 [(2, 56), (2, 7 + b), (0, x2), (2, x3), ux4, ux5] [(0, 0)] σ)) else js_J E d 116 113 [(2, 56), (2, 7 + b), (0, x2), (2, x3), ux4, ux5] [] σ) :=
  (j_aload_n q_116_36 rfl).trans <| (j_get (ji := 1) (v := (0, σ x3 1)) q_116_37 (js_Fo qy_116 qf_6_57) hs_x3 rfl rfl rfl rfl).trans <| (j_iconst q_116_40).trans <| (j_cmpneB (t := 113) q_116_41 rfl ww_1).trans (js_ite ((j_aload_n q_116_44 rfl).trans <| (j_get (ji := 3) (v := (0, σ x3 3)) q_116_45 (js_Fo qy_116 qf_6_62) hs_x3 rfl rfl rfl rfl).trans <| (j_ifgt (t := 62) q_116_48 rfl).trans (js_ite (rfl) ((j_aload_n q_116_51 rfl).trans <| (j_get (ji := 4) (v := (0, σ x3 4)) q_116_52 (js_Fo qy_116 qf_6_65) hs_x3 rfl rfl rfl rfl).trans <| (j_iflt (t := 62) q_116_55 rfl).trans (js_ite (rfl) ((j_iconst q_116_58).trans <| (j_goto (t := 66) q_116_59 rfl).trans <| rfl))))) (rfl))
theorem b_116_62 {E : js_E} {d : Nat} {σ : js_S} {x2 x3 b : Int} {ux4 ux5 : js_v} (hs_x3 : js_desc E.1 σ x3 = some (0, 11, js_sym)) : js_J E d 116 62 [(2, 56), (2, 7 + b), (0, x2), (2, x3), ux4, ux5] [] σ = js_J E d 116 66 [(2, 56), (2, 7 + b), (0, x2), (2, x3), ux4, ux5] [(0, σ x3 3)] σ :=
  (j_aload_n q_116_62 rfl).trans <| (j_get (ji := 3) (v := (0, σ x3 3)) q_116_63 (js_Fo qy_116 qf_6_62) hs_x3 rfl rfl rfl rfl).trans <| rfl
theorem b_116_66 {E : js_E} {d : Nat} {σ : js_S} {x2 x3 z0 b : Int} {ux4 ux5 : js_v} (hs_x3 : js_desc E.1 σ x3 = some (0, 11, js_sym)) : js_J E d 116 66 [(2, 56), (2, 7 + b), (0, x2), (2, x3), ux4, ux5] [(0, z0)] σ = js_J E d 116 74 [(2, 56), (2, 7 + b), (0, x2), (2, x3), (0, z0), (0, σ x3 5)] [] σ :=
  (j_istore (l2 := [(2, 56), (2, 7 + b), (0, x2), (2, x3), (0, z0), ux5]) q_116_66 rfl (Nat.le_of_ble_eq_true rfl)).trans <| (j_aload_n q_116_68 rfl).trans <| (j_get (ji := 5) (v := (0, σ x3 5)) q_116_69 (js_Fo qy_116 qf_6_68) hs_x3 rfl rfl rfl rfl).trans <| (j_istore (l2 := [(2, 56), (2, 7 + b), (0, x2), (2, x3), (0, z0), (0, σ x3 5)]) q_116_72 rfl (Nat.le_of_ble_eq_true rfl)).trans <| rfl
theorem b_116_74 {E : js_E} {d : Nat} {σ : js_S} {x2 x3 x4 x5 b : Int} (hs_x3 : js_desc E.1 σ x3 = some (0, 11, js_sym)) (hM : 0 ≤ E.1) : js_J E d 116 74 [(2, 56), (2, 7 + b), (0, x2), (2, x3), (0, x4), (0, x5)] [] σ = (if js_w x5 < js_w ((σ x3 5) + (σ x3 6)) then (if js_w x5 < js_w E.1 then (if 0 ≤ js_w x5 ∧ js_w x5 < E.1 then js_J E d 116 74 [(2, 56), (2, 7 + b), (0, x2), (2, x3), (0, x4), (0, x5 + 1)] [] (js_up σ 79 (js_w x5) x4) else none) else js_J E d 116 113 [(2, 56), (2, 7 + b), (0, x2), (2, x3), (0, x4), (0, x5)] [] σ) else js_J E d 116 113 [(2, 56), (2, 7 + b), (0, x2), (2, x3), (0, x4), (0, x5)] [] σ) :=
  (j_iload q_116_74 rfl).trans <| (j_aload_n q_116_76 rfl).trans <| (j_get (ji := 5) (v := (0, σ x3 5)) q_116_77 (js_Fo qy_116 qf_6_68) hs_x3 rfl rfl rfl rfl).trans <| (j_aload_n q_116_80 rfl).trans <| (j_get (ji := 6) (v := (0, σ x3 6)) q_116_81 (js_Fo qy_116 qf_6_71) hs_x3 rfl rfl rfl rfl).trans <| (j_iadd q_116_84).trans <| (j_cmpge (t := 113) q_116_85 rfl).trans (js_ite ((j_iload q_116_88 rfl).trans <| (j_aload_n q_116_90 rfl).trans <| (j_get (ji := 5) (v := (2, 79)) q_116_91 (js_Fo qy_116 qf_6_30) js_o56 rfl rfl rfl rfl).trans <| (j_alen q_116_94 js_o79 (by decide) (by omega)).trans <| (j_cmpge (t := 113) q_116_95 rfl).trans (js_ite ((j_aload_n q_116_98 rfl).trans <| (j_get (ji := 5) (v := (2, 79)) q_116_99 (js_Fo qy_116 qf_6_30) js_o56 rfl rfl rfl rfl).trans <| (j_iload q_116_102 rfl).trans <| (j_iload q_116_104 rfl).trans <| (j_iastore q_116_106 js_o79).trans <| js_itp fun g0 => (j_iinc (l2 := [(2, 56), (2, 7 + b), (0, x2), (2, x3), (0, x4), (0, x5 + 1)]) q_116_107 rfl rfl).trans <| (j_goto (t := 74) q_116_110 rfl).trans <| rfl) (rfl))) (rfl))
theorem b_116_113 {E : js_E} {d : Nat} {σ : js_S} {x2 x3 b : Int} {ux4 ux5 : js_v} : js_J E d 116 113 [(2, 56), (2, 7 + b), (0, x2), (2, x3), ux4, ux5] [] σ = js_J E d 116 12 [(2, 56), (2, 7 + b), (0, x2 + 1), (2, x3), ux4, ux5] [] σ :=
  (j_iinc (l2 := [(2, 56), (2, 7 + b), (0, x2 + 1), (2, x3), ux4, ux5]) q_116_113 rfl rfl).trans <| (j_goto (t := 12) q_116_116 rfl).trans <| rfl
theorem k_116_120 {E : js_E} {d : Nat} {σ σ2 : js_S} {x2 b : Int} {ux3 ux4 ux5 : js_v} (hd : 1 ≤ d) (hz : js_J E (d - 1) 117 0 [(2, 56), (9, 0), (9, 0), (9, 0)] [] σ = js_r0 E σ2) : js_J E d 116 120 [(2, 56), (2, 7 + b), (0, x2), ux3, ux4, ux5] [(2, 56)] σ = js_J E d 116 123 [(2, 56), (2, 7 + b), (0, x2), ux3, ux4, ux5] [] σ2 :=
  j_call0 (m := 3) (js_caV q_116_120 (js_Mo qy_116 qm_6_74)) (js_agV (av := []) (st := []) rfl rfl js_o56 rfl) rfl rfl (by rw [ql_117]; exact Nat.le_of_ble_eq_true rfl) (Nat.le_of_ble_eq_true rfl) hd hz
theorem kt_116_120 {E : js_E} {d : Nat} {σ σ2 : js_S} {x2 b : Int} {ux3 ux4 ux5 : js_v} {w : Int} (hd : 1 ≤ d) (hz : js_J E (d - 1) 117 0 [(2, 56), (9, 0), (9, 0), (9, 0)] [] σ = js_t E w σ2) : js_J E d 116 120 [(2, 56), (2, 7 + b), (0, x2), ux3, ux4, ux5] [(2, 56)] σ = js_t E w σ2 :=
  j_callT (m := 3) (js_caV q_116_120 (js_Mo qy_116 qm_6_74)) (js_agV (av := []) (st := []) rfl rfl js_o56 rfl) rfl rfl (by rw [ql_117]; exact Nat.le_of_ble_eq_true rfl) (Nat.le_of_ble_eq_true rfl) hd rfl hz
theorem b_116_123 {E : js_E} {d : Nat} {σ : js_S} {x2 b : Int} {ux3 ux4 ux5 : js_v} : js_J E d 116 123 [(2, 56), (2, 7 + b), (0, x2), ux3, ux4, ux5] [] σ = js_r0 E σ :=
  j_return q_116_123 qr_116
-- 117: VitalTwin$Machine.restart ()V
theorem b_117_0 {E : js_E} {d : Nat} {σ : js_S} {b : Int} (hb : b = 0 ∨ b = 25) (hp : σ 56 1 = 7 + b) : js_J E d 117 0 [(2, 56), (9, 0), (9, 0), (9, 0)] [] σ = js_J E d 117 11 [(2, 56), (9, 0), (9, 0), (9, 0)] [(0, σ (7 + b) 2), (2, 58)] σ :=
  (j_aload_n q_117_0 rfl).trans <| (j_get (ji := 0) (v := (2, 58)) q_117_1 (js_Fo qy_117 qf_6_20) js_o56 rfl rfl rfl rfl).trans <| (j_aload_n q_117_4 rfl).trans <| (j_get (ji := 1) (v := (2, 7 + b)) q_117_5 (js_Fo qy_117 qf_6_39) js_o56 rfl rfl rfl (congrArg (Prod.mk 2) hp)).trans <| (j_get (ji := 2) (v := (0, σ (7 + b) 2)) q_117_8 (js_Fo qy_117 qf_6_77) (js_o7b hb) rfl rfl rfl rfl).trans <| rfl
theorem k_117_11 {E : js_E} {d : Nat} {σ σ2 : js_S} {z1 : Int} (hd : 1 ≤ d) (hz : js_J E (d - 1) 118 0 [(2, 58), (0, z1)] [] σ = js_r0 E σ2) : js_J E d 117 11 [(2, 56), (9, 0), (9, 0), (9, 0)] [(0, z1), (2, 58)] σ = js_J E d 117 14 [(2, 56), (9, 0), (9, 0), (9, 0)] [] σ2 :=
  j_call0 (m := 0) (js_caV q_117_11 (js_Mo qy_117 qm_6_80)) (js_agV (av := [(0, z1)]) (st := []) rfl rfl js_o58 rfl) rfl rfl (by rw [ql_118]; exact Nat.le_of_ble_eq_true rfl) (Nat.le_of_ble_eq_true rfl) hd hz
theorem kt_117_11 {E : js_E} {d : Nat} {σ σ2 : js_S} {z1 : Int} {w : Int} (hd : 1 ≤ d) (hz : js_J E (d - 1) 118 0 [(2, 58), (0, z1)] [] σ = js_t E w σ2) : js_J E d 117 11 [(2, 56), (9, 0), (9, 0), (9, 0)] [(0, z1), (2, 58)] σ = js_t E w σ2 :=
  j_callT (m := 0) (js_caV q_117_11 (js_Mo qy_117 qm_6_80)) (js_agV (av := [(0, z1)]) (st := []) rfl rfl js_o58 rfl) rfl rfl (by rw [ql_118]; exact Nat.le_of_ble_eq_true rfl) (Nat.le_of_ble_eq_true rfl) hd rfl hz
theorem b_117_14 {E : js_E} {d : Nat} {σ : js_S} : js_J E d 117 14 [(2, 56), (9, 0), (9, 0), (9, 0)] [] σ = js_J E d 117 16 [(2, 56), (0, 0), (9, 0), (9, 0)] [] σ :=
  (j_iconst q_117_14).trans <| (j_istore_n (l2 := [(2, 56), (0, 0), (9, 0), (9, 0)]) q_117_15 rfl (Nat.le_of_ble_eq_true rfl)).trans <| rfl
theorem b_117_16 {E : js_E} {d : Nat} {σ : js_S} {x1 b : Int} {ux2 ux3 : js_v} (hb : b = 0 ∨ b = 25) (hp : σ 56 1 = 7 + b) : js_J E d 117 16 [(2, 56), (0, x1), ux2, ux3] [] σ = (if js_w x1 < js_w (σ (7 + b) 1) then js_J E d 117 32 [(2, 56), (0, x1), ux2, ux3] [(0, x1), (2, 7 + b)] σ else js_r0 E (js_up (js_up (js_up (js_up σ 56 3 0) 56 4 0) 56 8 0) 56 9 0)) :=
  (j_iload_n q_117_16 rfl).trans <| (j_aload_n q_117_17 rfl).trans <| (j_get (ji := 1) (v := (2, 7 + b)) q_117_18 (js_Fo qy_117 qf_6_39) js_o56 rfl rfl rfl (congrArg (Prod.mk 2) hp)).trans <| (j_get (ji := 1) (v := (0, σ (7 + b) 1)) q_117_21 (js_Fo qy_117 qf_6_47) (js_o7b hb) rfl rfl rfl rfl).trans <| (j_cmpge (t := 98) q_117_24 rfl).trans (js_ite ((j_aload_n q_117_27 rfl).trans <| (j_get (ji := 1) (v := (2, 7 + b)) q_117_28 (js_Fo qy_117 qf_6_39) js_o56 rfl rfl rfl (congrArg (Prod.mk 2) hp)).trans <| (j_iload_n q_117_31 rfl).trans <| rfl) ((j_aload_n q_117_98 rfl).trans <| (j_iconst q_117_99).trans <| (j_putI (ji := 3) q_117_100 (js_Fo qy_117 qf_6_90) rfl js_o56 rfl rfl rfl).trans <| (j_aload_n q_117_103 rfl).trans <| (j_iconst q_117_104).trans <| (j_putI (ji := 4) q_117_105 (js_Fo qy_117 qf_6_93) rfl js_o56 rfl rfl rfl).trans <| (j_aload_n q_117_108 rfl).trans <| (j_iconst q_117_109).trans <| (j_putI (ji := 8) q_117_110 (js_Fo qy_117 qf_6_96) rfl js_o56 rfl rfl rfl).trans <| (j_aload_n q_117_113 rfl).trans <| (j_iconst q_117_114).trans <| (j_putI (ji := 9) q_117_115 (js_Fo qy_117 qf_6_99) rfl js_o56 rfl rfl rfl).trans <| j_return q_117_118 qr_117))
theorem k_117_32 {E : js_E} {d : Nat} {σ σ2 : js_S} {x1 z1 b : Int} {ux2 ux3 : js_v} (hb : b = 0 ∨ b = 25) {v : Int} (hd : 1 ≤ d) (hz : js_J E (d - 1) 67 0 [(2, 7 + b), (0, z1)] [] σ = js_r E (2, v) σ2) : js_J E d 117 32 [(2, 56), (0, x1), ux2, ux3] [(0, z1), (2, 7 + b)] σ = js_J E d 117 35 [(2, 56), (0, x1), ux2, ux3] [(2, v)] σ2 :=
  j_call (m := 0) (js_caV q_117_32 (js_Mo qy_117 qm_6_53)) (js_agV (av := [(0, z1)]) (st := []) rfl rfl (js_o7b hb) rfl) rfl rfl (by rw [ql_67]; exact Nat.le_of_ble_eq_true rfl) (Nat.le_of_ble_eq_true rfl) hd hz
theorem kt_117_32 {E : js_E} {d : Nat} {σ σ2 : js_S} {x1 z1 b : Int} {ux2 ux3 : js_v} (hb : b = 0 ∨ b = 25) {w : Int} (hd : 1 ≤ d) (hz : js_J E (d - 1) 67 0 [(2, 7 + b), (0, z1)] [] σ = js_t E w σ2) : js_J E d 117 32 [(2, 56), (0, x1), ux2, ux3] [(0, z1), (2, 7 + b)] σ = js_t E w σ2 :=
  j_callT (m := 0) (js_caV q_117_32 (js_Mo qy_117 qm_6_53)) (js_agV (av := [(0, z1)]) (st := []) rfl rfl (js_o7b hb) rfl) rfl rfl (by rw [ql_67]; exact Nat.le_of_ble_eq_true rfl) (Nat.le_of_ble_eq_true rfl) hd rfl hz
theorem b_117_35 {E : js_E} {d : Nat} {σ : js_S} {x1 z0 : Int} {ux2 ux3 : js_v} : js_J E d 117 35 [(2, 56), (0, x1), ux2, ux3] [(2, z0)] σ = (if z0 < 0 then js_J E d 117 92 [(2, 56), (0, x1), (2, z0), ux3] [] σ else js_J E d 117 40 [(2, 56), (0, x1), (2, z0), ux3] [] σ) :=
  (j_astore_n (l2 := [(2, 56), (0, x1), (2, z0), ux3]) q_117_35 rfl (Nat.le_of_ble_eq_true rfl)).trans <| (j_aload_n q_117_36 rfl).trans <| (j_ifnull (t := 92) q_117_37 rfl).trans (js_ite (rfl) (rfl))
theorem b_117_40 {E : js_E} {d : Nat} {σ : js_S} {x1 x2 : Int} {ux3 : js_v} (hs_x2 : js_desc E.1 σ x2 = some (0, 11, js_sym)) : js_J E d 117 40 [(2, 56), (0, x1), (2, x2), ux3] [] σ = (if js_w (σ x2 1) = 2 then js_J E d 117 56 [(2, 56), (0, x1), (2, x2), ux3] [] σ else (if js_w (σ x2 1) = 3 then js_J E d 117 56 [(2, 56), (0, x1), (2, x2), ux3] [] σ else js_J E d 117 92 [(2, 56), (0, x1), (2, x2), ux3] [] σ)) :=
  (j_aload_n q_117_40 rfl).trans <| (j_get (ji := 1) (v := (0, σ x2 1)) q_117_41 (js_Fo qy_117 qf_6_57) hs_x2 rfl rfl rfl rfl).trans <| (j_iconst q_117_44).trans <| (j_cmpeqB (t := 56) q_117_45 rfl ww_2).trans (js_ite (rfl) ((j_aload_n q_117_48 rfl).trans <| (j_get (ji := 1) (v := (0, σ x2 1)) q_117_49 (js_Fo qy_117 qf_6_57) hs_x2 rfl rfl rfl rfl).trans <| (j_iconst q_117_52).trans <| (j_cmpneB (t := 92) q_117_53 rfl ww_3).trans (js_ite (rfl) (rfl))))
theorem b_117_56 {E : js_E} {d : Nat} {σ : js_S} {x1 x2 : Int} {ux3 : js_v} (hs_x2 : js_desc E.1 σ x2 = some (0, 11, js_sym)) : js_J E d 117 56 [(2, 56), (0, x1), (2, x2), ux3] [] σ = js_J E d 117 61 [(2, 56), (0, x1), (2, x2), (0, σ x2 5)] [] σ :=
  (j_aload_n q_117_56 rfl).trans <| (j_get (ji := 5) (v := (0, σ x2 5)) q_117_57 (js_Fo qy_117 qf_6_68) hs_x2 rfl rfl rfl rfl).trans <| (j_istore_n (l2 := [(2, 56), (0, x1), (2, x2), (0, σ x2 5)]) q_117_60 rfl (Nat.le_of_ble_eq_true rfl)).trans <| rfl
theorem b_117_61 {E : js_E} {d : Nat} {σ : js_S} {x1 x2 x3 : Int} (hs_x2 : js_desc E.1 σ x2 = some (0, 11, js_sym)) : js_J E d 117 61 [(2, 56), (0, x1), (2, x2), (0, x3)] [] σ = (if js_w x3 < js_w ((σ x2 5) + (σ x2 6)) then js_J E d 117 83 [(2, 56), (0, x1), (2, x2), (0, x3)] [(0, σ x2 8), (0, x3), (2, 58)] σ else js_J E d 117 92 [(2, 56), (0, x1), (2, x2), (0, x3)] [] σ) :=
  (j_iload_n q_117_61 rfl).trans <| (j_aload_n q_117_62 rfl).trans <| (j_get (ji := 5) (v := (0, σ x2 5)) q_117_63 (js_Fo qy_117 qf_6_68) hs_x2 rfl rfl rfl rfl).trans <| (j_aload_n q_117_66 rfl).trans <| (j_get (ji := 6) (v := (0, σ x2 6)) q_117_67 (js_Fo qy_117 qf_6_71) hs_x2 rfl rfl rfl rfl).trans <| (j_iadd q_117_70).trans <| (j_cmpge (t := 92) q_117_71 rfl).trans (js_ite ((j_aload_n q_117_74 rfl).trans <| (j_get (ji := 0) (v := (2, 58)) q_117_75 (js_Fo qy_117 qf_6_20) js_o56 rfl rfl rfl rfl).trans <| (j_iload_n q_117_78 rfl).trans <| (j_aload_n q_117_79 rfl).trans <| (j_get (ji := 8) (v := (0, σ x2 8)) q_117_80 (js_Fo qy_117 qf_6_83) hs_x2 rfl rfl rfl rfl).trans <| rfl) (rfl))
theorem k_117_83 {E : js_E} {d : Nat} {σ σ2 : js_S} {x1 x2 x3 z1 z2 : Int} (hd : 1 ≤ d) (hz : js_J E (d - 1) 120 0 [(2, 58), (0, z1), (0, z2)] [] σ = js_r0 E σ2) : js_J E d 117 83 [(2, 56), (0, x1), (2, x2), (0, x3)] [(0, z2), (0, z1), (2, 58)] σ = js_J E d 117 86 [(2, 56), (0, x1), (2, x2), (0, x3)] [] σ2 :=
  j_call0 (m := 0) (js_caV q_117_83 (js_Mo qy_117 qm_6_86)) (js_agV (av := [(0, z1), (0, z2)]) (st := []) rfl rfl js_o58 rfl) rfl rfl (by rw [ql_120]; exact Nat.le_of_ble_eq_true rfl) (Nat.le_of_ble_eq_true rfl) hd hz
theorem kt_117_83 {E : js_E} {d : Nat} {σ σ2 : js_S} {x1 x2 x3 z1 z2 : Int} {w : Int} (hd : 1 ≤ d) (hz : js_J E (d - 1) 120 0 [(2, 58), (0, z1), (0, z2)] [] σ = js_t E w σ2) : js_J E d 117 83 [(2, 56), (0, x1), (2, x2), (0, x3)] [(0, z2), (0, z1), (2, 58)] σ = js_t E w σ2 :=
  j_callT (m := 0) (js_caV q_117_83 (js_Mo qy_117 qm_6_86)) (js_agV (av := [(0, z1), (0, z2)]) (st := []) rfl rfl js_o58 rfl) rfl rfl (by rw [ql_120]; exact Nat.le_of_ble_eq_true rfl) (Nat.le_of_ble_eq_true rfl) hd rfl hz
theorem b_117_86 {E : js_E} {d : Nat} {σ : js_S} {x1 x2 x3 : Int} : js_J E d 117 86 [(2, 56), (0, x1), (2, x2), (0, x3)] [] σ = js_J E d 117 61 [(2, 56), (0, x1), (2, x2), (0, x3 + 1)] [] σ :=
  (j_iinc (l2 := [(2, 56), (0, x1), (2, x2), (0, x3 + 1)]) q_117_86 rfl rfl).trans <| (j_goto (t := 61) q_117_89 rfl).trans <| rfl
theorem b_117_92 {E : js_E} {d : Nat} {σ : js_S} {x1 x2 : Int} {ux3 : js_v} : js_J E d 117 92 [(2, 56), (0, x1), (2, x2), ux3] [] σ = js_J E d 117 16 [(2, 56), (0, x1 + 1), (2, x2), ux3] [] σ :=
  (j_iinc (l2 := [(2, 56), (0, x1 + 1), (2, x2), ux3]) q_117_92 rfl rfl).trans <| (j_goto (t := 16) q_117_95 rfl).trans <| rfl
-- 118: VitalTwin$Run.clear (I)V
theorem b_118_0 {E : js_E} {d : Nat} {σ : js_S} {x1 r : Int} (hr : r = 0 ∨ r = 7 ∨ r = 14) : js_J E d 118 0 [(2, 58 + r), (0, x1)] [] σ = js_J E d 118 25 [(2, 58 + r), (0, x1)] [(0, x1), (2, 59 + r)] (js_up (js_up (js_up (js_up σ (58 + r) 0 0) (58 + r) 1 0) (58 + r) 3 0) (58 + r) 2 0) :=
  (j_aload_n q_118_0 rfl).trans <| (j_iconst q_118_1).trans <| (j_putI (ji := 0) q_118_2 (js_Fo qy_118 qf_9_25) rfl (js_o58r hr) rfl rfl rfl).trans <| (j_aload_n q_118_5 rfl).trans <| (j_iconst q_118_6).trans <| (j_putI (ji := 1) q_118_7 (js_Fo qy_118 qf_9_29) rfl (js_o58r hr) rfl rfl rfl).trans <| (j_aload_n q_118_10 rfl).trans <| (j_iconst q_118_11).trans <| (j_putI (ji := 3) q_118_12 (js_Fo qy_118 qf_9_32) rfl (js_o58r hr) rfl rfl rfl).trans <| (j_aload_n q_118_15 rfl).trans <| (j_iconst q_118_16).trans <| (j_putI (ji := 2) q_118_17 (js_Fo qy_118 qf_9_35) rfl (js_o58r hr) rfl rfl rfl).trans <| (j_aload_n q_118_20 rfl).trans <| (j_get (ji := 4) (v := (2, 59 + r)) q_118_21 (js_Fo qy_118 qf_9_14) (js_o58r hr) rfl rfl rfl rfl).trans <| (j_iload_n q_118_24 rfl).trans <| rfl
theorem k_118_25 {E : js_E} {d : Nat} {σ σ2 : js_S} {x1 z1 r : Int} (hr : r = 0 ∨ r = 7 ∨ r = 14) (hd : 1 ≤ d) (hz : js_J E (d - 1) 119 0 [(2, 59 + r), (0, z1), (9, 0)] [] σ = js_r0 E σ2) : js_J E d 118 25 [(2, 58 + r), (0, x1)] [(0, z1), (2, 59 + r)] σ = js_J E d 118 28 [(2, 58 + r), (0, x1)] [] σ2 :=
  j_call0 (m := 1) (js_caV q_118_25 (js_Mo qy_118 qm_9_38)) (js_agV (av := [(0, z1)]) (st := []) rfl rfl (js_o59r hr) rfl) rfl rfl (by rw [ql_119]; exact Nat.le_of_ble_eq_true rfl) (Nat.le_of_ble_eq_true rfl) hd hz
theorem kt_118_25 {E : js_E} {d : Nat} {σ σ2 : js_S} {x1 z1 r : Int} (hr : r = 0 ∨ r = 7 ∨ r = 14) {w : Int} (hd : 1 ≤ d) (hz : js_J E (d - 1) 119 0 [(2, 59 + r), (0, z1), (9, 0)] [] σ = js_t E w σ2) : js_J E d 118 25 [(2, 58 + r), (0, x1)] [(0, z1), (2, 59 + r)] σ = js_t E w σ2 :=
  j_callT (m := 1) (js_caV q_118_25 (js_Mo qy_118 qm_9_38)) (js_agV (av := [(0, z1)]) (st := []) rfl rfl (js_o59r hr) rfl) rfl rfl (by rw [ql_119]; exact Nat.le_of_ble_eq_true rfl) (Nat.le_of_ble_eq_true rfl) hd rfl hz
theorem b_118_28 {E : js_E} {d : Nat} {σ : js_S} {x1 r : Int} (hr : r = 0 ∨ r = 7 ∨ r = 14) : js_J E d 118 28 [(2, 58 + r), (0, x1)] [] σ = js_J E d 118 33 [(2, 58 + r), (0, x1)] [(0, x1), (2, 62 + r)] σ :=
  (j_aload_n q_118_28 rfl).trans <| (j_get (ji := 5) (v := (2, 62 + r)) q_118_29 (js_Fo qy_118 qf_9_22) (js_o58r hr) rfl rfl rfl rfl).trans <| (j_iload_n q_118_32 rfl).trans <| rfl
theorem k_118_33 {E : js_E} {d : Nat} {σ σ2 : js_S} {x1 z1 r : Int} (hr : r = 0 ∨ r = 7 ∨ r = 14) (hd : 1 ≤ d) (hz : js_J E (d - 1) 119 0 [(2, 62 + r), (0, z1), (9, 0)] [] σ = js_r0 E σ2) : js_J E d 118 33 [(2, 58 + r), (0, x1)] [(0, z1), (2, 62 + r)] σ = js_J E d 118 36 [(2, 58 + r), (0, x1)] [] σ2 :=
  j_call0 (m := 1) (js_caV q_118_33 (js_Mo qy_118 qm_9_38)) (js_agV (av := [(0, z1)]) (st := []) rfl rfl (js_o62r hr) rfl) rfl rfl (by rw [ql_119]; exact Nat.le_of_ble_eq_true rfl) (Nat.le_of_ble_eq_true rfl) hd hz
theorem kt_118_33 {E : js_E} {d : Nat} {σ σ2 : js_S} {x1 z1 r : Int} (hr : r = 0 ∨ r = 7 ∨ r = 14) {w : Int} (hd : 1 ≤ d) (hz : js_J E (d - 1) 119 0 [(2, 62 + r), (0, z1), (9, 0)] [] σ = js_t E w σ2) : js_J E d 118 33 [(2, 58 + r), (0, x1)] [(0, z1), (2, 62 + r)] σ = js_t E w σ2 :=
  j_callT (m := 1) (js_caV q_118_33 (js_Mo qy_118 qm_9_38)) (js_agV (av := [(0, z1)]) (st := []) rfl rfl (js_o62r hr) rfl) rfl rfl (by rw [ql_119]; exact Nat.le_of_ble_eq_true rfl) (Nat.le_of_ble_eq_true rfl) hd rfl hz
theorem b_118_36 {E : js_E} {d : Nat} {σ : js_S} {x1 r : Int} : js_J E d 118 36 [(2, 58 + r), (0, x1)] [] σ = js_r0 E σ :=
  j_return q_118_36 qr_118
-- 119: VitalTwin$Copy.clear (I)V
theorem b_119_0 {E : js_E} {d : Nat} {σ : js_S} {x0 x1 ox0 : Int} (hC_x0 : js_isC E.1 x0 ox0) : js_J E d 119 0 [(2, x0), (0, x1), (9, 0)] [] σ = js_J E d 119 12 [(2, x0), (0, x1), (0, 0)] [] (js_up (js_up σ x0 0 0) x0 1 0) :=
  (j_aload_n q_119_0 rfl).trans <| (j_lconst0 q_119_1).trans <| (j_putL (ji := 0) q_119_2 (js_Fo qy_119 qf_3_23) rfl (hC_x0 _).1 rfl rfl rfl).trans <| (j_aload_n q_119_5 rfl).trans <| (j_lconst0 q_119_6).trans <| (j_putL (ji := 1) q_119_7 (js_Fo qy_119 qf_3_26) rfl (hC_x0 _).1 rfl rfl rfl).trans <| (j_iconst q_119_10).trans <| (j_istore_n (l2 := [(2, x0), (0, x1), (0, 0)]) q_119_11 rfl (Nat.le_of_ble_eq_true rfl)).trans <| rfl
theorem b_119_12 {E : js_E} {d : Nat} {σ : js_S} {x0 x1 x2 ox0 : Int} (hC_x0 : js_isC E.1 x0 ox0) (hM : 0 ≤ E.1) : js_J E d 119 12 [(2, x0), (0, x1), (0, x2)] [] σ = (if js_w x2 < js_w x1 then (if js_w x2 < js_w E.1 then (if 0 ≤ js_w x2 ∧ js_w x2 < E.1 then js_J E d 119 12 [(2, x0), (0, x1), (0, x2 + 1)] [] (js_up σ (x0 + 2) (js_w x2) 0) else none) else js_r0 E σ) else js_r0 E σ) :=
  (j_iload_n q_119_12 rfl).trans <| (j_iload_n q_119_13 rfl).trans <| (j_cmpge (t := 39) q_119_14 rfl).trans (js_ite ((j_iload_n q_119_17 rfl).trans <| (j_aload_n q_119_18 rfl).trans <| (j_get (ji := 5) (v := (2, x0 + 2)) q_119_19 (js_Fo qy_119 qf_3_15) (hC_x0 _).1 rfl rfl rfl rfl).trans <| (j_alen q_119_22 (hC_x0 _).2.2 (by decide) (by omega)).trans <| (j_cmpge (t := 39) q_119_23 rfl).trans (js_ite ((j_aload_n q_119_26 rfl).trans <| (j_get (ji := 5) (v := (2, x0 + 2)) q_119_27 (js_Fo qy_119 qf_3_15) (hC_x0 _).1 rfl rfl rfl rfl).trans <| (j_iload_n q_119_30 rfl).trans <| (j_lconst0 q_119_31).trans <| (j_lastore q_119_32 (hC_x0 _).2.2).trans <| js_itp fun g0 => (j_iinc (l2 := [(2, x0), (0, x1), (0, x2 + 1)]) q_119_33 rfl rfl).trans <| (j_goto (t := 12) q_119_36 rfl).trans <| rfl) (j_return q_119_39 qr_119))) (j_return q_119_39 qr_119))
-- 120: VitalTwin$Run.hold (II)V
theorem b_120_0 {E : js_E} {d : Nat} {σ : js_S} {x1 x2 r : Int} (hr : r = 0 ∨ r = 7 ∨ r = 14) : js_J E d 120 0 [(2, 58 + r), (0, x1), (0, x2)] [] σ = js_J E d 120 7 [(2, 58 + r), (0, x1), (0, x2)] [(1, js_w x2), (0, x1), (2, 59 + r)] σ :=
  (j_aload_n q_120_0 rfl).trans <| (j_get (ji := 4) (v := (2, 59 + r)) q_120_1 (js_Fo qy_120 qf_9_14) (js_o58r hr) rfl rfl rfl rfl).trans <| (j_iload_n q_120_4 rfl).trans <| (j_iload_n q_120_5 rfl).trans <| (j_i2l q_120_6).trans <| rfl
theorem k_120_7 {E : js_E} {d : Nat} {σ σ2 : js_S} {x1 x2 z1 z2 r : Int} (hr : r = 0 ∨ r = 7 ∨ r = 14) (hd : 1 ≤ d) (hz : js_J E (d - 1) 121 0 [(2, 59 + r), (0, z1), (1, z2), (9, 0)] [] σ = js_r0 E σ2) : js_J E d 120 7 [(2, 58 + r), (0, x1), (0, x2)] [(1, z2), (0, z1), (2, 59 + r)] σ = js_J E d 120 10 [(2, 58 + r), (0, x1), (0, x2)] [] σ2 :=
  j_call0 (m := 0) (js_caV q_120_7 (js_Mo qy_120 qm_9_46)) (js_agV (av := [(0, z1), (1, z2)]) (st := []) rfl rfl (js_o59r hr) rfl) rfl rfl (by rw [ql_121]; exact Nat.le_of_ble_eq_true rfl) (Nat.le_of_ble_eq_true rfl) hd hz
theorem kt_120_7 {E : js_E} {d : Nat} {σ σ2 : js_S} {x1 x2 z1 z2 r : Int} (hr : r = 0 ∨ r = 7 ∨ r = 14) {w : Int} (hd : 1 ≤ d) (hz : js_J E (d - 1) 121 0 [(2, 59 + r), (0, z1), (1, z2), (9, 0)] [] σ = js_t E w σ2) : js_J E d 120 7 [(2, 58 + r), (0, x1), (0, x2)] [(1, z2), (0, z1), (2, 59 + r)] σ = js_t E w σ2 :=
  j_callT (m := 0) (js_caV q_120_7 (js_Mo qy_120 qm_9_46)) (js_agV (av := [(0, z1), (1, z2)]) (st := []) rfl rfl (js_o59r hr) rfl) rfl rfl (by rw [ql_121]; exact Nat.le_of_ble_eq_true rfl) (Nat.le_of_ble_eq_true rfl) hd rfl hz
theorem b_120_10 {E : js_E} {d : Nat} {σ : js_S} {x1 x2 r : Int} (hr : r = 0 ∨ r = 7 ∨ r = 14) : js_J E d 120 10 [(2, 58 + r), (0, x1), (0, x2)] [] σ = js_J E d 120 17 [(2, 58 + r), (0, x1), (0, x2)] [(1, js_w x2), (0, x1), (2, 62 + r)] σ :=
  (j_aload_n q_120_10 rfl).trans <| (j_get (ji := 5) (v := (2, 62 + r)) q_120_11 (js_Fo qy_120 qf_9_22) (js_o58r hr) rfl rfl rfl rfl).trans <| (j_iload_n q_120_14 rfl).trans <| (j_iload_n q_120_15 rfl).trans <| (j_i2l q_120_16).trans <| rfl
theorem k_120_17 {E : js_E} {d : Nat} {σ σ2 : js_S} {x1 x2 z1 z2 r : Int} (hr : r = 0 ∨ r = 7 ∨ r = 14) (hd : 1 ≤ d) (hz : js_J E (d - 1) 121 0 [(2, 62 + r), (0, z1), (1, z2), (9, 0)] [] σ = js_r0 E σ2) : js_J E d 120 17 [(2, 58 + r), (0, x1), (0, x2)] [(1, z2), (0, z1), (2, 62 + r)] σ = js_J E d 120 20 [(2, 58 + r), (0, x1), (0, x2)] [] σ2 :=
  j_call0 (m := 0) (js_caV q_120_17 (js_Mo qy_120 qm_9_46)) (js_agV (av := [(0, z1), (1, z2)]) (st := []) rfl rfl (js_o62r hr) rfl) rfl rfl (by rw [ql_121]; exact Nat.le_of_ble_eq_true rfl) (Nat.le_of_ble_eq_true rfl) hd hz
theorem kt_120_17 {E : js_E} {d : Nat} {σ σ2 : js_S} {x1 x2 z1 z2 r : Int} (hr : r = 0 ∨ r = 7 ∨ r = 14) {w : Int} (hd : 1 ≤ d) (hz : js_J E (d - 1) 121 0 [(2, 62 + r), (0, z1), (1, z2), (9, 0)] [] σ = js_t E w σ2) : js_J E d 120 17 [(2, 58 + r), (0, x1), (0, x2)] [(1, z2), (0, z1), (2, 62 + r)] σ = js_t E w σ2 :=
  j_callT (m := 0) (js_caV q_120_17 (js_Mo qy_120 qm_9_46)) (js_agV (av := [(0, z1), (1, z2)]) (st := []) rfl rfl (js_o62r hr) rfl) rfl rfl (by rw [ql_121]; exact Nat.le_of_ble_eq_true rfl) (Nat.le_of_ble_eq_true rfl) hd rfl hz
theorem b_120_20 {E : js_E} {d : Nat} {σ : js_S} {x1 x2 r : Int} : js_J E d 120 20 [(2, 58 + r), (0, x1), (0, x2)] [] σ = js_r0 E σ :=
  j_return q_120_20 qr_120
-- 121: VitalTwin$Copy.hold (IJ)V
theorem b_121_0 {E : js_E} {d : Nat} {σ : js_S} {x0 x1 x2 ox0 : Int} (hC_x0 : js_isC E.1 x0 ox0) : js_J E d 121 0 [(2, x0), (0, x1), (1, x2), (9, 0)] [] σ = js_J E d 121 8 [(2, x0), (0, x1), (1, x2), (9, 0)] [(1, x2 * ox0), (0, x1), (2, x0)] σ :=
  (j_aload_n q_121_0 rfl).trans <| (j_iload_n q_121_1 rfl).trans <| (j_lload_n q_121_2 rfl).trans <| (j_aload_n q_121_3 rfl).trans <| (j_get (ji := 4) (v := (1, ox0)) q_121_4 (js_Fo qy_121 qf_3_19) (hC_x0 _).1 rfl rfl rfl rfl).trans <| (j_lmul q_121_7).trans <| rfl
theorem k_121_8 {E : js_E} {d : Nat} {σ σ2 : js_S} {x0 x1 x2 z0 z1 z2 oz0 : Int} (hC_z0 : js_isC E.1 z0 oz0) (hd : 1 ≤ d) (hz : js_J E (d - 1) 122 0 [(2, z0), (0, z1), (1, z2), (9, 0)] [] σ = js_r0 E σ2) : js_J E d 121 8 [(2, x0), (0, x1), (1, x2), (9, 0)] [(1, z2), (0, z1), (2, z0)] σ = js_J E d 121 11 [(2, x0), (0, x1), (1, x2), (9, 0)] [] σ2 :=
  j_call0 (m := 0) (js_caV q_121_8 (js_Mo qy_121 qm_3_51)) (js_agV (av := [(0, z1), (1, z2)]) (st := []) rfl rfl (hC_z0 _).1 rfl) rfl rfl (by rw [ql_122]; exact Nat.le_of_ble_eq_true rfl) (Nat.le_of_ble_eq_true rfl) hd hz
theorem kt_121_8 {E : js_E} {d : Nat} {σ σ2 : js_S} {x0 x1 x2 z0 z1 z2 oz0 : Int} (hC_z0 : js_isC E.1 z0 oz0) {w : Int} (hd : 1 ≤ d) (hz : js_J E (d - 1) 122 0 [(2, z0), (0, z1), (1, z2), (9, 0)] [] σ = js_t E w σ2) : js_J E d 121 8 [(2, x0), (0, x1), (1, x2), (9, 0)] [(1, z2), (0, z1), (2, z0)] σ = js_t E w σ2 :=
  j_callT (m := 0) (js_caV q_121_8 (js_Mo qy_121 qm_3_51)) (js_agV (av := [(0, z1), (1, z2)]) (st := []) rfl rfl (hC_z0 _).1 rfl) rfl rfl (by rw [ql_122]; exact Nat.le_of_ble_eq_true rfl) (Nat.le_of_ble_eq_true rfl) hd rfl hz
theorem b_121_11 {E : js_E} {d : Nat} {σ : js_S} {x0 x1 x2 : Int} : js_J E d 121 11 [(2, x0), (0, x1), (1, x2), (9, 0)] [] σ = js_r0 E σ :=
  j_return q_121_11 qr_121
-- 122: VitalTwin$Copy.write (IJ)V
theorem b_122_0 {E : js_E} {d : Nat} {σ : js_S} {x0 x1 x2 ox0 : Int} (hC_x0 : js_isC E.1 x0 ox0) (hM : 0 ≤ E.1) : js_J E d 122 0 [(2, x0), (0, x1), (1, x2), (9, 0)] [] σ = (if js_w x1 < 0 then js_r0 E σ else (if js_w x1 < js_w E.1 then (if 0 ≤ js_w x1 ∧ js_w x1 < E.1 then js_r0 E (js_up σ (x0 + 2) (js_w x1) x2) else none) else js_r0 E σ)) :=
  (j_iload_n q_122_0 rfl).trans <| (j_iflt (t := 20) q_122_1 rfl).trans (js_ite (j_return q_122_20 qr_122) ((j_iload_n q_122_4 rfl).trans <| (j_aload_n q_122_5 rfl).trans <| (j_get (ji := 5) (v := (2, x0 + 2)) q_122_6 (js_Fo qy_122 qf_3_15) (hC_x0 _).1 rfl rfl rfl rfl).trans <| (j_alen q_122_9 (hC_x0 _).2.2 (by decide) (by omega)).trans <| (j_cmpge (t := 20) q_122_10 rfl).trans (js_ite ((j_aload_n q_122_13 rfl).trans <| (j_get (ji := 5) (v := (2, x0 + 2)) q_122_14 (js_Fo qy_122 qf_3_15) (hC_x0 _).1 rfl rfl rfl rfl).trans <| (j_iload_n q_122_17 rfl).trans <| (j_lload_n q_122_18 rfl).trans <| (j_lastore q_122_19 (hC_x0 _).2.2).trans <| js_itp fun g0 => j_return q_122_20 qr_122) (j_return q_122_20 qr_122))))
-- 123: VitalTwin.symbol (II)I
theorem b_123_0 {E : js_E} {d : Nat} {σ : js_S} {x1 x2 b : Int} (hb : b = 0 ∨ b = 25) (h4 : σ 0 4 = 6 + b) : js_J E d 123 0 [(2, 0), (0, x1), (0, x2), (9, 0)] [] σ = js_J E d 123 8 [(2, 0), (0, x1), (0, x2), (9, 0)] [(0, x1), (2, 7 + b)] σ :=
  (j_aload_n q_123_0 rfl).trans <| (j_get (ji := 4) (v := (2, 6 + b)) q_123_1 (js_Fo qy_123 qf_0_30) js_o0 rfl rfl rfl (congrArg (Prod.mk 2) h4)).trans <| (j_get (ji := 0) (v := (2, 7 + b)) q_123_4 (js_Fo qy_123 qf_0_39) (js_o6b hb) rfl rfl rfl rfl).trans <| (j_iload_n q_123_7 rfl).trans <| rfl
theorem k_123_8 {E : js_E} {d : Nat} {σ σ2 : js_S} {x1 x2 z1 b : Int} (hb : b = 0 ∨ b = 25) {v : Int} (hd : 1 ≤ d) (hz : js_J E (d - 1) 67 0 [(2, 7 + b), (0, z1)] [] σ = js_r E (2, v) σ2) : js_J E d 123 8 [(2, 0), (0, x1), (0, x2), (9, 0)] [(0, z1), (2, 7 + b)] σ = js_J E d 123 11 [(2, 0), (0, x1), (0, x2), (9, 0)] [(2, v)] σ2 :=
  j_call (m := 0) (js_caV q_123_8 (js_Mo qy_123 qm_0_74)) (js_agV (av := [(0, z1)]) (st := []) rfl rfl (js_o7b hb) rfl) rfl rfl (by rw [ql_67]; exact Nat.le_of_ble_eq_true rfl) (Nat.le_of_ble_eq_true rfl) hd hz
theorem kt_123_8 {E : js_E} {d : Nat} {σ σ2 : js_S} {x1 x2 z1 b : Int} (hb : b = 0 ∨ b = 25) {w : Int} (hd : 1 ≤ d) (hz : js_J E (d - 1) 67 0 [(2, 7 + b), (0, z1)] [] σ = js_t E w σ2) : js_J E d 123 8 [(2, 0), (0, x1), (0, x2), (9, 0)] [(0, z1), (2, 7 + b)] σ = js_t E w σ2 :=
  j_callT (m := 0) (js_caV q_123_8 (js_Mo qy_123 qm_0_74)) (js_agV (av := [(0, z1)]) (st := []) rfl rfl (js_o7b hb) rfl) rfl rfl (by rw [ql_67]; exact Nat.le_of_ble_eq_true rfl) (Nat.le_of_ble_eq_true rfl) hd rfl hz
theorem b_123_11 {E : js_E} {d : Nat} {σ : js_S} {x1 x2 z0 : Int} : js_J E d 123 11 [(2, 0), (0, x1), (0, x2), (9, 0)] [(2, z0)] σ = (if z0 < 0 then js_J E d 123 25 [(2, 0), (0, x1), (0, x2), (2, z0)] [(0, (-1))] σ else js_J E d 123 20 [(2, 0), (0, x1), (0, x2), (2, z0)] [] σ) :=
  (j_astore_n (l2 := [(2, 0), (0, x1), (0, x2), (2, z0)]) q_123_11 rfl (Nat.le_of_ble_eq_true rfl)).trans <| (j_aload_n q_123_12 rfl).trans <| (j_ifnonnull (t := 20) q_123_13 rfl).trans (js_ite ((j_iconst q_123_16).trans <| (j_goto (t := 25) q_123_17 rfl).trans <| rfl) (rfl))
theorem b_123_20 {E : js_E} {d : Nat} {σ : js_S} {x1 x2 x3 : Int} : js_J E d 123 20 [(2, 0), (0, x1), (0, x2), (2, x3)] [] σ = js_J E d 123 22 [(2, 0), (0, x1), (0, x2), (2, x3)] [(0, x2), (2, x3)] σ :=
  (j_aload_n q_123_20 rfl).trans <| (j_iload_n q_123_21 rfl).trans <| rfl
theorem k_123_22 {E : js_E} {d : Nat} {σ σ2 : js_S} {x1 x2 x3 z0 z1 : Int} (hs_z0 : js_desc E.1 σ z0 = some (0, 11, js_sym)) {v : Int} (hd : 1 ≤ d) (hz : js_J E (d - 1) 124 0 [(2, z0), (0, z1)] [] σ = js_r E (0, v) σ2) : js_J E d 123 22 [(2, 0), (0, x1), (0, x2), (2, x3)] [(0, z1), (2, z0)] σ = js_J E d 123 25 [(2, 0), (0, x1), (0, x2), (2, x3)] [(0, v)] σ2 :=
  j_call (m := 0) (js_caV q_123_22 (js_Mo qy_123 qm_0_80)) (js_agV (av := [(0, z1)]) (st := []) rfl rfl hs_z0 rfl) rfl rfl (by rw [ql_124]; exact Nat.le_of_ble_eq_true rfl) (Nat.le_of_ble_eq_true rfl) hd hz
theorem kt_123_22 {E : js_E} {d : Nat} {σ σ2 : js_S} {x1 x2 x3 z0 z1 : Int} (hs_z0 : js_desc E.1 σ z0 = some (0, 11, js_sym)) {w : Int} (hd : 1 ≤ d) (hz : js_J E (d - 1) 124 0 [(2, z0), (0, z1)] [] σ = js_t E w σ2) : js_J E d 123 22 [(2, 0), (0, x1), (0, x2), (2, x3)] [(0, z1), (2, z0)] σ = js_t E w σ2 :=
  j_callT (m := 0) (js_caV q_123_22 (js_Mo qy_123 qm_0_80)) (js_agV (av := [(0, z1)]) (st := []) rfl rfl hs_z0 rfl) rfl rfl (by rw [ql_124]; exact Nat.le_of_ble_eq_true rfl) (Nat.le_of_ble_eq_true rfl) hd rfl hz
theorem b_123_25 {E : js_E} {d : Nat} {σ : js_S} {x1 x2 x3 z0 : Int} : js_J E d 123 25 [(2, 0), (0, x1), (0, x2), (2, x3)] [(0, z0)] σ = js_r E (0, z0) σ :=
  j_ireturn q_123_25 qr_123
-- 124: VitalTwin$Symbol.answer (I)I
theorem b_124_0 {E : js_E} {d : Nat} {σ : js_S} {x0 x1 : Int} : js_J E d 124 0 [(2, x0), (0, x1)] [] σ = js_J E d 124 1 [(2, x0), (0, x1)] [(0, x1)] σ :=
  (j_iload_n q_124_0 rfl).trans <| rfl
theorem s_124_1_0 {E : js_E} {d : Nat} {σ : js_S} {x0 x1 z0 : Int} (h : js_w z0 = 0) : js_J E d 124 1 [(2, x0), (0, x1)] [(0, z0)] σ = js_J E d 124 52 [(2, x0), (0, x1)] [] σ :=
  j_tsw (t := 52) (off := 51) q_124_1 (by rw [h]; decide) (by rw [h]; decide) (by rw [h]; rfl) rfl
theorem s_124_1_1 {E : js_E} {d : Nat} {σ : js_S} {x0 x1 z0 : Int} (h : js_w z0 = 1) : js_J E d 124 1 [(2, x0), (0, x1)] [(0, z0)] σ = js_J E d 124 57 [(2, x0), (0, x1)] [] σ :=
  j_tsw (t := 57) (off := 56) q_124_1 (by rw [h]; decide) (by rw [h]; decide) (by rw [h]; rfl) rfl
theorem s_124_1_2 {E : js_E} {d : Nat} {σ : js_S} {x0 x1 z0 : Int} (h : js_w z0 = 2) : js_J E d 124 1 [(2, x0), (0, x1)] [(0, z0)] σ = js_J E d 124 62 [(2, x0), (0, x1)] [] σ :=
  j_tsw (t := 62) (off := 61) q_124_1 (by rw [h]; decide) (by rw [h]; decide) (by rw [h]; rfl) rfl
theorem s_124_1_3 {E : js_E} {d : Nat} {σ : js_S} {x0 x1 z0 : Int} (h : js_w z0 = 3) : js_J E d 124 1 [(2, x0), (0, x1)] [(0, z0)] σ = js_J E d 124 67 [(2, x0), (0, x1)] [] σ :=
  j_tsw (t := 67) (off := 66) q_124_1 (by rw [h]; decide) (by rw [h]; decide) (by rw [h]; rfl) rfl
theorem s_124_1_4 {E : js_E} {d : Nat} {σ : js_S} {x0 x1 z0 : Int} (h : js_w z0 = 4) : js_J E d 124 1 [(2, x0), (0, x1)] [(0, z0)] σ = js_J E d 124 72 [(2, x0), (0, x1)] [] σ :=
  j_tsw (t := 72) (off := 71) q_124_1 (by rw [h]; decide) (by rw [h]; decide) (by rw [h]; rfl) rfl
theorem s_124_1_5 {E : js_E} {d : Nat} {σ : js_S} {x0 x1 z0 : Int} (h : js_w z0 = 5) : js_J E d 124 1 [(2, x0), (0, x1)] [(0, z0)] σ = js_J E d 124 77 [(2, x0), (0, x1)] [] σ :=
  j_tsw (t := 77) (off := 76) q_124_1 (by rw [h]; decide) (by rw [h]; decide) (by rw [h]; rfl) rfl
theorem s_124_1_6 {E : js_E} {d : Nat} {σ : js_S} {x0 x1 z0 : Int} (h : js_w z0 = 6) : js_J E d 124 1 [(2, x0), (0, x1)] [(0, z0)] σ = js_J E d 124 82 [(2, x0), (0, x1)] [] σ :=
  j_tsw (t := 82) (off := 81) q_124_1 (by rw [h]; decide) (by rw [h]; decide) (by rw [h]; rfl) rfl
theorem s_124_1_7 {E : js_E} {d : Nat} {σ : js_S} {x0 x1 z0 : Int} (h : js_w z0 = 7) : js_J E d 124 1 [(2, x0), (0, x1)] [(0, z0)] σ = js_J E d 124 87 [(2, x0), (0, x1)] [] σ :=
  j_tsw (t := 87) (off := 86) q_124_1 (by rw [h]; decide) (by rw [h]; decide) (by rw [h]; rfl) rfl
theorem s_124_1_8 {E : js_E} {d : Nat} {σ : js_S} {x0 x1 z0 : Int} (h : js_w z0 = 8) : js_J E d 124 1 [(2, x0), (0, x1)] [(0, z0)] σ = js_J E d 124 92 [(2, x0), (0, x1)] [] σ :=
  j_tsw (t := 92) (off := 91) q_124_1 (by rw [h]; decide) (by rw [h]; decide) (by rw [h]; rfl) rfl
theorem s_124_1_d {E : js_E} {d : Nat} {σ : js_S} {x0 x1 z0 : Int} (h : js_w z0 < 0 ∨ 8 < js_w z0) : js_J E d 124 1 [(2, x0), (0, x1)] [(0, z0)] σ = js_J E d 124 97 [(2, x0), (0, x1)] [] σ :=
  j_tswd (t := 97) q_124_1 h rfl
theorem b_124_52 {E : js_E} {d : Nat} {σ : js_S} {x0 x1 : Int} (hs_x0 : js_desc E.1 σ x0 = some (0, 11, js_sym)) : js_J E d 124 52 [(2, x0), (0, x1)] [] σ = js_r E (0, σ x0 1) σ :=
  (j_aload_n q_124_52 rfl).trans <| (j_get (ji := 1) (v := (0, σ x0 1)) q_124_53 (js_Fo qy_124 qf_11_15) hs_x0 rfl rfl rfl rfl).trans <| j_ireturn q_124_56 qr_124
theorem b_124_57 {E : js_E} {d : Nat} {σ : js_S} {x0 x1 : Int} (hs_x0 : js_desc E.1 σ x0 = some (0, 11, js_sym)) : js_J E d 124 57 [(2, x0), (0, x1)] [] σ = js_r E (0, σ x0 2) σ :=
  (j_aload_n q_124_57 rfl).trans <| (j_get (ji := 2) (v := (0, σ x0 2)) q_124_58 (js_Fo qy_124 qf_11_18) hs_x0 rfl rfl rfl rfl).trans <| j_ireturn q_124_61 qr_124
theorem b_124_62 {E : js_E} {d : Nat} {σ : js_S} {x0 x1 : Int} (hs_x0 : js_desc E.1 σ x0 = some (0, 11, js_sym)) : js_J E d 124 62 [(2, x0), (0, x1)] [] σ = js_r E (0, σ x0 3) σ :=
  (j_aload_n q_124_62 rfl).trans <| (j_get (ji := 3) (v := (0, σ x0 3)) q_124_63 (js_Fo qy_124 qf_11_21) hs_x0 rfl rfl rfl rfl).trans <| j_ireturn q_124_66 qr_124
theorem b_124_67 {E : js_E} {d : Nat} {σ : js_S} {x0 x1 : Int} (hs_x0 : js_desc E.1 σ x0 = some (0, 11, js_sym)) : js_J E d 124 67 [(2, x0), (0, x1)] [] σ = js_r E (0, σ x0 4) σ :=
  (j_aload_n q_124_67 rfl).trans <| (j_get (ji := 4) (v := (0, σ x0 4)) q_124_68 (js_Fo qy_124 qf_11_24) hs_x0 rfl rfl rfl rfl).trans <| j_ireturn q_124_71 qr_124
theorem b_124_72 {E : js_E} {d : Nat} {σ : js_S} {x0 x1 : Int} (hs_x0 : js_desc E.1 σ x0 = some (0, 11, js_sym)) : js_J E d 124 72 [(2, x0), (0, x1)] [] σ = js_r E (0, σ x0 5) σ :=
  (j_aload_n q_124_72 rfl).trans <| (j_get (ji := 5) (v := (0, σ x0 5)) q_124_73 (js_Fo qy_124 qf_11_27) hs_x0 rfl rfl rfl rfl).trans <| j_ireturn q_124_76 qr_124
theorem b_124_77 {E : js_E} {d : Nat} {σ : js_S} {x0 x1 : Int} (hs_x0 : js_desc E.1 σ x0 = some (0, 11, js_sym)) : js_J E d 124 77 [(2, x0), (0, x1)] [] σ = js_r E (0, σ x0 6) σ :=
  (j_aload_n q_124_77 rfl).trans <| (j_get (ji := 6) (v := (0, σ x0 6)) q_124_78 (js_Fo qy_124 qf_11_30) hs_x0 rfl rfl rfl rfl).trans <| j_ireturn q_124_81 qr_124
theorem b_124_82 {E : js_E} {d : Nat} {σ : js_S} {x0 x1 : Int} (hs_x0 : js_desc E.1 σ x0 = some (0, 11, js_sym)) : js_J E d 124 82 [(2, x0), (0, x1)] [] σ = js_r E (0, σ x0 7) σ :=
  (j_aload_n q_124_82 rfl).trans <| (j_get (ji := 7) (v := (0, σ x0 7)) q_124_83 (js_Fo qy_124 qf_11_33) hs_x0 rfl rfl rfl rfl).trans <| j_ireturn q_124_86 qr_124
theorem b_124_87 {E : js_E} {d : Nat} {σ : js_S} {x0 x1 : Int} (hs_x0 : js_desc E.1 σ x0 = some (0, 11, js_sym)) : js_J E d 124 87 [(2, x0), (0, x1)] [] σ = js_r E (0, σ x0 8) σ :=
  (j_aload_n q_124_87 rfl).trans <| (j_get (ji := 8) (v := (0, σ x0 8)) q_124_88 (js_Fo qy_124 qf_11_36) hs_x0 rfl rfl rfl rfl).trans <| j_ireturn q_124_91 qr_124
theorem b_124_92 {E : js_E} {d : Nat} {σ : js_S} {x0 x1 : Int} (hs_x0 : js_desc E.1 σ x0 = some (0, 11, js_sym)) : js_J E d 124 92 [(2, x0), (0, x1)] [] σ = js_r E (0, σ x0 9) σ :=
  (j_aload_n q_124_92 rfl).trans <| (j_get (ji := 9) (v := (0, σ x0 9)) q_124_93 (js_Fo qy_124 qf_11_39) hs_x0 rfl rfl rfl rfl).trans <| j_ireturn q_124_96 qr_124
theorem b_124_97 {E : js_E} {d : Nat} {σ : js_S} {x0 x1 : Int} : js_J E d 124 97 [(2, x0), (0, x1)] [] σ = js_r E (0, (-1)) σ :=
  (j_iconst q_124_97).trans <| j_ireturn q_124_98 qr_124
-- 125: VitalTwin.name (II)I
theorem b_125_0 {E : js_E} {d : Nat} {σ : js_S} {x1 x2 b : Int} (hb : b = 0 ∨ b = 25) (h4 : σ 0 4 = 6 + b) : js_J E d 125 0 [(2, 0), (0, x1), (0, x2)] [] σ = js_J E d 125 9 [(2, 0), (0, x1), (0, x2)] [(0, x2), (0, x1), (2, 7 + b)] σ :=
  (j_aload_n q_125_0 rfl).trans <| (j_get (ji := 4) (v := (2, 6 + b)) q_125_1 (js_Fo qy_125 qf_0_30) js_o0 rfl rfl rfl (congrArg (Prod.mk 2) h4)).trans <| (j_get (ji := 0) (v := (2, 7 + b)) q_125_4 (js_Fo qy_125 qf_0_39) (js_o6b hb) rfl rfl rfl rfl).trans <| (j_iload_n q_125_7 rfl).trans <| (j_iload_n q_125_8 rfl).trans <| rfl
theorem k_125_9 {E : js_E} {d : Nat} {σ σ2 : js_S} {x1 x2 z1 z2 b : Int} (hb : b = 0 ∨ b = 25) {v : Int} (hd : 1 ≤ d) (hz : js_J E (d - 1) 126 0 [(2, 7 + b), (0, z1), (0, z2), (9, 0)] [] σ = js_r E (0, v) σ2) : js_J E d 125 9 [(2, 0), (0, x1), (0, x2)] [(0, z2), (0, z1), (2, 7 + b)] σ = js_J E d 125 12 [(2, 0), (0, x1), (0, x2)] [(0, v)] σ2 :=
  j_call (m := 1) (js_caV q_125_9 (js_Mo qy_125 qm_0_86)) (js_agV (av := [(0, z1), (0, z2)]) (st := []) rfl rfl (js_o7b hb) rfl) rfl rfl (by rw [ql_126]; exact Nat.le_of_ble_eq_true rfl) (Nat.le_of_ble_eq_true rfl) hd hz
theorem kt_125_9 {E : js_E} {d : Nat} {σ σ2 : js_S} {x1 x2 z1 z2 b : Int} (hb : b = 0 ∨ b = 25) {w : Int} (hd : 1 ≤ d) (hz : js_J E (d - 1) 126 0 [(2, 7 + b), (0, z1), (0, z2), (9, 0)] [] σ = js_t E w σ2) : js_J E d 125 9 [(2, 0), (0, x1), (0, x2)] [(0, z2), (0, z1), (2, 7 + b)] σ = js_t E w σ2 :=
  j_callT (m := 1) (js_caV q_125_9 (js_Mo qy_125 qm_0_86)) (js_agV (av := [(0, z1), (0, z2)]) (st := []) rfl rfl (js_o7b hb) rfl) rfl rfl (by rw [ql_126]; exact Nat.le_of_ble_eq_true rfl) (Nat.le_of_ble_eq_true rfl) hd rfl hz
theorem b_125_12 {E : js_E} {d : Nat} {σ : js_S} {x1 x2 z0 : Int} : js_J E d 125 12 [(2, 0), (0, x1), (0, x2)] [(0, z0)] σ = js_r E (0, z0) σ :=
  j_ireturn q_125_12 qr_125
-- 126: VitalTwin$Program.signOfName (II)I
theorem b_126_0 {E : js_E} {d : Nat} {σ : js_S} {x1 x2 b : Int} : js_J E d 126 0 [(2, 7 + b), (0, x1), (0, x2), (9, 0)] [] σ = js_J E d 126 2 [(2, 7 + b), (0, x1), (0, x2), (9, 0)] [(0, x1), (2, 7 + b)] σ :=
  (j_aload_n q_126_0 rfl).trans <| (j_iload_n q_126_1 rfl).trans <| rfl
theorem k_126_2 {E : js_E} {d : Nat} {σ σ2 : js_S} {x1 x2 z1 b : Int} (hb : b = 0 ∨ b = 25) {v : Int} (hd : 1 ≤ d) (hz : js_J E (d - 1) 67 0 [(2, 7 + b), (0, z1)] [] σ = js_r E (2, v) σ2) : js_J E d 126 2 [(2, 7 + b), (0, x1), (0, x2), (9, 0)] [(0, z1), (2, 7 + b)] σ = js_J E d 126 5 [(2, 7 + b), (0, x1), (0, x2), (9, 0)] [(2, v)] σ2 :=
  j_call (m := 0) (js_caV q_126_2 (js_Mo qy_126 qm_7_50)) (js_agV (av := [(0, z1)]) (st := []) rfl rfl (js_o7b hb) rfl) rfl rfl (by rw [ql_67]; exact Nat.le_of_ble_eq_true rfl) (Nat.le_of_ble_eq_true rfl) hd hz
theorem kt_126_2 {E : js_E} {d : Nat} {σ σ2 : js_S} {x1 x2 z1 b : Int} (hb : b = 0 ∨ b = 25) {w : Int} (hd : 1 ≤ d) (hz : js_J E (d - 1) 67 0 [(2, 7 + b), (0, z1)] [] σ = js_t E w σ2) : js_J E d 126 2 [(2, 7 + b), (0, x1), (0, x2), (9, 0)] [(0, z1), (2, 7 + b)] σ = js_t E w σ2 :=
  j_callT (m := 0) (js_caV q_126_2 (js_Mo qy_126 qm_7_50)) (js_agV (av := [(0, z1)]) (st := []) rfl rfl (js_o7b hb) rfl) rfl rfl (by rw [ql_67]; exact Nat.le_of_ble_eq_true rfl) (Nat.le_of_ble_eq_true rfl) hd rfl hz
theorem b_126_5 {E : js_E} {d : Nat} {σ : js_S} {x1 x2 z0 b : Int} : js_J E d 126 5 [(2, 7 + b), (0, x1), (0, x2), (9, 0)] [(2, z0)] σ = (if z0 < 0 then js_r E (0, (-1)) σ else js_J E d 126 10 [(2, 7 + b), (0, x1), (0, x2), (2, z0)] [] σ) :=
  (j_astore_n (l2 := [(2, 7 + b), (0, x1), (0, x2), (2, z0)]) q_126_5 rfl (Nat.le_of_ble_eq_true rfl)).trans <| (j_aload_n q_126_6 rfl).trans <| (j_ifnull (t := 22) q_126_7 rfl).trans (js_ite ((j_iconst q_126_22).trans <| (j_goto (t := 40) q_126_23 rfl).trans <| j_ireturn q_126_40 qr_126) (rfl))
theorem b_126_10 {E : js_E} {d : Nat} {σ : js_S} {x1 x2 x3 b : Int} (hs_x3 : js_desc E.1 σ x3 = some (0, 11, js_sym)) (hb : b = 0 ∨ b = 25) : js_J E d 126 10 [(2, 7 + b), (0, x1), (0, x2), (2, x3)] [] σ = (if js_w x2 < 0 then js_r E (0, (-1)) σ else (if js_w x2 < js_w (σ x3 14) then (if 0 ≤ js_w (((σ x3 0) * 20) + x2) ∧ js_w (((σ x3 0) * 20) + x2) < 8000 then js_r E (0, σ (20 + b) (js_w (((σ x3 0) * 20) + x2))) σ else none) else js_r E (0, (-1)) σ)) :=
  (j_iload_n q_126_10 rfl).trans <| (j_iflt (t := 22) q_126_11 rfl).trans (js_ite ((j_iconst q_126_22).trans <| (j_goto (t := 40) q_126_23 rfl).trans <| j_ireturn q_126_40 qr_126) ((j_iload_n q_126_14 rfl).trans <| (j_aload_n q_126_15 rfl).trans <| (j_get (ji := 14) (v := (0, σ x3 14)) q_126_16 (js_Fo qy_126 qf_7_54) hs_x3 rfl rfl rfl rfl).trans <| (j_cmplt (t := 26) q_126_19 rfl).trans (js_ite ((j_aload_n q_126_26 rfl).trans <| (j_get (ji := 8) (v := (2, 20 + b)) q_126_27 (js_Fo qy_126 qf_7_24) (js_o7b hb) rfl rfl rfl rfl).trans <| (j_aload_n q_126_30 rfl).trans <| (j_get (ji := 0) (v := (0, σ x3 0)) q_126_31 (js_Fo qy_126 qf_7_57) hs_x3 rfl rfl rfl rfl).trans <| (j_bi q_126_34 rfl).trans <| (j_imul q_126_36).trans <| (j_iload_n q_126_37 rfl).trans <| (j_iadd q_126_38).trans <| (j_baload q_126_39 (js_o20b hb)).trans <| js_itp fun g0 => j_ireturn q_126_40 qr_126) ((j_iconst q_126_22).trans <| (j_goto (t := 40) q_126_23 rfl).trans <| j_ireturn q_126_40 qr_126))))
-- 127: VitalTwin.code (II)I
theorem b_127_0 {E : js_E} {d : Nat} {σ : js_S} {x1 x2 b : Int} (hb : b = 0 ∨ b = 25) (h4 : σ 0 4 = 6 + b) : js_J E d 127 0 [(2, 0), (0, x1), (0, x2), (9, 0)] [] σ = js_J E d 127 13 [(2, 0), (0, x1), (0, x2), (2, 8 + b)] [(0, x1), (2, 8 + b)] σ :=
  (j_aload_n q_127_0 rfl).trans <| (j_get (ji := 4) (v := (2, 6 + b)) q_127_1 (js_Fo qy_127 qf_0_30) js_o0 rfl rfl rfl (congrArg (Prod.mk 2) h4)).trans <| (j_get (ji := 0) (v := (2, 7 + b)) q_127_4 (js_Fo qy_127 qf_0_39) (js_o6b hb) rfl rfl rfl rfl).trans <| (j_get (ji := 0) (v := (2, 8 + b)) q_127_7 (js_Fo qy_127 qf_0_89) (js_o7b hb) rfl rfl rfl rfl).trans <| (j_astore_n (l2 := [(2, 0), (0, x1), (0, x2), (2, 8 + b)]) q_127_10 rfl (Nat.le_of_ble_eq_true rfl)).trans <| (j_aload_n q_127_11 rfl).trans <| (j_iload_n q_127_12 rfl).trans <| rfl
theorem k_127_13 {E : js_E} {d : Nat} {σ σ2 : js_S} {x1 x2 z1 b : Int} (hb : b = 0 ∨ b = 25) {v : Int} (hd : 1 ≤ d) (hz : js_J E (d - 1) 92 0 [(2, 8 + b), (0, z1)] [] σ = js_r E (0, v) σ2) : js_J E d 127 13 [(2, 0), (0, x1), (0, x2), (2, 8 + b)] [(0, z1), (2, 8 + b)] σ = js_J E d 127 16 [(2, 0), (0, x1), (0, x2), (2, 8 + b)] [(0, v)] σ2 :=
  j_call (m := 0) (js_caV q_127_13 (js_Mo qy_127 qm_0_93)) (js_agV (av := [(0, z1)]) (st := []) rfl rfl (js_o8b hb) rfl) rfl rfl (by rw [ql_92]; exact Nat.le_of_ble_eq_true rfl) (Nat.le_of_ble_eq_true rfl) hd hz
theorem kt_127_13 {E : js_E} {d : Nat} {σ σ2 : js_S} {x1 x2 z1 b : Int} (hb : b = 0 ∨ b = 25) {w : Int} (hd : 1 ≤ d) (hz : js_J E (d - 1) 92 0 [(2, 8 + b), (0, z1)] [] σ = js_t E w σ2) : js_J E d 127 13 [(2, 0), (0, x1), (0, x2), (2, 8 + b)] [(0, z1), (2, 8 + b)] σ = js_t E w σ2 :=
  j_callT (m := 0) (js_caV q_127_13 (js_Mo qy_127 qm_0_93)) (js_agV (av := [(0, z1)]) (st := []) rfl rfl (js_o8b hb) rfl) rfl rfl (by rw [ql_92]; exact Nat.le_of_ble_eq_true rfl) (Nat.le_of_ble_eq_true rfl) hd rfl hz
theorem b_127_16 {E : js_E} {d : Nat} {σ : js_S} {x1 x2 z0 b : Int} : js_J E d 127 16 [(2, 0), (0, x1), (0, x2), (2, 8 + b)] [(0, z0)] σ = (if js_w z0 = 0 then js_r E (0, (-1)) σ else js_J E d 127 22 [(2, 0), (0, x1), (0, x2), (2, 8 + b)] [(0, x2)] σ) :=
  (j_ifne (t := 21) q_127_16 rfl).trans (js_ite ((j_iconst q_127_19).trans <| j_ireturn q_127_20 qr_127) ((j_iload_n q_127_21 rfl).trans <| rfl))
theorem s_127_22_0 {E : js_E} {d : Nat} {σ : js_S} {x1 x2 z0 b : Int} (h : js_w z0 = 0) : js_J E d 127 22 [(2, 0), (0, x1), (0, x2), (2, 8 + b)] [(0, z0)] σ = js_J E d 127 48 [(2, 0), (0, x1), (0, x2), (2, 8 + b)] [] σ :=
  j_tsw (t := 48) (off := 26) q_127_22 (by rw [h]; decide) (by rw [h]; decide) (by rw [h]; rfl) rfl
theorem s_127_22_1 {E : js_E} {d : Nat} {σ : js_S} {x1 x2 z0 b : Int} (h : js_w z0 = 1) : js_J E d 127 22 [(2, 0), (0, x1), (0, x2), (2, 8 + b)] [(0, z0)] σ = js_J E d 127 55 [(2, 0), (0, x1), (0, x2), (2, 8 + b)] [] σ :=
  j_tsw (t := 55) (off := 33) q_127_22 (by rw [h]; decide) (by rw [h]; decide) (by rw [h]; rfl) rfl
theorem s_127_22_2 {E : js_E} {d : Nat} {σ : js_S} {x1 x2 z0 b : Int} (h : js_w z0 = 2) : js_J E d 127 22 [(2, 0), (0, x1), (0, x2), (2, 8 + b)] [(0, z0)] σ = js_J E d 127 62 [(2, 0), (0, x1), (0, x2), (2, 8 + b)] [] σ :=
  j_tsw (t := 62) (off := 40) q_127_22 (by rw [h]; decide) (by rw [h]; decide) (by rw [h]; rfl) rfl
theorem s_127_22_d {E : js_E} {d : Nat} {σ : js_S} {x1 x2 z0 b : Int} (h : js_w z0 < 0 ∨ 2 < js_w z0) : js_J E d 127 22 [(2, 0), (0, x1), (0, x2), (2, 8 + b)] [(0, z0)] σ = js_J E d 127 69 [(2, 0), (0, x1), (0, x2), (2, 8 + b)] [] σ :=
  j_tswd (t := 69) q_127_22 h rfl
theorem b_127_48 {E : js_E} {d : Nat} {σ : js_S} {x1 x2 b : Int} (hb : b = 0 ∨ b = 25) : js_J E d 127 48 [(2, 0), (0, x1), (0, x2), (2, 8 + b)] [] σ = (if 0 ≤ js_w x1 ∧ js_w x1 < 8192 then js_r E (0, σ (9 + b) (js_w x1)) σ else none) :=
  (j_aload_n q_127_48 rfl).trans <| (j_get (ji := 0) (v := (2, 9 + b)) q_127_49 (js_Fo qy_127 qf_0_99) (js_o8b hb) rfl rfl rfl rfl).trans <| (j_iload_n q_127_52 rfl).trans <| (j_iaload q_127_53 (js_o9b hb)).trans <| js_itp fun g0 => j_ireturn q_127_54 qr_127
theorem b_127_55 {E : js_E} {d : Nat} {σ : js_S} {x1 x2 b : Int} (hb : b = 0 ∨ b = 25) : js_J E d 127 55 [(2, 0), (0, x1), (0, x2), (2, 8 + b)] [] σ = (if 0 ≤ js_w x1 ∧ js_w x1 < 8192 then js_r E (0, σ (10 + b) (js_w x1)) σ else none) :=
  (j_aload_n q_127_55 rfl).trans <| (j_get (ji := 1) (v := (2, 10 + b)) q_127_56 (js_Fo qy_127 qf_0_103) (js_o8b hb) rfl rfl rfl rfl).trans <| (j_iload_n q_127_59 rfl).trans <| (j_iaload q_127_60 (js_o10b hb)).trans <| js_itp fun g0 => j_ireturn q_127_61 qr_127
theorem b_127_62 {E : js_E} {d : Nat} {σ : js_S} {x1 x2 b : Int} (hb : b = 0 ∨ b = 25) : js_J E d 127 62 [(2, 0), (0, x1), (0, x2), (2, 8 + b)] [] σ = (if 0 ≤ js_w x1 ∧ js_w x1 < 8192 then js_r E (0, σ (11 + b) (js_w x1)) σ else none) :=
  (j_aload_n q_127_62 rfl).trans <| (j_get (ji := 2) (v := (2, 11 + b)) q_127_63 (js_Fo qy_127 qf_0_106) (js_o8b hb) rfl rfl rfl rfl).trans <| (j_iload_n q_127_66 rfl).trans <| (j_iaload q_127_67 (js_o11b hb)).trans <| js_itp fun g0 => j_ireturn q_127_68 qr_127
theorem b_127_69 {E : js_E} {d : Nat} {σ : js_S} {x1 x2 b : Int} : js_J E d 127 69 [(2, 0), (0, x1), (0, x2), (2, 8 + b)] [] σ = js_r E (0, (-1)) σ :=
  (j_iconst q_127_69).trans <| j_ireturn q_127_70 qr_127
-- 128: VitalTwin.text (III)I
theorem b_128_0 {E : js_E} {d : Nat} {σ : js_S} {x1 x2 x3 b : Int} (hb : b = 0 ∨ b = 25) (h4 : σ 0 4 = 6 + b) : js_J E d 128 0 [(2, 0), (0, x1), (0, x2), (0, x3), (9, 0)] [] σ = (if js_w x1 < 0 then js_r E (0, (-1)) σ else (if 1 < js_w x1 then js_r E (0, (-1)) σ else js_J E d 128 24 [(2, 0), (0, x1), (0, x2), (0, x3), (2, 8 + b)] [(0, x2), (2, 8 + b)] σ)) :=
  (j_aload_n q_128_0 rfl).trans <| (j_get (ji := 4) (v := (2, 6 + b)) q_128_1 (js_Fo qy_128 qf_0_30) js_o0 rfl rfl rfl (congrArg (Prod.mk 2) h4)).trans <| (j_get (ji := 0) (v := (2, 7 + b)) q_128_4 (js_Fo qy_128 qf_0_39) (js_o6b hb) rfl rfl rfl rfl).trans <| (j_get (ji := 0) (v := (2, 8 + b)) q_128_7 (js_Fo qy_128 qf_0_89) (js_o7b hb) rfl rfl rfl rfl).trans <| (j_astore (l2 := [(2, 0), (0, x1), (0, x2), (0, x3), (2, 8 + b)]) q_128_10 rfl (Nat.le_of_ble_eq_true rfl)).trans <| (j_iload_n q_128_12 rfl).trans <| (j_iflt (t := 30) q_128_13 rfl).trans (js_ite ((j_iconst q_128_30).trans <| j_ireturn q_128_31 qr_128) ((j_iload_n q_128_16 rfl).trans <| (j_iconst q_128_17).trans <| (j_cmpgtB (t := 30) q_128_18 rfl ww_1).trans (js_ite ((j_iconst q_128_30).trans <| j_ireturn q_128_31 qr_128) ((j_aload q_128_21 rfl).trans <| (j_iload_n q_128_23 rfl).trans <| rfl))))
theorem k_128_24 {E : js_E} {d : Nat} {σ σ2 : js_S} {x1 x2 x3 z1 b : Int} (hb : b = 0 ∨ b = 25) {v : Int} (hd : 1 ≤ d) (hz : js_J E (d - 1) 92 0 [(2, 8 + b), (0, z1)] [] σ = js_r E (0, v) σ2) : js_J E d 128 24 [(2, 0), (0, x1), (0, x2), (0, x3), (2, 8 + b)] [(0, z1), (2, 8 + b)] σ = js_J E d 128 27 [(2, 0), (0, x1), (0, x2), (0, x3), (2, 8 + b)] [(0, v)] σ2 :=
  j_call (m := 0) (js_caV q_128_24 (js_Mo qy_128 qm_0_93)) (js_agV (av := [(0, z1)]) (st := []) rfl rfl (js_o8b hb) rfl) rfl rfl (by rw [ql_92]; exact Nat.le_of_ble_eq_true rfl) (Nat.le_of_ble_eq_true rfl) hd hz
theorem kt_128_24 {E : js_E} {d : Nat} {σ σ2 : js_S} {x1 x2 x3 z1 b : Int} (hb : b = 0 ∨ b = 25) {w : Int} (hd : 1 ≤ d) (hz : js_J E (d - 1) 92 0 [(2, 8 + b), (0, z1)] [] σ = js_t E w σ2) : js_J E d 128 24 [(2, 0), (0, x1), (0, x2), (0, x3), (2, 8 + b)] [(0, z1), (2, 8 + b)] σ = js_t E w σ2 :=
  j_callT (m := 0) (js_caV q_128_24 (js_Mo qy_128 qm_0_93)) (js_agV (av := [(0, z1)]) (st := []) rfl rfl (js_o8b hb) rfl) rfl rfl (by rw [ql_92]; exact Nat.le_of_ble_eq_true rfl) (Nat.le_of_ble_eq_true rfl) hd rfl hz
theorem b_128_27 {E : js_E} {d : Nat} {σ : js_S} {x1 x2 x3 z0 b : Int} (hb : b = 0 ∨ b = 25) : js_J E d 128 27 [(2, 0), (0, x1), (0, x2), (0, x3), (2, 8 + b)] [(0, z0)] σ = (if js_w z0 = 0 then js_r E (0, (-1)) σ else (if 0 ≤ js_w x2 ∧ js_w x2 < 8192 then (if js_w x1 = 0 then js_J E d 128 65 [(2, 0), (0, x1), (0, x2), (0, x3), (2, 8 + b)] [(1, 1), (0, σ (11 + b) (js_w x2)), (0, σ (10 + b) (js_w x2)), (0, σ (9 + b) (js_w x2)), (2, 0)] σ else js_J E d 128 65 [(2, 0), (0, x1), (0, x2), (0, x3), (2, 8 + b)] [(1, 58659), (0, σ (11 + b) (js_w x2)), (0, σ (10 + b) (js_w x2)), (0, σ (9 + b) (js_w x2)), (2, 0)] σ) else none)) :=
  (j_ifne (t := 32) q_128_27 rfl).trans (js_ite ((j_iconst q_128_30).trans <| j_ireturn q_128_31 qr_128) ((j_aload_n q_128_32 rfl).trans <| (j_aload q_128_33 rfl).trans <| (j_get (ji := 0) (v := (2, 9 + b)) q_128_35 (js_Fo qy_128 qf_0_99) (js_o8b hb) rfl rfl rfl rfl).trans <| (j_iload_n q_128_38 rfl).trans <| (j_iaload q_128_39 (js_o9b hb)).trans <| js_itp fun g0 => (j_aload q_128_40 rfl).trans <| (j_get (ji := 1) (v := (2, 10 + b)) q_128_42 (js_Fo qy_128 qf_0_103) (js_o8b hb) rfl rfl rfl rfl).trans <| (j_iload_n q_128_45 rfl).trans <| (j_iaload q_128_46 (js_o10b hb)).trans <| (if_pos g0).trans <| (j_aload q_128_47 rfl).trans <| (j_get (ji := 2) (v := (2, 11 + b)) q_128_49 (js_Fo qy_128 qf_0_106) (js_o8b hb) rfl rfl rfl rfl).trans <| (j_iload_n q_128_52 rfl).trans <| (j_iaload q_128_53 (js_o11b hb)).trans <| (if_pos g0).trans <| (j_iload_n q_128_54 rfl).trans <| (j_ifne (t := 62) q_128_55 rfl).trans (js_ite ((j_lconst1 q_128_58).trans <| (j_goto (t := 65) q_128_59 rfl).trans <| rfl) ((j_ldc2 (v := (1, 58659)) q_128_62 (js_Co qy_128 qc_0_122)).trans <| rfl))))
theorem k_128_65 {E : js_E} {d : Nat} {σ σ2 : js_S} {x1 x2 x3 z1 z2 z3 z4 b : Int} (hd : 1 ≤ d) (hz : js_J E (d - 1) 129 0 [(2, 0), (0, z1), (0, z2), (0, z3), (1, z4), (9, 0), (9, 0), (9, 0)] [] σ = js_r0 E σ2) : js_J E d 128 65 [(2, 0), (0, x1), (0, x2), (0, x3), (2, 8 + b)] [(1, z4), (0, z3), (0, z2), (0, z1), (2, 0)] σ = js_J E d 128 68 [(2, 0), (0, x1), (0, x2), (0, x3), (2, 8 + b)] [] σ2 :=
  j_call0 (m := 2) (js_caV q_128_65 (js_Mo qy_128 qm_0_124)) (js_agV (av := [(0, z1), (0, z2), (0, z3), (1, z4)]) (st := []) rfl rfl js_o0 rfl) rfl rfl (by rw [ql_129]; exact Nat.le_of_ble_eq_true rfl) (Nat.le_of_ble_eq_true rfl) hd hz
theorem kt_128_65 {E : js_E} {d : Nat} {σ σ2 : js_S} {x1 x2 x3 z1 z2 z3 z4 b : Int} {w : Int} (hd : 1 ≤ d) (hz : js_J E (d - 1) 129 0 [(2, 0), (0, z1), (0, z2), (0, z3), (1, z4), (9, 0), (9, 0), (9, 0)] [] σ = js_t E w σ2) : js_J E d 128 65 [(2, 0), (0, x1), (0, x2), (0, x3), (2, 8 + b)] [(1, z4), (0, z3), (0, z2), (0, z1), (2, 0)] σ = js_t E w σ2 :=
  j_callT (m := 2) (js_caV q_128_65 (js_Mo qy_128 qm_0_124)) (js_agV (av := [(0, z1), (0, z2), (0, z3), (1, z4)]) (st := []) rfl rfl js_o0 rfl) rfl rfl (by rw [ql_129]; exact Nat.le_of_ble_eq_true rfl) (Nat.le_of_ble_eq_true rfl) hd rfl hz
theorem b_128_68 {E : js_E} {d : Nat} {σ : js_S} {x1 x2 x3 b : Int} : js_J E d 128 68 [(2, 0), (0, x1), (0, x2), (0, x3), (2, 8 + b)] [] σ = (if js_w x3 < 0 then js_r E (0, (-1)) σ else (if js_w x3 < js_w (σ 0 3) then (if 0 ≤ js_w x3 ∧ js_w x3 < 64 then js_r E (0, σ 82 (js_w x3)) σ else none) else js_r E (0, (-1)) σ)) :=
  (j_iload_n q_128_68 rfl).trans <| (j_iflt (t := 80) q_128_69 rfl).trans (js_ite ((j_iconst q_128_80).trans <| (j_goto (t := 90) q_128_81 rfl).trans <| j_ireturn q_128_90 qr_128) ((j_iload_n q_128_72 rfl).trans <| (j_aload_n q_128_73 rfl).trans <| (j_get (ji := 3) (v := (0, σ 0 3)) q_128_74 (js_Fo qy_128 qf_0_128) js_o0 rfl rfl rfl rfl).trans <| (j_cmplt (t := 84) q_128_77 rfl).trans (js_ite ((j_aload_n q_128_84 rfl).trans <| (j_get (ji := 2) (v := (2, 82)) q_128_85 (js_Fo qy_128 qf_0_50) js_o0 rfl rfl rfl rfl).trans <| (j_iload_n q_128_88 rfl).trans <| (j_baload q_128_89 js_o82).trans <| js_itp fun g0 => j_ireturn q_128_90 qr_128) ((j_iconst q_128_80).trans <| (j_goto (t := 90) q_128_81 rfl).trans <| j_ireturn q_128_90 qr_128))))
-- 129: VitalTwin.spell (IIIJ)V
theorem b_129_0 {E : js_E} {d : Nat} {σ : js_S} {x1 x2 x3 x4 : Int} : js_J E d 129 0 [(2, 0), (0, x1), (0, x2), (0, x3), (1, x4), (9, 0), (9, 0), (9, 0)] [] σ = js_J E d 129 15 [(2, 0), (0, x1), (0, x2), (0, x3), (1, x4), (9, 0), (0, x1 * 6), (0, x1 * 6)] [] (js_up σ 0 3 0) :=
  (j_aload_n q_129_0 rfl).trans <| (j_iconst q_129_1).trans <| (j_putI (ji := 3) q_129_2 (js_Fo qy_129 qf_0_128) rfl js_o0 rfl rfl rfl).trans <| (j_iload_n q_129_5 rfl).trans <| (j_bi q_129_6 rfl).trans <| (j_imul q_129_8).trans <| (j_istore (l2 := [(2, 0), (0, x1), (0, x2), (0, x3), (1, x4), (9, 0), (0, x1 * 6), (9, 0)]) q_129_9 rfl (Nat.le_of_ble_eq_true rfl)).trans <| (j_iload q_129_11 rfl).trans <| (j_istore (l2 := [(2, 0), (0, x1), (0, x2), (0, x3), (1, x4), (9, 0), (0, x1 * 6), (0, x1 * 6)]) q_129_13 rfl (Nat.le_of_ble_eq_true rfl)).trans <| rfl
-- b_129_15: library 7
theorem k_129_55 {E : js_E} {d : Nat} {σ σ2 : js_S} {x1 x2 x3 x4 x6 x7 z1 : Int} (hd : 1 ≤ d) (hz : js_J E (d - 1) 130 0 [(2, 0), (0, z1)] [] σ = js_r0 E σ2) : js_J E d 129 55 [(2, 0), (0, x1), (0, x2), (0, x3), (1, x4), (9, 0), (0, x6), (0, x7)] [(0, z1), (2, 0)] σ = js_J E d 129 58 [(2, 0), (0, x1), (0, x2), (0, x3), (1, x4), (9, 0), (0, x6), (0, x7)] [] σ2 :=
  j_call0 (m := 0) (js_caV q_129_55 (js_Mo qy_129 qm_0_244)) (js_agV (av := [(0, z1)]) (st := []) rfl rfl js_o0 rfl) rfl rfl (by rw [ql_130]; exact Nat.le_of_ble_eq_true rfl) (Nat.le_of_ble_eq_true rfl) hd hz
theorem kt_129_55 {E : js_E} {d : Nat} {σ σ2 : js_S} {x1 x2 x3 x4 x6 x7 z1 : Int} {w : Int} (hd : 1 ≤ d) (hz : js_J E (d - 1) 130 0 [(2, 0), (0, z1)] [] σ = js_t E w σ2) : js_J E d 129 55 [(2, 0), (0, x1), (0, x2), (0, x3), (1, x4), (9, 0), (0, x6), (0, x7)] [(0, z1), (2, 0)] σ = js_t E w σ2 :=
  j_callT (m := 0) (js_caV q_129_55 (js_Mo qy_129 qm_0_244)) (js_agV (av := [(0, z1)]) (st := []) rfl rfl js_o0 rfl) rfl rfl (by rw [ql_130]; exact Nat.le_of_ble_eq_true rfl) (Nat.le_of_ble_eq_true rfl) hd rfl hz
theorem b_129_58 {E : js_E} {d : Nat} {σ : js_S} {x1 x2 x3 x4 x6 x7 : Int} : js_J E d 129 58 [(2, 0), (0, x1), (0, x2), (0, x3), (1, x4), (9, 0), (0, x6), (0, x7)] [] σ = js_J E d 129 15 [(2, 0), (0, x1), (0, x2), (0, x3), (1, x4), (9, 0), (0, x6), (0, x7 + 1)] [] σ :=
  (j_iinc (l2 := [(2, 0), (0, x1), (0, x2), (0, x3), (1, x4), (9, 0), (0, x6), (0, x7 + 1)]) q_129_58 rfl rfl).trans <| (j_goto (t := 15) q_129_61 rfl).trans <| rfl
theorem b_129_64 {E : js_E} {d : Nat} {σ : js_S} {x1 x2 x3 x4 x6 x7 : Int} : js_J E d 129 64 [(2, 0), (0, x1), (0, x2), (0, x3), (1, x4), (9, 0), (0, x6), (0, x7)] [] σ = (if js_w x1 = 0 then js_J E d 129 80 [(2, 0), (0, x1), (0, x2), (0, x3), (1, x4), (9, 0), (0, x6), (0, x7)] [] σ else (if js_w x1 = 22 then js_J E d 129 80 [(2, 0), (0, x1), (0, x2), (0, x3), (1, x4), (9, 0), (0, x6), (0, x7)] [] σ else (if js_w x1 = 23 then js_J E d 129 80 [(2, 0), (0, x1), (0, x2), (0, x3), (1, x4), (9, 0), (0, x6), (0, x7)] [] σ else (if js_w x1 = 1 then js_J E d 129 124 [(2, 0), (0, x1), (0, x2), (0, x3), (1, x4), (9, 0), (0, x6), (0, x7)] [] σ else (if js_w x1 = 2 then js_J E d 129 124 [(2, 0), (0, x1), (0, x2), (0, x3), (1, x4), (9, 0), (0, x6), (0, x7)] [] σ else (if js_w x1 = 4 then js_J E d 129 124 [(2, 0), (0, x1), (0, x2), (0, x3), (1, x4), (9, 0), (0, x6), (0, x7)] [] σ else (if js_w x1 = 5 then js_J E d 129 124 [(2, 0), (0, x1), (0, x2), (0, x3), (1, x4), (9, 0), (0, x6), (0, x7)] [] σ else (if js_w x1 < 24 then js_J E d 129 130 [(2, 0), (0, x1), (0, x2), (0, x3), (1, x4), (9, 0), (0, x6), (0, x7)] [] σ else (if 27 < js_w x1 then js_J E d 129 130 [(2, 0), (0, x1), (0, x2), (0, x3), (1, x4), (9, 0), (0, x6), (0, x7)] [] σ else js_J E d 129 124 [(2, 0), (0, x1), (0, x2), (0, x3), (1, x4), (9, 0), (0, x6), (0, x7)] [] σ))))))))) :=
  (j_iload_n q_129_64 rfl).trans <| (j_ifeq (t := 80) q_129_65 rfl).trans (js_ite (rfl) ((j_iload_n q_129_68 rfl).trans <| (j_bi q_129_69 rfl).trans <| (j_cmpeqB (t := 80) q_129_71 rfl ww_22).trans (js_ite (rfl) ((j_iload_n q_129_74 rfl).trans <| (j_bi q_129_75 rfl).trans <| (j_cmpneB (t := 92) q_129_77 rfl ww_23).trans (js_ite (rfl) ((j_iload_n q_129_92 rfl).trans <| (j_iconst q_129_93).trans <| (j_cmpeqB (t := 124) q_129_94 rfl ww_1).trans (js_ite (rfl) ((j_iload_n q_129_97 rfl).trans <| (j_iconst q_129_98).trans <| (j_cmpeqB (t := 124) q_129_99 rfl ww_2).trans (js_ite (rfl) ((j_iload_n q_129_102 rfl).trans <| (j_iconst q_129_103).trans <| (j_cmpeqB (t := 124) q_129_104 rfl ww_4).trans (js_ite (rfl) ((j_iload_n q_129_107 rfl).trans <| (j_iconst q_129_108).trans <| (j_cmpeqB (t := 124) q_129_109 rfl ww_5).trans (js_ite (rfl) ((j_iload_n q_129_112 rfl).trans <| (j_bi q_129_113 rfl).trans <| (j_cmpltB (t := 130) q_129_115 rfl ww_24).trans (js_ite (rfl) ((j_iload_n q_129_118 rfl).trans <| (j_bi q_129_119 rfl).trans <| (j_cmpgtB (t := 130) q_129_121 rfl ww_27).trans (js_ite (rfl) (rfl))))))))))))))))))
theorem b_129_80 {E : js_E} {d : Nat} {σ : js_S} {x1 x2 x3 x4 x6 x7 : Int} : js_J E d 129 80 [(2, 0), (0, x1), (0, x2), (0, x3), (1, x4), (9, 0), (0, x6), (0, x7)] [] σ = js_J E d 129 86 [(2, 0), (0, x1), (0, x2), (0, x3), (1, x4), (9, 0), (0, x6), (0, x7)] [(1, (js_w x2) * x4), (2, 0)] σ :=
  (j_aload_n q_129_80 rfl).trans <| (j_iload_n q_129_81 rfl).trans <| (j_i2l q_129_82).trans <| (j_lload q_129_83 rfl).trans <| (j_lmul q_129_85).trans <| rfl
theorem k_129_86 {E : js_E} {d : Nat} {σ σ2 : js_S} {x1 x2 x3 x4 x6 x7 z1 : Int} (hd : 1 ≤ d) (hz : js_J E (d - 1) 131 0 [(2, 0), (1, z1), (9, 0), (9, 0), (9, 0), (9, 0), (9, 0), (9, 0)] [] σ = js_r0 E σ2) : js_J E d 129 86 [(2, 0), (0, x1), (0, x2), (0, x3), (1, x4), (9, 0), (0, x6), (0, x7)] [(1, z1), (2, 0)] σ = js_J E d 129 89 [(2, 0), (0, x1), (0, x2), (0, x3), (1, x4), (9, 0), (0, x6), (0, x7)] [] σ2 :=
  j_call0 (m := 5) (js_caV q_129_86 (js_Mo qy_129 qm_0_248)) (js_agV (av := [(1, z1)]) (st := []) rfl rfl js_o0 rfl) rfl rfl (by rw [ql_131]; exact Nat.le_of_ble_eq_true rfl) (Nat.le_of_ble_eq_true rfl) hd hz
theorem kt_129_86 {E : js_E} {d : Nat} {σ σ2 : js_S} {x1 x2 x3 x4 x6 x7 z1 : Int} {w : Int} (hd : 1 ≤ d) (hz : js_J E (d - 1) 131 0 [(2, 0), (1, z1), (9, 0), (9, 0), (9, 0), (9, 0), (9, 0), (9, 0)] [] σ = js_t E w σ2) : js_J E d 129 86 [(2, 0), (0, x1), (0, x2), (0, x3), (1, x4), (9, 0), (0, x6), (0, x7)] [(1, z1), (2, 0)] σ = js_t E w σ2 :=
  j_callT (m := 5) (js_caV q_129_86 (js_Mo qy_129 qm_0_248)) (js_agV (av := [(1, z1)]) (st := []) rfl rfl js_o0 rfl) rfl rfl (by rw [ql_131]; exact Nat.le_of_ble_eq_true rfl) (Nat.le_of_ble_eq_true rfl) hd rfl hz
theorem b_129_89 {E : js_E} {d : Nat} {σ : js_S} {x1 x2 x3 x4 x6 x7 : Int} : js_J E d 129 89 [(2, 0), (0, x1), (0, x2), (0, x3), (1, x4), (9, 0), (0, x6), (0, x7)] [] σ = js_J E d 129 130 [(2, 0), (0, x1), (0, x2), (0, x3), (1, x4), (9, 0), (0, x6), (0, x7)] [] σ :=
  (j_goto (t := 130) q_129_89 rfl).trans <| rfl
theorem b_129_124 {E : js_E} {d : Nat} {σ : js_S} {x1 x2 x3 x4 x6 x7 : Int} : js_J E d 129 124 [(2, 0), (0, x1), (0, x2), (0, x3), (1, x4), (9, 0), (0, x6), (0, x7)] [] σ = js_J E d 129 127 [(2, 0), (0, x1), (0, x2), (0, x3), (1, x4), (9, 0), (0, x6), (0, x7)] [(1, js_w x2), (2, 0)] σ :=
  (j_aload_n q_129_124 rfl).trans <| (j_iload_n q_129_125 rfl).trans <| (j_i2l q_129_126).trans <| rfl
theorem k_129_127 {E : js_E} {d : Nat} {σ σ2 : js_S} {x1 x2 x3 x4 x6 x7 z1 : Int} (hd : 1 ≤ d) (hz : js_J E (d - 1) 131 0 [(2, 0), (1, z1), (9, 0), (9, 0), (9, 0), (9, 0), (9, 0), (9, 0)] [] σ = js_r0 E σ2) : js_J E d 129 127 [(2, 0), (0, x1), (0, x2), (0, x3), (1, x4), (9, 0), (0, x6), (0, x7)] [(1, z1), (2, 0)] σ = js_J E d 129 130 [(2, 0), (0, x1), (0, x2), (0, x3), (1, x4), (9, 0), (0, x6), (0, x7)] [] σ2 :=
  j_call0 (m := 5) (js_caV q_129_127 (js_Mo qy_129 qm_0_248)) (js_agV (av := [(1, z1)]) (st := []) rfl rfl js_o0 rfl) rfl rfl (by rw [ql_131]; exact Nat.le_of_ble_eq_true rfl) (Nat.le_of_ble_eq_true rfl) hd hz
theorem kt_129_127 {E : js_E} {d : Nat} {σ σ2 : js_S} {x1 x2 x3 x4 x6 x7 z1 : Int} {w : Int} (hd : 1 ≤ d) (hz : js_J E (d - 1) 131 0 [(2, 0), (1, z1), (9, 0), (9, 0), (9, 0), (9, 0), (9, 0), (9, 0)] [] σ = js_t E w σ2) : js_J E d 129 127 [(2, 0), (0, x1), (0, x2), (0, x3), (1, x4), (9, 0), (0, x6), (0, x7)] [(1, z1), (2, 0)] σ = js_t E w σ2 :=
  j_callT (m := 5) (js_caV q_129_127 (js_Mo qy_129 qm_0_248)) (js_agV (av := [(1, z1)]) (st := []) rfl rfl js_o0 rfl) rfl rfl (by rw [ql_131]; exact Nat.le_of_ble_eq_true rfl) (Nat.le_of_ble_eq_true rfl) hd rfl hz
theorem b_129_130 {E : js_E} {d : Nat} {σ : js_S} {x1 x2 x3 x4 x6 x7 : Int} : js_J E d 129 130 [(2, 0), (0, x1), (0, x2), (0, x3), (1, x4), (9, 0), (0, x6), (0, x7)] [] σ = (if js_w x1 = 4 then js_J E d 129 140 [(2, 0), (0, x1), (0, x2), (0, x3), (1, x4), (9, 0), (0, x6), (0, x7)] [] σ else (if js_w x1 = 5 then js_J E d 129 140 [(2, 0), (0, x1), (0, x2), (0, x3), (1, x4), (9, 0), (0, x6), (0, x7)] [] σ else js_J E d 129 146 [(2, 0), (0, x1), (0, x2), (0, x3), (1, x4), (9, 0), (0, x6), (0, x7)] [] σ)) :=
  (j_iload_n q_129_130 rfl).trans <| (j_iconst q_129_131).trans <| (j_cmpeqB (t := 140) q_129_132 rfl ww_4).trans (js_ite (rfl) ((j_iload_n q_129_135 rfl).trans <| (j_iconst q_129_136).trans <| (j_cmpneB (t := 146) q_129_137 rfl ww_5).trans (js_ite (rfl) (rfl))))
theorem b_129_140 {E : js_E} {d : Nat} {σ : js_S} {x1 x2 x3 x4 x6 x7 : Int} : js_J E d 129 140 [(2, 0), (0, x1), (0, x2), (0, x3), (1, x4), (9, 0), (0, x6), (0, x7)] [] σ = js_J E d 129 143 [(2, 0), (0, x1), (0, x2), (0, x3), (1, x4), (9, 0), (0, x6), (0, x7)] [(1, js_w x3), (2, 0)] σ :=
  (j_aload_n q_129_140 rfl).trans <| (j_iload_n q_129_141 rfl).trans <| (j_i2l q_129_142).trans <| rfl
theorem k_129_143 {E : js_E} {d : Nat} {σ σ2 : js_S} {x1 x2 x3 x4 x6 x7 z1 : Int} (hd : 1 ≤ d) (hz : js_J E (d - 1) 131 0 [(2, 0), (1, z1), (9, 0), (9, 0), (9, 0), (9, 0), (9, 0), (9, 0)] [] σ = js_r0 E σ2) : js_J E d 129 143 [(2, 0), (0, x1), (0, x2), (0, x3), (1, x4), (9, 0), (0, x6), (0, x7)] [(1, z1), (2, 0)] σ = js_J E d 129 146 [(2, 0), (0, x1), (0, x2), (0, x3), (1, x4), (9, 0), (0, x6), (0, x7)] [] σ2 :=
  j_call0 (m := 5) (js_caV q_129_143 (js_Mo qy_129 qm_0_248)) (js_agV (av := [(1, z1)]) (st := []) rfl rfl js_o0 rfl) rfl rfl (by rw [ql_131]; exact Nat.le_of_ble_eq_true rfl) (Nat.le_of_ble_eq_true rfl) hd hz
theorem kt_129_143 {E : js_E} {d : Nat} {σ σ2 : js_S} {x1 x2 x3 x4 x6 x7 z1 : Int} {w : Int} (hd : 1 ≤ d) (hz : js_J E (d - 1) 131 0 [(2, 0), (1, z1), (9, 0), (9, 0), (9, 0), (9, 0), (9, 0), (9, 0)] [] σ = js_t E w σ2) : js_J E d 129 143 [(2, 0), (0, x1), (0, x2), (0, x3), (1, x4), (9, 0), (0, x6), (0, x7)] [(1, z1), (2, 0)] σ = js_t E w σ2 :=
  j_callT (m := 5) (js_caV q_129_143 (js_Mo qy_129 qm_0_248)) (js_agV (av := [(1, z1)]) (st := []) rfl rfl js_o0 rfl) rfl rfl (by rw [ql_131]; exact Nat.le_of_ble_eq_true rfl) (Nat.le_of_ble_eq_true rfl) hd rfl hz
theorem b_129_146 {E : js_E} {d : Nat} {σ : js_S} {x1 x2 x3 x4 x6 x7 : Int} : js_J E d 129 146 [(2, 0), (0, x1), (0, x2), (0, x3), (1, x4), (9, 0), (0, x6), (0, x7)] [] σ = js_r0 E σ :=
  j_return q_129_146 qr_129
-- 130: VitalTwin.spellSign (C)V
theorem b_130_0 {E : js_E} {d : Nat} {σ : js_S} {x1 : Int} : js_J E d 130 0 [(2, 0), (0, x1)] [] σ = (if js_w (σ 0 3) < 64 then (if 0 ≤ js_w (σ 0 3) ∧ js_w (σ 0 3) < 64 then js_r0 E (js_up (js_up σ 82 (js_w (σ 0 3)) (js_i2b (js_i2b x1))) 0 3 ((σ 0 3) + 1)) else none) else js_r0 E σ) :=
  (j_aload_n q_130_0 rfl).trans <| (j_get (ji := 3) (v := (0, σ 0 3)) q_130_1 (js_Fo qy_130 qf_0_128) js_o0 rfl rfl rfl rfl).trans <| (j_aload_n q_130_4 rfl).trans <| (j_get (ji := 2) (v := (2, 82)) q_130_5 (js_Fo qy_130 qf_0_50) js_o0 rfl rfl rfl rfl).trans <| (j_alen q_130_8 js_o82 (by decide) (by decide)).trans <| (j_cmpgeB (t := 33) q_130_9 rfl ww_64).trans (js_ite ((j_aload_n q_130_12 rfl).trans <| (j_get (ji := 2) (v := (2, 82)) q_130_13 (js_Fo qy_130 qf_0_50) js_o0 rfl rfl rfl rfl).trans <| (j_aload_n q_130_16 rfl).trans <| (j_get (ji := 3) (v := (0, σ 0 3)) q_130_17 (js_Fo qy_130 qf_0_128) js_o0 rfl rfl rfl rfl).trans <| (j_iload_n q_130_20 rfl).trans <| (j_i2b q_130_21).trans <| (j_bastore q_130_22 js_o82).trans <| js_itp fun g0 => (j_aload_n q_130_23 rfl).trans <| (j_dupr q_130_24).trans <| (j_get (ji := 3) (v := (0, σ 0 3)) q_130_25 (js_Fo qy_130 qf_0_128) js_o0 rfl rfl rfl (congrArg (Prod.mk 0) ((js_up_na _ (by decide))))).trans <| (j_iconst q_130_28).trans <| (j_iadd q_130_29).trans <| (j_putI (ji := 3) q_130_30 (js_Fo qy_130 qf_0_128) rfl js_o0 rfl rfl rfl).trans <| j_return q_130_33 qr_130) (j_return q_130_33 qr_130))
-- 131: VitalTwin.spellOperand (J)V
theorem b_131_0 {E : js_E} {d : Nat} {σ : js_S} {x1 : Int} : js_J E d 131 0 [(2, 0), (1, x1), (9, 0), (9, 0), (9, 0), (9, 0), (9, 0), (9, 0)] [] σ = js_J E d 131 3 [(2, 0), (1, x1), (9, 0), (9, 0), (9, 0), (9, 0), (9, 0), (9, 0)] [(0, 32), (2, 0)] σ :=
  (j_aload_n q_131_0 rfl).trans <| (j_bi q_131_1 rfl).trans <| rfl
theorem k_131_3 {E : js_E} {d : Nat} {σ σ2 : js_S} {x1 z1 : Int} (hd : 1 ≤ d) (hz : js_J E (d - 1) 130 0 [(2, 0), (0, z1)] [] σ = js_r0 E σ2) : js_J E d 131 3 [(2, 0), (1, x1), (9, 0), (9, 0), (9, 0), (9, 0), (9, 0), (9, 0)] [(0, z1), (2, 0)] σ = js_J E d 131 6 [(2, 0), (1, x1), (9, 0), (9, 0), (9, 0), (9, 0), (9, 0), (9, 0)] [] σ2 :=
  j_call0 (m := 0) (js_caV q_131_3 (js_Mo qy_131 qm_0_244)) (js_agV (av := [(0, z1)]) (st := []) rfl rfl js_o0 rfl) rfl rfl (by rw [ql_130]; exact Nat.le_of_ble_eq_true rfl) (Nat.le_of_ble_eq_true rfl) hd hz
theorem kt_131_3 {E : js_E} {d : Nat} {σ σ2 : js_S} {x1 z1 : Int} {w : Int} (hd : 1 ≤ d) (hz : js_J E (d - 1) 130 0 [(2, 0), (0, z1)] [] σ = js_t E w σ2) : js_J E d 131 3 [(2, 0), (1, x1), (9, 0), (9, 0), (9, 0), (9, 0), (9, 0), (9, 0)] [(0, z1), (2, 0)] σ = js_t E w σ2 :=
  j_callT (m := 0) (js_caV q_131_3 (js_Mo qy_131 qm_0_244)) (js_agV (av := [(0, z1)]) (st := []) rfl rfl js_o0 rfl) rfl rfl (by rw [ql_130]; exact Nat.le_of_ble_eq_true rfl) (Nat.le_of_ble_eq_true rfl) hd rfl hz
theorem b_131_6 {E : js_E} {d : Nat} {σ : js_S} {x1 : Int} : js_J E d 131 6 [(2, 0), (1, x1), (9, 0), (9, 0), (9, 0), (9, 0), (9, 0), (9, 0)] [] σ = (if js_l x1 < 0 then js_J E d 131 15 [(2, 0), (1, x1), (9, 0), (9, 0), (9, 0), (9, 0), (9, 0), (9, 0)] [(0, 45), (2, 0)] σ else js_J E d 131 18 [(2, 0), (1, x1), (9, 0), (9, 0), (9, 0), (9, 0), (9, 0), (9, 0)] [] σ) :=
  (j_lload_n q_131_6 rfl).trans <| (j_lconst0 q_131_7).trans <| (j_lgeB (t := 18) q_131_8 q_131_9 rfl wl_0).trans (js_ite ((j_aload_n q_131_12 rfl).trans <| (j_bi q_131_13 rfl).trans <| rfl) (rfl))
theorem k_131_15 {E : js_E} {d : Nat} {σ σ2 : js_S} {x1 z1 : Int} (hd : 1 ≤ d) (hz : js_J E (d - 1) 130 0 [(2, 0), (0, z1)] [] σ = js_r0 E σ2) : js_J E d 131 15 [(2, 0), (1, x1), (9, 0), (9, 0), (9, 0), (9, 0), (9, 0), (9, 0)] [(0, z1), (2, 0)] σ = js_J E d 131 18 [(2, 0), (1, x1), (9, 0), (9, 0), (9, 0), (9, 0), (9, 0), (9, 0)] [] σ2 :=
  j_call0 (m := 0) (js_caV q_131_15 (js_Mo qy_131 qm_0_244)) (js_agV (av := [(0, z1)]) (st := []) rfl rfl js_o0 rfl) rfl rfl (by rw [ql_130]; exact Nat.le_of_ble_eq_true rfl) (Nat.le_of_ble_eq_true rfl) hd hz
theorem kt_131_15 {E : js_E} {d : Nat} {σ σ2 : js_S} {x1 z1 : Int} {w : Int} (hd : 1 ≤ d) (hz : js_J E (d - 1) 130 0 [(2, 0), (0, z1)] [] σ = js_t E w σ2) : js_J E d 131 15 [(2, 0), (1, x1), (9, 0), (9, 0), (9, 0), (9, 0), (9, 0), (9, 0)] [(0, z1), (2, 0)] σ = js_t E w σ2 :=
  j_callT (m := 0) (js_caV q_131_15 (js_Mo qy_131 qm_0_244)) (js_agV (av := [(0, z1)]) (st := []) rfl rfl js_o0 rfl) rfl rfl (by rw [ql_130]; exact Nat.le_of_ble_eq_true rfl) (Nat.le_of_ble_eq_true rfl) hd rfl hz
theorem b_131_18 {E : js_E} {d : Nat} {σ : js_S} {x1 : Int} (hd : 4 ≤ d) : js_J E d 131 18 [(2, 0), (1, x1), (9, 0), (9, 0), (9, 0), (9, 0), (9, 0), (9, 0)] [] σ = js_J E d 131 29 [(2, 0), (1, x1), (9, 0), (1, if 0 < js_l x1 then x1 else -x1), (9, 0), (1, 1), (9, 0), (0, 0)] [] σ :=
  (j_lload_n q_131_18 rfl).trans <| (j_labs (js_clS q_131_19 (js_Mo qy_131 qm_0_252)) (Nat.le_of_ble_eq_true rfl) hd).trans <| (j_lstore_n (l2 := [(2, 0), (1, x1), (9, 0), (1, if 0 < js_l x1 then x1 else -x1), (9, 0), (9, 0), (9, 0), (9, 0)]) q_131_22 rfl (Nat.le_of_ble_eq_true rfl)).trans <| (j_lconst1 q_131_23).trans <| (j_lstore (l2 := [(2, 0), (1, x1), (9, 0), (1, if 0 < js_l x1 then x1 else -x1), (9, 0), (1, 1), (9, 0), (9, 0)]) q_131_24 rfl (Nat.le_of_ble_eq_true rfl)).trans <| (j_iconst q_131_26).trans <| (j_istore (l2 := [(2, 0), (1, x1), (9, 0), (1, if 0 < js_l x1 then x1 else -x1), (9, 0), (1, 1), (9, 0), (0, 0)]) q_131_27 rfl (Nat.le_of_ble_eq_true rfl)).trans <| rfl
theorem b_131_29 {E : js_E} {d : Nat} {σ : js_S} {x1 x3 x5 x7 : Int} : js_J E d 131 29 [(2, 0), (1, x1), (9, 0), (1, x3), (9, 0), (1, x5), (9, 0), (0, x7)] [] σ = (if js_w x7 < 16 then (if js_l x5 = 0 then none else (if js_l ((js_l x3).tdiv (js_l x5)) < 10 then js_J E d 131 61 [(2, 0), (1, x1), (9, 0), (1, x3), (9, 0), (1, x5), (9, 0), (0, x7)] [] σ else js_J E d 131 29 [(2, 0), (1, x1), (9, 0), (1, x3), (9, 0), (1, x5 * 10), (9, 0), (0, x7 + 1)] [] σ)) else js_J E d 131 61 [(2, 0), (1, x1), (9, 0), (1, x3), (9, 0), (1, x5), (9, 0), (0, x7)] [] σ) :=
  (j_iload q_131_29 rfl).trans <| (j_bi q_131_31 rfl).trans <| (j_cmpgeB (t := 61) q_131_33 rfl ww_16).trans (js_ite ((j_lload_n q_131_36 rfl).trans <| (j_lload q_131_37 rfl).trans <| (j_ldiv q_131_39).trans <| js_ite rfl <| (j_ldc2 (v := (1, 10)) q_131_40 (js_Co qy_131 qc_0_256)).trans <| (j_lltB (t := 61) q_131_43 q_131_44 rfl wl_10).trans (js_ite (rfl) ((j_lload q_131_47 rfl).trans <| (j_ldc2 (v := (1, 10)) q_131_49 (js_Co qy_131 qc_0_256)).trans <| (j_lmul q_131_52).trans <| (j_lstore (l2 := [(2, 0), (1, x1), (9, 0), (1, x3), (9, 0), (1, x5 * 10), (9, 0), (0, x7)]) q_131_53 rfl (Nat.le_of_ble_eq_true rfl)).trans <| (j_iinc (l2 := [(2, 0), (1, x1), (9, 0), (1, x3), (9, 0), (1, x5 * 10), (9, 0), (0, x7 + 1)]) q_131_55 rfl rfl).trans <| (j_goto (t := 29) q_131_58 rfl).trans <| rfl))) (rfl))
theorem b_131_61 {E : js_E} {d : Nat} {σ : js_S} {x1 x3 x5 x7 : Int} : js_J E d 131 61 [(2, 0), (1, x1), (9, 0), (1, x3), (9, 0), (1, x5), (9, 0), (0, x7)] [] σ = js_J E d 131 64 [(2, 0), (1, x1), (9, 0), (1, x3), (9, 0), (1, x5), (9, 0), (0, 0)] [] σ :=
  (j_iconst q_131_61).trans <| (j_istore (l2 := [(2, 0), (1, x1), (9, 0), (1, x3), (9, 0), (1, x5), (9, 0), (0, 0)]) q_131_62 rfl (Nat.le_of_ble_eq_true rfl)).trans <| rfl
theorem b_131_64 {E : js_E} {d : Nat} {σ : js_S} {x1 x3 x5 x7 : Int} : js_J E d 131 64 [(2, 0), (1, x1), (9, 0), (1, x3), (9, 0), (1, x5), (9, 0), (0, x7)] [] σ = (if js_w x7 < 17 then (if 0 < js_l x5 then (if js_l x5 = 0 then none else js_J E d 131 93 [(2, 0), (1, x1), (9, 0), (1, x3), (9, 0), (1, x5), (9, 0), (0, x7)] [(0, js_i2c (48 + ((js_l ((js_l x3).tdiv (js_l x5))).tmod 10))), (2, 0)] σ) else js_r0 E σ) else js_r0 E σ) :=
  (j_iload q_131_64 rfl).trans <| (j_bi q_131_66 rfl).trans <| (j_cmpgeB (t := 110) q_131_68 rfl ww_17).trans (js_ite ((j_lload q_131_71 rfl).trans <| (j_lconst0 q_131_73).trans <| (j_lleB (t := 110) q_131_74 q_131_75 rfl wl_0).trans (js_ite ((j_aload_n q_131_78 rfl).trans <| (j_ldc2 (v := (1, 48)) q_131_79 (js_Co qy_131 qc_0_258)).trans <| (j_lload_n q_131_82 rfl).trans <| (j_lload q_131_83 rfl).trans <| (j_ldiv q_131_85).trans <| js_ite rfl <| (j_ldc2 (v := (1, 10)) q_131_86 (js_Co qy_131 qc_0_256)).trans <| (j_lremk q_131_89 wl_10 (by decide)).trans <| (j_ladd q_131_90).trans <| (j_l2i q_131_91).trans <| (j_i2c q_131_92).trans <| rfl) (j_return q_131_110 qr_131))) (j_return q_131_110 qr_131))
theorem k_131_93 {E : js_E} {d : Nat} {σ σ2 : js_S} {x1 x3 x5 x7 z1 : Int} (hd : 1 ≤ d) (hz : js_J E (d - 1) 130 0 [(2, 0), (0, z1)] [] σ = js_r0 E σ2) : js_J E d 131 93 [(2, 0), (1, x1), (9, 0), (1, x3), (9, 0), (1, x5), (9, 0), (0, x7)] [(0, z1), (2, 0)] σ = js_J E d 131 96 [(2, 0), (1, x1), (9, 0), (1, x3), (9, 0), (1, x5), (9, 0), (0, x7)] [] σ2 :=
  j_call0 (m := 0) (js_caV q_131_93 (js_Mo qy_131 qm_0_244)) (js_agV (av := [(0, z1)]) (st := []) rfl rfl js_o0 rfl) rfl rfl (by rw [ql_130]; exact Nat.le_of_ble_eq_true rfl) (Nat.le_of_ble_eq_true rfl) hd hz
theorem kt_131_93 {E : js_E} {d : Nat} {σ σ2 : js_S} {x1 x3 x5 x7 z1 : Int} {w : Int} (hd : 1 ≤ d) (hz : js_J E (d - 1) 130 0 [(2, 0), (0, z1)] [] σ = js_t E w σ2) : js_J E d 131 93 [(2, 0), (1, x1), (9, 0), (1, x3), (9, 0), (1, x5), (9, 0), (0, x7)] [(0, z1), (2, 0)] σ = js_t E w σ2 :=
  j_callT (m := 0) (js_caV q_131_93 (js_Mo qy_131 qm_0_244)) (js_agV (av := [(0, z1)]) (st := []) rfl rfl js_o0 rfl) rfl rfl (by rw [ql_130]; exact Nat.le_of_ble_eq_true rfl) (Nat.le_of_ble_eq_true rfl) hd rfl hz
theorem b_131_96 {E : js_E} {d : Nat} {σ : js_S} {x1 x3 x5 x7 : Int} : js_J E d 131 96 [(2, 0), (1, x1), (9, 0), (1, x3), (9, 0), (1, x5), (9, 0), (0, x7)] [] σ = js_J E d 131 64 [(2, 0), (1, x1), (9, 0), (1, x3), (9, 0), (1, (js_l x5).tdiv 10), (9, 0), (0, x7 + 1)] [] σ :=
  (j_lload q_131_96 rfl).trans <| (j_ldc2 (v := (1, 10)) q_131_98 (js_Co qy_131 qc_0_256)).trans <| (j_ldivk q_131_101 wl_10 (by decide)).trans <| (j_lstore (l2 := [(2, 0), (1, x1), (9, 0), (1, x3), (9, 0), (1, (js_l x5).tdiv 10), (9, 0), (0, x7)]) q_131_102 rfl (Nat.le_of_ble_eq_true rfl)).trans <| (j_iinc (l2 := [(2, 0), (1, x1), (9, 0), (1, x3), (9, 0), (1, (js_l x5).tdiv 10), (9, 0), (0, x7 + 1)]) q_131_104 rfl rfl).trans <| (j_goto (t := 64) q_131_107 rfl).trans <| rfl
-- 132: VitalTwin.input (II)Z
theorem b_132_0 {E : js_E} {d : Nat} {σ : js_S} {x1 x2 : Int} : js_J E d 132 0 [(2, 0), (0, x1), (0, x2)] [] σ = js_J E d 132 6 [(2, 0), (0, x1), (0, x2)] [(0, x2), (0, x1), (2, 56)] σ :=
  (j_aload_n q_132_0 rfl).trans <| (j_get (ji := 1) (v := (2, 56)) q_132_1 (js_Fo qy_132 qf_0_46) js_o0 rfl rfl rfl rfl).trans <| (j_iload_n q_132_4 rfl).trans <| (j_iload_n q_132_5 rfl).trans <| rfl
theorem k_132_6 {E : js_E} {d : Nat} {σ σ2 : js_S} {x1 x2 z1 z2 : Int} {v : Int} (hd : 1 ≤ d) (hz : js_J E (d - 1) 133 0 [(2, 56), (0, z1), (0, z2), (9, 0), (9, 0)] [] σ = js_r E (0, v) σ2) : js_J E d 132 6 [(2, 0), (0, x1), (0, x2)] [(0, z2), (0, z1), (2, 56)] σ = js_J E d 132 9 [(2, 0), (0, x1), (0, x2)] [(0, v)] σ2 :=
  j_call (m := 2) (js_caV q_132_6 (js_Mo qy_132 qm_0_131)) (js_agV (av := [(0, z1), (0, z2)]) (st := []) rfl rfl js_o56 rfl) rfl rfl (by rw [ql_133]; exact Nat.le_of_ble_eq_true rfl) (Nat.le_of_ble_eq_true rfl) hd hz
theorem kt_132_6 {E : js_E} {d : Nat} {σ σ2 : js_S} {x1 x2 z1 z2 : Int} {w : Int} (hd : 1 ≤ d) (hz : js_J E (d - 1) 133 0 [(2, 56), (0, z1), (0, z2), (9, 0), (9, 0)] [] σ = js_t E w σ2) : js_J E d 132 6 [(2, 0), (0, x1), (0, x2)] [(0, z2), (0, z1), (2, 56)] σ = js_t E w σ2 :=
  j_callT (m := 2) (js_caV q_132_6 (js_Mo qy_132 qm_0_131)) (js_agV (av := [(0, z1), (0, z2)]) (st := []) rfl rfl js_o56 rfl) rfl rfl (by rw [ql_133]; exact Nat.le_of_ble_eq_true rfl) (Nat.le_of_ble_eq_true rfl) hd rfl hz
theorem b_132_9 {E : js_E} {d : Nat} {σ : js_S} {x1 x2 z0 : Int} : js_J E d 132 9 [(2, 0), (0, x1), (0, x2)] [(0, z0)] σ = (if js_w z0 = 0 ∨ js_w z0 = 1 then js_r E (0, z0) σ else none) :=
  j_breturn q_132_9 qr_132
-- 133: VitalTwin$Machine.give (II)Z
theorem b_133_0 {E : js_E} {d : Nat} {σ : js_S} {x1 x2 b : Int} (hb : b = 0 ∨ b = 25) (hp : σ 56 1 = 7 + b) : js_J E d 133 0 [(2, 56), (0, x1), (0, x2), (9, 0), (9, 0)] [] σ = js_J E d 133 6 [(2, 56), (0, x1), (0, x2), (9, 0), (9, 0)] [(0, x1), (0, 1), (2, 7 + b)] σ :=
  (j_aload_n q_133_0 rfl).trans <| (j_get (ji := 1) (v := (2, 7 + b)) q_133_1 (js_Fo qy_133 qf_6_39) js_o56 rfl rfl rfl (congrArg (Prod.mk 2) hp)).trans <| (j_iconst q_133_4).trans <| (j_iload_n q_133_5 rfl).trans <| rfl
theorem k_133_6 {E : js_E} {d : Nat} {σ σ2 : js_S} {x1 x2 z1 z2 b : Int} (hb : b = 0 ∨ b = 25) {v : Int} (hd : 1 ≤ d) (hz : js_J E (d - 1) 134 0 [(2, 7 + b), (0, z1), (0, z2), (9, 0), (9, 0), (9, 0)] [] σ = js_r E (2, v) σ2) : js_J E d 133 6 [(2, 56), (0, x1), (0, x2), (9, 0), (9, 0)] [(0, z2), (0, z1), (2, 7 + b)] σ = js_J E d 133 9 [(2, 56), (0, x1), (0, x2), (9, 0), (9, 0)] [(2, v)] σ2 :=
  j_call (m := 3) (js_caV q_133_6 (js_Mo qy_133 qm_6_102)) (js_agV (av := [(0, z1), (0, z2)]) (st := []) rfl rfl (js_o7b hb) rfl) rfl rfl (by rw [ql_134]; exact Nat.le_of_ble_eq_true rfl) (Nat.le_of_ble_eq_true rfl) hd hz
theorem kt_133_6 {E : js_E} {d : Nat} {σ σ2 : js_S} {x1 x2 z1 z2 b : Int} (hb : b = 0 ∨ b = 25) {w : Int} (hd : 1 ≤ d) (hz : js_J E (d - 1) 134 0 [(2, 7 + b), (0, z1), (0, z2), (9, 0), (9, 0), (9, 0)] [] σ = js_t E w σ2) : js_J E d 133 6 [(2, 56), (0, x1), (0, x2), (9, 0), (9, 0)] [(0, z2), (0, z1), (2, 7 + b)] σ = js_t E w σ2 :=
  j_callT (m := 3) (js_caV q_133_6 (js_Mo qy_133 qm_6_102)) (js_agV (av := [(0, z1), (0, z2)]) (st := []) rfl rfl (js_o7b hb) rfl) rfl rfl (by rw [ql_134]; exact Nat.le_of_ble_eq_true rfl) (Nat.le_of_ble_eq_true rfl) hd rfl hz
theorem b_133_9 {E : js_E} {d : Nat} {σ : js_S} {x1 x2 z0 b : Int} (hb : b = 0 ∨ b = 25) (hp : σ 56 1 = 7 + b) : js_J E d 133 9 [(2, 56), (0, x1), (0, x2), (9, 0), (9, 0)] [(2, z0)] σ = js_J E d 133 16 [(2, 56), (0, x1), (0, x2), (2, z0), (9, 0)] [(0, x1), (0, 1), (2, 7 + b)] σ :=
  (j_astore_n (l2 := [(2, 56), (0, x1), (0, x2), (2, z0), (9, 0)]) q_133_9 rfl (Nat.le_of_ble_eq_true rfl)).trans <| (j_aload_n q_133_10 rfl).trans <| (j_get (ji := 1) (v := (2, 7 + b)) q_133_11 (js_Fo qy_133 qf_6_39) js_o56 rfl rfl rfl (congrArg (Prod.mk 2) hp)).trans <| (j_iconst q_133_14).trans <| (j_iload_n q_133_15 rfl).trans <| rfl
theorem k_133_16 {E : js_E} {d : Nat} {σ σ2 : js_S} {x1 x2 x3 z1 z2 b : Int} (hb : b = 0 ∨ b = 25) {v : Int} (hd : 1 ≤ d) (hz : js_J E (d - 1) 135 0 [(2, 7 + b), (0, z1), (0, z2), (9, 0), (9, 0), (9, 0)] [] σ = js_r E (0, v) σ2) : js_J E d 133 16 [(2, 56), (0, x1), (0, x2), (2, x3), (9, 0)] [(0, z2), (0, z1), (2, 7 + b)] σ = js_J E d 133 19 [(2, 56), (0, x1), (0, x2), (2, x3), (9, 0)] [(0, v)] σ2 :=
  j_call (m := 3) (js_caV q_133_16 (js_Mo qy_133 qm_6_106)) (js_agV (av := [(0, z1), (0, z2)]) (st := []) rfl rfl (js_o7b hb) rfl) rfl rfl (by rw [ql_135]; exact Nat.le_of_ble_eq_true rfl) (Nat.le_of_ble_eq_true rfl) hd hz
theorem kt_133_16 {E : js_E} {d : Nat} {σ σ2 : js_S} {x1 x2 x3 z1 z2 b : Int} (hb : b = 0 ∨ b = 25) {w : Int} (hd : 1 ≤ d) (hz : js_J E (d - 1) 135 0 [(2, 7 + b), (0, z1), (0, z2), (9, 0), (9, 0), (9, 0)] [] σ = js_t E w σ2) : js_J E d 133 16 [(2, 56), (0, x1), (0, x2), (2, x3), (9, 0)] [(0, z2), (0, z1), (2, 7 + b)] σ = js_t E w σ2 :=
  j_callT (m := 3) (js_caV q_133_16 (js_Mo qy_133 qm_6_106)) (js_agV (av := [(0, z1), (0, z2)]) (st := []) rfl rfl (js_o7b hb) rfl) rfl rfl (by rw [ql_135]; exact Nat.le_of_ble_eq_true rfl) (Nat.le_of_ble_eq_true rfl) hd rfl hz
theorem b_133_19 {E : js_E} {d : Nat} {σ : js_S} {x1 x2 x3 z0 : Int} : js_J E d 133 19 [(2, 56), (0, x1), (0, x2), (2, x3), (9, 0)] [(0, z0)] σ = (if x3 < 0 then js_r E (0, 0) σ else js_J E d 133 25 [(2, 56), (0, x1), (0, x2), (2, x3), (0, z0)] [] σ) :=
  (j_istore (l2 := [(2, 56), (0, x1), (0, x2), (2, x3), (0, z0)]) q_133_19 rfl (Nat.le_of_ble_eq_true rfl)).trans <| (j_aload_n q_133_21 rfl).trans <| (j_ifnull (t := 66) q_133_22 rfl).trans (js_ite ((j_iconst q_133_66).trans <| j_breturn0 q_133_67 qr_133) (rfl))
theorem b_133_25 {E : js_E} {d : Nat} {σ : js_S} {x1 x2 x3 x4 : Int} (hM : 0 ≤ E.1) (hs_x3 : js_desc E.1 σ x3 = some (0, 11, js_sym)) : js_J E d 133 25 [(2, 56), (0, x1), (0, x2), (2, x3), (0, x4)] [] σ = (if js_w x4 < 0 then js_r E (0, 0) σ else (if js_w x4 < js_w E.1 then (if js_w x2 < js_w (σ x3 3) then js_r E (0, 0) σ else (if js_w (σ x3 4) < js_w x2 then js_r E (0, 0) σ else (if js_w (σ 58 0) = 0 then (if 0 ≤ js_w x4 ∧ js_w x4 < E.1 then js_r E (0, 1) (js_up σ 79 (js_w x4) x2) else none) else js_r E (0, 0) σ))) else js_r E (0, 0) σ)) :=
  (j_iload q_133_25 rfl).trans <| (j_iflt (t := 66) q_133_27 rfl).trans (js_ite ((j_iconst q_133_66).trans <| j_breturn0 q_133_67 qr_133) ((j_iload q_133_30 rfl).trans <| (j_aload_n q_133_32 rfl).trans <| (j_get (ji := 5) (v := (2, 79)) q_133_33 (js_Fo qy_133 qf_6_30) js_o56 rfl rfl rfl rfl).trans <| (j_alen q_133_36 js_o79 (by decide) (by omega)).trans <| (j_cmpge (t := 66) q_133_37 rfl).trans (js_ite ((j_iload_n q_133_40 rfl).trans <| (j_aload_n q_133_41 rfl).trans <| (j_get (ji := 3) (v := (0, σ x3 3)) q_133_42 (js_Fo qy_133 qf_6_62) hs_x3 rfl rfl rfl rfl).trans <| (j_cmplt (t := 66) q_133_45 rfl).trans (js_ite ((j_iconst q_133_66).trans <| j_breturn0 q_133_67 qr_133) ((j_iload_n q_133_48 rfl).trans <| (j_aload_n q_133_49 rfl).trans <| (j_get (ji := 4) (v := (0, σ x3 4)) q_133_50 (js_Fo qy_133 qf_6_65) hs_x3 rfl rfl rfl rfl).trans <| (j_cmpgt (t := 66) q_133_53 rfl).trans (js_ite ((j_iconst q_133_66).trans <| j_breturn0 q_133_67 qr_133) ((j_aload_n q_133_56 rfl).trans <| (j_get (ji := 0) (v := (2, 58)) q_133_57 (js_Fo qy_133 qf_6_20) js_o56 rfl rfl rfl rfl).trans <| (j_get (ji := 0) (v := (0, σ 58 0)) q_133_60 (js_Fo qy_133 qf_6_110) js_o58 rfl rfl rfl rfl).trans <| (j_ifeq (t := 68) q_133_63 rfl).trans (js_ite ((j_aload_n q_133_68 rfl).trans <| (j_get (ji := 5) (v := (2, 79)) q_133_69 (js_Fo qy_133 qf_6_30) js_o56 rfl rfl rfl rfl).trans <| (j_iload q_133_72 rfl).trans <| (j_iload_n q_133_74 rfl).trans <| (j_iastore q_133_75 js_o79).trans <| js_itp fun g0 => (j_iconst q_133_76).trans <| j_breturn1 q_133_77 qr_133) ((j_iconst q_133_66).trans <| j_breturn0 q_133_67 qr_133))))))) ((j_iconst q_133_66).trans <| j_breturn0 q_133_67 qr_133))))
-- 134: VitalTwin$Program.portOf (II)LVitalTwin$Symbol;
theorem b_134_0 {E : js_E} {d : Nat} {σ : js_S} {x1 x2 b : Int} : js_J E d 134 0 [(2, 7 + b), (0, x1), (0, x2), (9, 0), (9, 0), (9, 0)] [] σ = js_J E d 134 3 [(2, 7 + b), (0, x1), (0, x2), (9, 0), (9, 0), (9, 0)] [(0, x2), (0, x1), (2, 7 + b)] σ :=
  (j_aload_n q_134_0 rfl).trans <| (j_iload_n q_134_1 rfl).trans <| (j_iload_n q_134_2 rfl).trans <| rfl
theorem k_134_3 {E : js_E} {d : Nat} {σ σ2 : js_S} {x1 x2 z1 z2 b : Int} (hb : b = 0 ∨ b = 25) {v : Int} (hd : 1 ≤ d) (hz : js_J E (d - 1) 135 0 [(2, 7 + b), (0, z1), (0, z2), (9, 0), (9, 0), (9, 0)] [] σ = js_r E (0, v) σ2) : js_J E d 134 3 [(2, 7 + b), (0, x1), (0, x2), (9, 0), (9, 0), (9, 0)] [(0, z2), (0, z1), (2, 7 + b)] σ = js_J E d 134 6 [(2, 7 + b), (0, x1), (0, x2), (9, 0), (9, 0), (9, 0)] [(0, v)] σ2 :=
  j_call (m := 3) (js_caV q_134_3 (js_Mo qy_134 qm_7_127)) (js_agV (av := [(0, z1), (0, z2)]) (st := []) rfl rfl (js_o7b hb) rfl) rfl rfl (by rw [ql_135]; exact Nat.le_of_ble_eq_true rfl) (Nat.le_of_ble_eq_true rfl) hd hz
theorem kt_134_3 {E : js_E} {d : Nat} {σ σ2 : js_S} {x1 x2 z1 z2 b : Int} (hb : b = 0 ∨ b = 25) {w : Int} (hd : 1 ≤ d) (hz : js_J E (d - 1) 135 0 [(2, 7 + b), (0, z1), (0, z2), (9, 0), (9, 0), (9, 0)] [] σ = js_t E w σ2) : js_J E d 134 3 [(2, 7 + b), (0, x1), (0, x2), (9, 0), (9, 0), (9, 0)] [(0, z2), (0, z1), (2, 7 + b)] σ = js_t E w σ2 :=
  j_callT (m := 3) (js_caV q_134_3 (js_Mo qy_134 qm_7_127)) (js_agV (av := [(0, z1), (0, z2)]) (st := []) rfl rfl (js_o7b hb) rfl) rfl rfl (by rw [ql_135]; exact Nat.le_of_ble_eq_true rfl) (Nat.le_of_ble_eq_true rfl) hd rfl hz
theorem b_134_6 {E : js_E} {d : Nat} {σ : js_S} {x1 x2 z0 b : Int} : js_J E d 134 6 [(2, 7 + b), (0, x1), (0, x2), (9, 0), (9, 0), (9, 0)] [(0, z0)] σ = js_J E d 134 10 [(2, 7 + b), (0, x1), (0, x2), (0, z0), (0, 0), (9, 0)] [] σ :=
  (j_istore_n (l2 := [(2, 7 + b), (0, x1), (0, x2), (0, z0), (9, 0), (9, 0)]) q_134_6 rfl (Nat.le_of_ble_eq_true rfl)).trans <| (j_iconst q_134_7).trans <| (j_istore (l2 := [(2, 7 + b), (0, x1), (0, x2), (0, z0), (0, 0), (9, 0)]) q_134_8 rfl (Nat.le_of_ble_eq_true rfl)).trans <| rfl
theorem b_134_10 {E : js_E} {d : Nat} {σ : js_S} {x1 x2 x3 x4 b : Int} {ux5 : js_v} (hb : b = 0 ∨ b = 25) : js_J E d 134 10 [(2, 7 + b), (0, x1), (0, x2), (0, x3), (0, x4), ux5] [] σ = (if js_w x4 < js_w (σ (7 + b) 1) then (if js_w x3 < 0 then js_r E (2, (-1)) σ else js_J E d 134 26 [(2, 7 + b), (0, x1), (0, x2), (0, x3), (0, x4), ux5] [(0, x4), (2, 7 + b)] σ) else js_r E (2, (-1)) σ) :=
  (j_iload q_134_10 rfl).trans <| (j_aload_n q_134_12 rfl).trans <| (j_get (ji := 1) (v := (0, σ (7 + b) 1)) q_134_13 (js_Fo qy_134 qf_7_31) (js_o7b hb) rfl rfl rfl rfl).trans <| (j_cmpge (t := 78) q_134_16 rfl).trans (js_ite ((j_iload_n q_134_19 rfl).trans <| (j_iflt (t := 78) q_134_20 rfl).trans (js_ite ((j_null q_134_78).trans <| j_areturn q_134_79 qr_134) ((j_aload_n q_134_23 rfl).trans <| (j_iload q_134_24 rfl).trans <| rfl))) ((j_null q_134_78).trans <| j_areturn q_134_79 qr_134))
theorem k_134_26 {E : js_E} {d : Nat} {σ σ2 : js_S} {x1 x2 x3 x4 z1 b : Int} {ux5 : js_v} (hb : b = 0 ∨ b = 25) {v : Int} (hd : 1 ≤ d) (hz : js_J E (d - 1) 67 0 [(2, 7 + b), (0, z1)] [] σ = js_r E (2, v) σ2) : js_J E d 134 26 [(2, 7 + b), (0, x1), (0, x2), (0, x3), (0, x4), ux5] [(0, z1), (2, 7 + b)] σ = js_J E d 134 29 [(2, 7 + b), (0, x1), (0, x2), (0, x3), (0, x4), ux5] [(2, v)] σ2 :=
  j_call (m := 0) (js_caV q_134_26 (js_Mo qy_134 qm_7_50)) (js_agV (av := [(0, z1)]) (st := []) rfl rfl (js_o7b hb) rfl) rfl rfl (by rw [ql_67]; exact Nat.le_of_ble_eq_true rfl) (Nat.le_of_ble_eq_true rfl) hd hz
theorem kt_134_26 {E : js_E} {d : Nat} {σ σ2 : js_S} {x1 x2 x3 x4 z1 b : Int} {ux5 : js_v} (hb : b = 0 ∨ b = 25) {w : Int} (hd : 1 ≤ d) (hz : js_J E (d - 1) 67 0 [(2, 7 + b), (0, z1)] [] σ = js_t E w σ2) : js_J E d 134 26 [(2, 7 + b), (0, x1), (0, x2), (0, x3), (0, x4), ux5] [(0, z1), (2, 7 + b)] σ = js_t E w σ2 :=
  j_callT (m := 0) (js_caV q_134_26 (js_Mo qy_134 qm_7_50)) (js_agV (av := [(0, z1)]) (st := []) rfl rfl (js_o7b hb) rfl) rfl rfl (by rw [ql_67]; exact Nat.le_of_ble_eq_true rfl) (Nat.le_of_ble_eq_true rfl) hd rfl hz
theorem b_134_29 {E : js_E} {d : Nat} {σ : js_S} {x1 x2 x3 x4 z0 b : Int} {ux5 : js_v} : js_J E d 134 29 [(2, 7 + b), (0, x1), (0, x2), (0, x3), (0, x4), ux5] [(2, z0)] σ = (if z0 < 0 then js_J E d 134 72 [(2, 7 + b), (0, x1), (0, x2), (0, x3), (0, x4), (2, z0)] [] σ else js_J E d 134 36 [(2, 7 + b), (0, x1), (0, x2), (0, x3), (0, x4), (2, z0)] [] σ) :=
  (j_astore (l2 := [(2, 7 + b), (0, x1), (0, x2), (0, x3), (0, x4), (2, z0)]) q_134_29 rfl (Nat.le_of_ble_eq_true rfl)).trans <| (j_aload q_134_31 rfl).trans <| (j_ifnull (t := 72) q_134_33 rfl).trans (js_ite (rfl) (rfl))
theorem b_134_36 {E : js_E} {d : Nat} {σ : js_S} {x1 x2 x3 x4 x5 b : Int} (hs_x5 : js_desc E.1 σ x5 = some (0, 11, js_sym)) : js_J E d 134 36 [(2, 7 + b), (0, x1), (0, x2), (0, x3), (0, x4), (2, x5)] [] σ = (if js_w (σ x5 1) = js_w x1 then (if js_w x3 < js_w (σ x5 5) then js_J E d 134 72 [(2, 7 + b), (0, x1), (0, x2), (0, x3), (0, x4), (2, x5)] [] σ else (if js_w x3 < js_w ((σ x5 5) + (σ x5 6)) then js_r E (2, x5) σ else js_J E d 134 72 [(2, 7 + b), (0, x1), (0, x2), (0, x3), (0, x4), (2, x5)] [] σ)) else js_J E d 134 72 [(2, 7 + b), (0, x1), (0, x2), (0, x3), (0, x4), (2, x5)] [] σ) :=
  (j_aload q_134_36 rfl).trans <| (j_get (ji := 1) (v := (0, σ x5 1)) q_134_38 (js_Fo qy_134 qf_7_121) hs_x5 rfl rfl rfl rfl).trans <| (j_iload_n q_134_41 rfl).trans <| (j_cmpne (t := 72) q_134_42 rfl).trans (js_ite ((j_iload_n q_134_45 rfl).trans <| (j_aload q_134_46 rfl).trans <| (j_get (ji := 5) (v := (0, σ x5 5)) q_134_48 (js_Fo qy_134 qf_7_114) hs_x5 rfl rfl rfl rfl).trans <| (j_cmplt (t := 72) q_134_51 rfl).trans (js_ite (rfl) ((j_iload_n q_134_54 rfl).trans <| (j_aload q_134_55 rfl).trans <| (j_get (ji := 5) (v := (0, σ x5 5)) q_134_57 (js_Fo qy_134 qf_7_114) hs_x5 rfl rfl rfl rfl).trans <| (j_aload q_134_60 rfl).trans <| (j_get (ji := 6) (v := (0, σ x5 6)) q_134_62 (js_Fo qy_134 qf_7_124) hs_x5 rfl rfl rfl rfl).trans <| (j_iadd q_134_65).trans <| (j_cmpge (t := 72) q_134_66 rfl).trans (js_ite ((j_aload q_134_69 rfl).trans <| j_areturn q_134_71 qr_134) (rfl))))) (rfl))
theorem b_134_72 {E : js_E} {d : Nat} {σ : js_S} {x1 x2 x3 x4 x5 b : Int} : js_J E d 134 72 [(2, 7 + b), (0, x1), (0, x2), (0, x3), (0, x4), (2, x5)] [] σ = js_J E d 134 10 [(2, 7 + b), (0, x1), (0, x2), (0, x3), (0, x4 + 1), (2, x5)] [] σ :=
  (j_iinc (l2 := [(2, 7 + b), (0, x1), (0, x2), (0, x3), (0, x4 + 1), (2, x5)]) q_134_72 rfl rfl).trans <| (j_goto (t := 10) q_134_75 rfl).trans <| rfl
-- 135: VitalTwin$Program.cellOf (II)I
theorem b_135_0 {E : js_E} {d : Nat} {σ : js_S} {x1 x2 b : Int} : js_J E d 135 0 [(2, 7 + b), (0, x1), (0, x2), (9, 0), (9, 0), (9, 0)] [] σ = js_J E d 135 5 [(2, 7 + b), (0, x1), (0, x2), (0, x2), (0, 0), (9, 0)] [] σ :=
  (j_iload_n q_135_0 rfl).trans <| (j_istore_n (l2 := [(2, 7 + b), (0, x1), (0, x2), (0, x2), (9, 0), (9, 0)]) q_135_1 rfl (Nat.le_of_ble_eq_true rfl)).trans <| (j_iconst q_135_2).trans <| (j_istore (l2 := [(2, 7 + b), (0, x1), (0, x2), (0, x2), (0, 0), (9, 0)]) q_135_3 rfl (Nat.le_of_ble_eq_true rfl)).trans <| rfl
theorem b_135_5 {E : js_E} {d : Nat} {σ : js_S} {x1 x2 x3 x4 b : Int} {ux5 : js_v} (hb : b = 0 ∨ b = 25) : js_J E d 135 5 [(2, 7 + b), (0, x1), (0, x2), (0, x3), (0, x4), ux5] [] σ = (if js_w x4 < js_w (σ (7 + b) 1) then (if js_w x3 < 0 then js_r E (0, (-1)) σ else js_J E d 135 21 [(2, 7 + b), (0, x1), (0, x2), (0, x3), (0, x4), ux5] [(0, x4), (2, 7 + b)] σ) else js_r E (0, (-1)) σ) :=
  (j_iload q_135_5 rfl).trans <| (j_aload_n q_135_7 rfl).trans <| (j_get (ji := 1) (v := (0, σ (7 + b) 1)) q_135_8 (js_Fo qy_135 qf_7_31) (js_o7b hb) rfl rfl rfl rfl).trans <| (j_cmpge (t := 71) q_135_11 rfl).trans (js_ite ((j_iload_n q_135_14 rfl).trans <| (j_iflt (t := 71) q_135_15 rfl).trans (js_ite ((j_iconst q_135_71).trans <| j_ireturn q_135_72 qr_135) ((j_aload_n q_135_18 rfl).trans <| (j_iload q_135_19 rfl).trans <| rfl))) ((j_iconst q_135_71).trans <| j_ireturn q_135_72 qr_135))
theorem k_135_21 {E : js_E} {d : Nat} {σ σ2 : js_S} {x1 x2 x3 x4 z1 b : Int} {ux5 : js_v} (hb : b = 0 ∨ b = 25) {v : Int} (hd : 1 ≤ d) (hz : js_J E (d - 1) 67 0 [(2, 7 + b), (0, z1)] [] σ = js_r E (2, v) σ2) : js_J E d 135 21 [(2, 7 + b), (0, x1), (0, x2), (0, x3), (0, x4), ux5] [(0, z1), (2, 7 + b)] σ = js_J E d 135 24 [(2, 7 + b), (0, x1), (0, x2), (0, x3), (0, x4), ux5] [(2, v)] σ2 :=
  j_call (m := 0) (js_caV q_135_21 (js_Mo qy_135 qm_7_50)) (js_agV (av := [(0, z1)]) (st := []) rfl rfl (js_o7b hb) rfl) rfl rfl (by rw [ql_67]; exact Nat.le_of_ble_eq_true rfl) (Nat.le_of_ble_eq_true rfl) hd hz
theorem kt_135_21 {E : js_E} {d : Nat} {σ σ2 : js_S} {x1 x2 x3 x4 z1 b : Int} {ux5 : js_v} (hb : b = 0 ∨ b = 25) {w : Int} (hd : 1 ≤ d) (hz : js_J E (d - 1) 67 0 [(2, 7 + b), (0, z1)] [] σ = js_t E w σ2) : js_J E d 135 21 [(2, 7 + b), (0, x1), (0, x2), (0, x3), (0, x4), ux5] [(0, z1), (2, 7 + b)] σ = js_t E w σ2 :=
  j_callT (m := 0) (js_caV q_135_21 (js_Mo qy_135 qm_7_50)) (js_agV (av := [(0, z1)]) (st := []) rfl rfl (js_o7b hb) rfl) rfl rfl (by rw [ql_67]; exact Nat.le_of_ble_eq_true rfl) (Nat.le_of_ble_eq_true rfl) hd rfl hz
theorem b_135_24 {E : js_E} {d : Nat} {σ : js_S} {x1 x2 x3 x4 z0 b : Int} {ux5 : js_v} : js_J E d 135 24 [(2, 7 + b), (0, x1), (0, x2), (0, x3), (0, x4), ux5] [(2, z0)] σ = (if z0 < 0 then js_J E d 135 65 [(2, 7 + b), (0, x1), (0, x2), (0, x3), (0, x4), (2, z0)] [] σ else js_J E d 135 31 [(2, 7 + b), (0, x1), (0, x2), (0, x3), (0, x4), (2, z0)] [] σ) :=
  (j_astore (l2 := [(2, 7 + b), (0, x1), (0, x2), (0, x3), (0, x4), (2, z0)]) q_135_24 rfl (Nat.le_of_ble_eq_true rfl)).trans <| (j_aload q_135_26 rfl).trans <| (j_ifnull (t := 65) q_135_28 rfl).trans (js_ite (rfl) (rfl))
theorem b_135_31 {E : js_E} {d : Nat} {σ : js_S} {x1 x2 x3 x4 x5 b : Int} (hs_x5 : js_desc E.1 σ x5 = some (0, 11, js_sym)) : js_J E d 135 31 [(2, 7 + b), (0, x1), (0, x2), (0, x3), (0, x4), (2, x5)] [] σ = (if js_w (σ x5 1) = js_w x1 then (if js_w x3 < js_w (σ x5 6) then js_r E (0, (σ x5 5) + x3) σ else js_J E d 135 65 [(2, 7 + b), (0, x1), (0, x2), (0, x3 - (σ x5 6)), (0, x4), (2, x5)] [] σ) else js_J E d 135 65 [(2, 7 + b), (0, x1), (0, x2), (0, x3), (0, x4), (2, x5)] [] σ) :=
  (j_aload q_135_31 rfl).trans <| (j_get (ji := 1) (v := (0, σ x5 1)) q_135_33 (js_Fo qy_135 qf_7_121) hs_x5 rfl rfl rfl rfl).trans <| (j_iload_n q_135_36 rfl).trans <| (j_cmpne (t := 65) q_135_37 rfl).trans (js_ite ((j_iload_n q_135_40 rfl).trans <| (j_aload q_135_41 rfl).trans <| (j_get (ji := 6) (v := (0, σ x5 6)) q_135_43 (js_Fo qy_135 qf_7_124) hs_x5 rfl rfl rfl rfl).trans <| (j_cmpge (t := 57) q_135_46 rfl).trans (js_ite ((j_aload q_135_49 rfl).trans <| (j_get (ji := 5) (v := (0, σ x5 5)) q_135_51 (js_Fo qy_135 qf_7_114) hs_x5 rfl rfl rfl rfl).trans <| (j_iload_n q_135_54 rfl).trans <| (j_iadd q_135_55).trans <| j_ireturn q_135_56 qr_135) ((j_iload_n q_135_57 rfl).trans <| (j_aload q_135_58 rfl).trans <| (j_get (ji := 6) (v := (0, σ x5 6)) q_135_60 (js_Fo qy_135 qf_7_124) hs_x5 rfl rfl rfl rfl).trans <| (j_isub q_135_63).trans <| (j_istore_n (l2 := [(2, 7 + b), (0, x1), (0, x2), (0, x3 - (σ x5 6)), (0, x4), (2, x5)]) q_135_64 rfl (Nat.le_of_ble_eq_true rfl)).trans <| rfl))) (rfl))
theorem b_135_65 {E : js_E} {d : Nat} {σ : js_S} {x1 x2 x3 x4 x5 b : Int} : js_J E d 135 65 [(2, 7 + b), (0, x1), (0, x2), (0, x3), (0, x4), (2, x5)] [] σ = js_J E d 135 5 [(2, 7 + b), (0, x1), (0, x2), (0, x3), (0, x4 + 1), (2, x5)] [] σ :=
  (j_iinc (l2 := [(2, 7 + b), (0, x1), (0, x2), (0, x3), (0, x4 + 1), (2, x5)]) q_135_65 rfl rfl).trans <| (j_goto (t := 5) q_135_68 rfl).trans <| rfl
-- 136: VitalTwin.probe (IIII)I
theorem b_136_0 {E : js_E} {d : Nat} {σ : js_S} {x1 x2 x3 x4 : Int} : js_J E d 136 0 [(2, 0), (0, x1), (0, x2), (0, x3), (0, x4)] [] σ = (if js_w x4 < 0 then js_r E (0, (-1)) σ else (if 4 < js_w x4 then js_r E (0, (-1)) σ else (if js_w x3 < 0 then js_r E (0, (-1)) σ else js_J E d 136 21 [(2, 0), (0, x1), (0, x2), (0, x3), (0, x4)] [(0, x2), (0, x1), (2, 56)] σ))) :=
  (j_iload q_136_0 rfl).trans <| (j_iflt (t := 37) q_136_2 rfl).trans (js_ite ((j_iconst q_136_37).trans <| j_ireturn q_136_38 qr_136) ((j_iload q_136_5 rfl).trans <| (j_iconst q_136_7).trans <| (j_cmpgtB (t := 37) q_136_8 rfl ww_4).trans (js_ite ((j_iconst q_136_37).trans <| j_ireturn q_136_38 qr_136) ((j_iload_n q_136_11 rfl).trans <| (j_iflt (t := 37) q_136_12 rfl).trans (js_ite ((j_iconst q_136_37).trans <| j_ireturn q_136_38 qr_136) ((j_aload_n q_136_15 rfl).trans <| (j_get (ji := 1) (v := (2, 56)) q_136_16 (js_Fo qy_136 qf_0_46) js_o0 rfl rfl rfl rfl).trans <| (j_iload_n q_136_19 rfl).trans <| (j_iload_n q_136_20 rfl).trans <| rfl))))))
theorem k_136_21 {E : js_E} {d : Nat} {σ σ2 : js_S} {x1 x2 x3 x4 z1 z2 : Int} {v : Int} (hd : 1 ≤ d) (hz : js_J E (d - 1) 137 0 [(2, 56), (0, z1), (0, z2)] [] σ = js_r E (0, v) σ2) : js_J E d 136 21 [(2, 0), (0, x1), (0, x2), (0, x3), (0, x4)] [(0, z2), (0, z1), (2, 56)] σ = js_J E d 136 24 [(2, 0), (0, x1), (0, x2), (0, x3), (0, x4)] [(0, v)] σ2 :=
  j_call (m := 0) (js_caV q_136_21 (js_Mo qy_136 qm_0_172)) (js_agV (av := [(0, z1), (0, z2)]) (st := []) rfl rfl js_o56 rfl) rfl rfl (by rw [ql_137]; exact Nat.le_of_ble_eq_true rfl) (Nat.le_of_ble_eq_true rfl) hd hz
theorem kt_136_21 {E : js_E} {d : Nat} {σ σ2 : js_S} {x1 x2 x3 x4 z1 z2 : Int} {w : Int} (hd : 1 ≤ d) (hz : js_J E (d - 1) 137 0 [(2, 56), (0, z1), (0, z2)] [] σ = js_t E w σ2) : js_J E d 136 21 [(2, 0), (0, x1), (0, x2), (0, x3), (0, x4)] [(0, z2), (0, z1), (2, 56)] σ = js_t E w σ2 :=
  j_callT (m := 0) (js_caV q_136_21 (js_Mo qy_136 qm_0_172)) (js_agV (av := [(0, z1), (0, z2)]) (st := []) rfl rfl js_o56 rfl) rfl rfl (by rw [ql_137]; exact Nat.le_of_ble_eq_true rfl) (Nat.le_of_ble_eq_true rfl) hd rfl hz
theorem b_136_24 {E : js_E} {d : Nat} {σ : js_S} {x1 x2 x3 x4 z0 : Int} : js_J E d 136 24 [(2, 0), (0, x1), (0, x2), (0, x3), (0, x4)] [(0, z0)] σ = (if js_w z0 = 0 then js_r E (0, (-1)) σ else js_J E d 136 31 [(2, 0), (0, x1), (0, x2), (0, x3), (0, x4)] [(2, 56)] σ) :=
  (j_ifeq (t := 37) q_136_24 rfl).trans (js_ite ((j_iconst q_136_37).trans <| j_ireturn q_136_38 qr_136) ((j_aload_n q_136_27 rfl).trans <| (j_get (ji := 1) (v := (2, 56)) q_136_28 (js_Fo qy_136 qf_0_46) js_o0 rfl rfl rfl rfl).trans <| rfl))
theorem k_136_31 {E : js_E} {d : Nat} {σ σ2 : js_S} {x1 x2 x3 x4 : Int} {v : Int} (hd : 1 ≤ d) (hz : js_J E (d - 1) 138 0 [(2, 56)] [] σ = js_r E (0, v) σ2) : js_J E d 136 31 [(2, 0), (0, x1), (0, x2), (0, x3), (0, x4)] [(2, 56)] σ = js_J E d 136 34 [(2, 0), (0, x1), (0, x2), (0, x3), (0, x4)] [(0, v)] σ2 :=
  j_call (m := 0) (js_caV q_136_31 (js_Mo qy_136 qm_0_175)) (js_agV (av := []) (st := []) rfl rfl js_o56 rfl) rfl rfl (by rw [ql_138]; exact Nat.le_of_ble_eq_true rfl) (Nat.le_of_ble_eq_true rfl) hd hz
theorem kt_136_31 {E : js_E} {d : Nat} {σ σ2 : js_S} {x1 x2 x3 x4 : Int} {w : Int} (hd : 1 ≤ d) (hz : js_J E (d - 1) 138 0 [(2, 56)] [] σ = js_t E w σ2) : js_J E d 136 31 [(2, 0), (0, x1), (0, x2), (0, x3), (0, x4)] [(2, 56)] σ = js_t E w σ2 :=
  j_callT (m := 0) (js_caV q_136_31 (js_Mo qy_136 qm_0_175)) (js_agV (av := []) (st := []) rfl rfl js_o56 rfl) rfl rfl (by rw [ql_138]; exact Nat.le_of_ble_eq_true rfl) (Nat.le_of_ble_eq_true rfl) hd rfl hz
theorem b_136_34 {E : js_E} {d : Nat} {σ : js_S} {x1 x2 x3 x4 z0 : Int} : js_J E d 136 34 [(2, 0), (0, x1), (0, x2), (0, x3), (0, x4)] [(0, z0)] σ = (if js_w z0 = 0 then js_r E (0, (-1)) σ else js_J E d 136 48 [(2, 0), (0, x1), (0, x2), (0, x3), (0, x4)] [(0, x4), (0, x3), (0, x2), (0, x1), (2, 56)] σ) :=
  (j_ifne (t := 39) q_136_34 rfl).trans (js_ite ((j_iconst q_136_37).trans <| j_ireturn q_136_38 qr_136) ((j_aload_n q_136_39 rfl).trans <| (j_get (ji := 1) (v := (2, 56)) q_136_40 (js_Fo qy_136 qf_0_46) js_o0 rfl rfl rfl rfl).trans <| (j_iload_n q_136_43 rfl).trans <| (j_iload_n q_136_44 rfl).trans <| (j_iload_n q_136_45 rfl).trans <| (j_iload q_136_46 rfl).trans <| rfl))
theorem k_136_48 {E : js_E} {d : Nat} {σ σ2 : js_S} {x1 x2 x3 x4 z1 z2 z3 z4 : Int} {v : Int} (hd : 1 ≤ d) (hz : js_J E (d - 1) 139 0 [(2, 56), (0, z1), (0, z2), (0, z3), (0, z4), (9, 0), (9, 0), (9, 0)] [] σ = js_r E (0, v) σ2) : js_J E d 136 48 [(2, 0), (0, x1), (0, x2), (0, x3), (0, x4)] [(0, z4), (0, z3), (0, z2), (0, z1), (2, 56)] σ = js_J E d 136 51 [(2, 0), (0, x1), (0, x2), (0, x3), (0, x4)] [(0, v)] σ2 :=
  j_call (m := 3) (js_caV q_136_48 (js_Mo qy_136 qm_0_179)) (js_agV (av := [(0, z1), (0, z2), (0, z3), (0, z4)]) (st := []) rfl rfl js_o56 rfl) rfl rfl (by rw [ql_139]; exact Nat.le_of_ble_eq_true rfl) (Nat.le_of_ble_eq_true rfl) hd hz
theorem kt_136_48 {E : js_E} {d : Nat} {σ σ2 : js_S} {x1 x2 x3 x4 z1 z2 z3 z4 : Int} {w : Int} (hd : 1 ≤ d) (hz : js_J E (d - 1) 139 0 [(2, 56), (0, z1), (0, z2), (0, z3), (0, z4), (9, 0), (9, 0), (9, 0)] [] σ = js_t E w σ2) : js_J E d 136 48 [(2, 0), (0, x1), (0, x2), (0, x3), (0, x4)] [(0, z4), (0, z3), (0, z2), (0, z1), (2, 56)] σ = js_t E w σ2 :=
  j_callT (m := 3) (js_caV q_136_48 (js_Mo qy_136 qm_0_179)) (js_agV (av := [(0, z1), (0, z2), (0, z3), (0, z4)]) (st := []) rfl rfl js_o56 rfl) rfl rfl (by rw [ql_139]; exact Nat.le_of_ble_eq_true rfl) (Nat.le_of_ble_eq_true rfl) hd rfl hz
theorem b_136_51 {E : js_E} {d : Nat} {σ : js_S} {x1 x2 x3 x4 z0 : Int} : js_J E d 136 51 [(2, 0), (0, x1), (0, x2), (0, x3), (0, x4)] [(0, z0)] σ = js_r E (0, z0) σ :=
  j_ireturn q_136_51 qr_136
-- 137: VitalTwin$Machine.hasPlace (II)Z
theorem b_137_0 {E : js_E} {d : Nat} {σ : js_S} {x1 x2 b : Int} (hb : b = 0 ∨ b = 25) (hp : σ 56 1 = 7 + b) : js_J E d 137 0 [(2, 56), (0, x1), (0, x2)] [] σ = (if js_w (σ 56 2) = 0 then js_r E (0, 0) σ else (if js_w x1 < 0 then js_r E (0, 0) σ else (if 1 < js_w x1 then js_r E (0, 0) σ else (if js_w x2 < (-2) then js_r E (0, 0) σ else (if js_w x2 < js_w (σ (7 + b) 2) then js_r E (0, 1) σ else js_r E (0, 0) σ))))) :=
  (j_aload_n q_137_0 rfl).trans <| (j_get (ji := 2) (v := (0, σ 56 2)) q_137_1 (js_Fo qy_137 qf_6_43) js_o56 rfl rfl rfl rfl).trans <| (j_ifeq (t := 37) q_137_4 rfl).trans (js_ite ((j_iconst q_137_37).trans <| j_breturn0 q_137_38 qr_137) ((j_iload_n q_137_7 rfl).trans <| (j_iflt (t := 37) q_137_8 rfl).trans (js_ite ((j_iconst q_137_37).trans <| j_breturn0 q_137_38 qr_137) ((j_iload_n q_137_11 rfl).trans <| (j_iconst q_137_12).trans <| (j_cmpgtB (t := 37) q_137_13 rfl ww_1).trans (js_ite ((j_iconst q_137_37).trans <| j_breturn0 q_137_38 qr_137) ((j_iload_n q_137_16 rfl).trans <| (j_bi q_137_17 rfl).trans <| (j_cmpltB (t := 37) q_137_19 rfl ww_m2).trans (js_ite ((j_iconst q_137_37).trans <| j_breturn0 q_137_38 qr_137) ((j_iload_n q_137_22 rfl).trans <| (j_aload_n q_137_23 rfl).trans <| (j_get (ji := 1) (v := (2, 7 + b)) q_137_24 (js_Fo qy_137 qf_6_39) js_o56 rfl rfl rfl (congrArg (Prod.mk 2) hp)).trans <| (j_get (ji := 2) (v := (0, σ (7 + b) 2)) q_137_27 (js_Fo qy_137 qf_6_77) (js_o7b hb) rfl rfl rfl rfl).trans <| (j_cmpge (t := 37) q_137_30 rfl).trans (js_ite ((j_iconst q_137_33).trans <| (j_goto (t := 38) q_137_34 rfl).trans <| j_breturn1 q_137_38 qr_137) ((j_iconst q_137_37).trans <| j_breturn0 q_137_38 qr_137))))))))))
