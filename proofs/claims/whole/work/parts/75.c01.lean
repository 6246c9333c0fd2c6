/-! part 75.c01: block equations of the class's (and the law's helpers') methods 33 to 45 (printed by wip/whole/tools/gen71.py) -/
theorem qy_35 : vt_O 35 = 7 := by decide +kernel
theorem qr_35 : vt_rc.getD 35 0 = 4 := by decide +kernel
theorem ql_35 : vt_ml.getD 35 0 = 6 := by decide +kernel
theorem qy_40 : vt_O 40 = 8 := by decide +kernel
theorem qr_40 : vt_rc.getD 40 0 = 0 := by decide +kernel
theorem ql_40 : vt_ml.getD 40 0 = 2 := by decide +kernel
theorem qy_41 : vt_O 41 = 2 := by decide +kernel
theorem qr_41 : vt_rc.getD 41 0 = 1 := by decide +kernel
theorem ql_41 : vt_ml.getD 41 0 = 5 := by decide +kernel
theorem qy_43 : vt_O 43 = 11 := by decide +kernel
theorem qr_43 : vt_rc.getD 43 0 = 0 := by decide +kernel
theorem ql_43 : vt_ml.getD 43 0 = 4 := by decide +kernel
theorem qy_37 : vt_O 37 = 7 := by decide +kernel
theorem qr_37 : vt_rc.getD 37 0 = 4 := by decide +kernel
theorem ql_37 : vt_ml.getD 37 0 = 5 := by decide +kernel
theorem qy_38 : vt_O 38 = 11 := by decide +kernel
theorem qr_38 : vt_rc.getD 38 0 = 0 := by decide +kernel
theorem ql_38 : vt_ml.getD 38 0 = 2 := by decide +kernel
theorem qy_39 : vt_O 39 = 11 := by decide +kernel
theorem qr_39 : vt_rc.getD 39 0 = 0 := by decide +kernel
theorem ql_39 : vt_ml.getD 39 0 = 2 := by decide +kernel
theorem qy_42 : vt_O 42 = 8 := by decide +kernel
theorem qr_42 : vt_rc.getD 42 0 = 1 := by decide +kernel
theorem ql_42 : vt_ml.getD 42 0 = 3 := by decide +kernel
theorem qy_46 : vt_O 46 = 2 := by decide +kernel
theorem qr_46 : vt_rc.getD 46 0 = 0 := by decide +kernel
theorem ql_46 : vt_ml.getD 46 0 = 2 := by decide +kernel
theorem qy_49 : vt_O 49 = 2 := by decide +kernel
theorem qr_49 : vt_rc.getD 49 0 = 0 := by decide +kernel
theorem ql_49 : vt_ml.getD 49 0 = 5 := by decide +kernel
theorem qy_51 : vt_O 51 = 2 := by decide +kernel
theorem qr_51 : vt_rc.getD 51 0 = 1 := by decide +kernel
theorem ql_51 : vt_ml.getD 51 0 = 2 := by decide +kernel
theorem q_33_0 : js_I 33 0 = some (.aload_n 0, 1) := by decide +kernel
theorem q_33_1 : js_I 33 1 = some (.getfield 74, 3) := by decide +kernel
theorem q_33_4 : js_I 33 4 = some (.iconst 1, 1) := by decide +kernel
theorem q_33_5 : js_I 33 5 = some (.iadd, 1) := by decide +kernel
theorem q_33_6 : js_I 33 6 = some (.aload_n 0, 1) := by decide +kernel
theorem q_33_7 : js_I 33 7 = some (.getfield 54, 3) := by decide +kernel
theorem q_33_10 : js_I 33 10 = some (.if_icmp .ge 62, 3) := by decide +kernel
theorem q_33_13 : js_I 33 13 = some (.aload_n 0, 1) := by decide +kernel
theorem q_33_14 : js_I 33 14 = some (.dup, 1) := by decide +kernel
theorem q_33_15 : js_I 33 15 = some (.getfield 74, 3) := by decide +kernel
theorem q_33_18 : js_I 33 18 = some (.iconst 1, 1) := by decide +kernel
theorem q_33_19 : js_I 33 19 = some (.iadd, 1) := by decide +kernel
theorem q_33_20 : js_I 33 20 = some (.putfield 74, 3) := by decide +kernel
theorem q_33_23 : js_I 33 23 = some (.aload_n 0, 1) := by decide +kernel
theorem q_33_24 : js_I 33 24 = some (.aload_n 0, 1) := by decide +kernel
theorem q_33_25 : js_I 33 25 = some (.getfield 18, 3) := by decide +kernel
theorem q_33_28 : js_I 33 28 = some (.aload_n 0, 1) := by decide +kernel
theorem q_33_29 : js_I 33 29 = some (.getfield 74, 3) := by decide +kernel
theorem q_33_32 : js_I 33 32 = some (.baload, 1) := by decide +kernel
theorem q_33_33 : js_I 33 33 = some (.sipush 255, 3) := by decide +kernel
theorem q_33_36 : js_I 33 36 = some (.iand, 1) := by decide +kernel
theorem q_33_37 : js_I 33 37 = some (.putfield 131, 3) := by decide +kernel
theorem q_33_40 : js_I 33 40 = some (.aload_n 0, 1) := by decide +kernel
theorem q_33_41 : js_I 33 41 = some (.aload_n 0, 1) := by decide +kernel
theorem q_33_42 : js_I 33 42 = some (.getfield 21, 3) := by decide +kernel
theorem q_33_45 : js_I 33 45 = some (.aload_n 0, 1) := by decide +kernel
theorem q_33_46 : js_I 33 46 = some (.getfield 74, 3) := by decide +kernel
theorem q_33_49 : js_I 33 49 = some (.iaload, 1) := by decide +kernel
theorem q_33_50 : js_I 33 50 = some (.bipush 32, 2) := by decide +kernel
theorem q_33_52 : js_I 33 52 = some (.idiv, 1) := by decide +kernel
theorem q_33_53 : js_I 33 53 = some (.putfield 134, 3) := by decide +kernel
theorem q_33_56 : js_I 33 56 = some (.aload_n 0, 1) := by decide +kernel
theorem q_33_57 : js_I 33 57 = some (.aload_n 0, 1) := by decide +kernel
theorem q_33_58 : js_I 33 58 = some (.getfield 21, 3) := by decide +kernel
theorem q_33_61 : js_I 33 61 = some (.aload_n 0, 1) := by decide +kernel
theorem q_33_62 : js_I 33 62 = some (.getfield 74, 3) := by decide +kernel
theorem q_33_65 : js_I 33 65 = some (.iaload, 1) := by decide +kernel
theorem q_33_66 : js_I 33 66 = some (.bipush 32, 2) := by decide +kernel
theorem q_33_68 : js_I 33 68 = some (.irem, 1) := by decide +kernel
theorem q_33_69 : js_I 33 69 = some (.putfield 128, 3) := by decide +kernel
theorem q_33_72 : js_I 33 72 = some (.aload_n 0, 1) := by decide +kernel
theorem q_33_73 : js_I 33 73 = some (.getfield 131, 3) := by decide +kernel
theorem q_33_76 : js_I 33 76 = some (.iconst 2, 1) := by decide +kernel
theorem q_33_77 : js_I 33 77 = some (.if_icmp .eq 11, 3) := by decide +kernel
theorem q_33_80 : js_I 33 80 = some (.aload_n 0, 1) := by decide +kernel
theorem q_33_81 : js_I 33 81 = some (.getfield 131, 3) := by decide +kernel
theorem q_33_84 : js_I 33 84 = some (.iconst 3, 1) := by decide +kernel
theorem q_33_85 : js_I 33 85 = some (.if_icmp .ne 59, 3) := by decide +kernel
theorem q_33_144 : js_I 33 144 = some (.return_, 1) := by decide +kernel
theorem q_33_88 : js_I 33 88 = some (.iconst 0, 1) := by decide +kernel
theorem q_33_89 : js_I 33 89 = some (.istore_n 1, 1) := by decide +kernel
theorem q_33_90 : js_I 33 90 = some (.iload_n 1, 1) := by decide +kernel
theorem q_33_91 : js_I 33 91 = some (.aload_n 0, 1) := by decide +kernel
theorem q_33_92 : js_I 33 92 = some (.getfield 128, 3) := by decide +kernel
theorem q_33_95 : js_I 33 95 = some (.if_icmp .ge 49, 3) := by decide +kernel
theorem q_33_98 : js_I 33 98 = some (.iload_n 1, 1) := by decide +kernel
theorem q_33_99 : js_I 33 99 = some (.aload_n 0, 1) := by decide +kernel
theorem q_33_100 : js_I 33 100 = some (.getfield 9, 3) := by decide +kernel
theorem q_33_103 : js_I 33 103 = some (.arraylength, 1) := by decide +kernel
theorem q_33_104 : js_I 33 104 = some (.if_icmp .ge 40, 3) := by decide +kernel
theorem q_33_107 : js_I 33 107 = some (.aload_n 0, 1) := by decide +kernel
theorem q_33_108 : js_I 33 108 = some (.getfield 134, 3) := by decide +kernel
theorem q_33_111 : js_I 33 111 = some (.iload_n 1, 1) := by decide +kernel
theorem q_33_112 : js_I 33 112 = some (.iadd, 1) := by decide +kernel
theorem q_33_113 : js_I 33 113 = some (.aload_n 0, 1) := by decide +kernel
theorem q_33_114 : js_I 33 114 = some (.getfield 15, 3) := by decide +kernel
theorem q_33_117 : js_I 33 117 = some (.arraylength, 1) := by decide +kernel
theorem q_33_118 : js_I 33 118 = some (.if_icmp .ge 26, 3) := by decide +kernel
theorem q_33_121 : js_I 33 121 = some (.aload_n 0, 1) := by decide +kernel
theorem q_33_122 : js_I 33 122 = some (.getfield 9, 3) := by decide +kernel
theorem q_33_125 : js_I 33 125 = some (.iload_n 1, 1) := by decide +kernel
theorem q_33_126 : js_I 33 126 = some (.aload_n 0, 1) := by decide +kernel
theorem q_33_127 : js_I 33 127 = some (.getfield 15, 3) := by decide +kernel
theorem q_33_130 : js_I 33 130 = some (.aload_n 0, 1) := by decide +kernel
theorem q_33_131 : js_I 33 131 = some (.getfield 134, 3) := by decide +kernel
theorem q_33_134 : js_I 33 134 = some (.iload_n 1, 1) := by decide +kernel
theorem q_33_135 : js_I 33 135 = some (.iadd, 1) := by decide +kernel
theorem q_33_136 : js_I 33 136 = some (.baload, 1) := by decide +kernel
theorem q_33_137 : js_I 33 137 = some (.bastore, 1) := by decide +kernel
theorem q_33_138 : js_I 33 138 = some (.iinc 1 1, 3) := by decide +kernel
theorem q_33_141 : js_I 33 141 = some (.goto (-51), 3) := by decide +kernel
theorem q_34_0 : js_I 34 0 = some (.aload_n 0, 1) := by decide +kernel
theorem q_34_1 : js_I 34 1 = some (.getfield 17, 3) := by decide +kernel
theorem q_34_4 : js_I 34 4 = some (.invokevirtual 120, 3) := by decide +kernel
theorem q_34_7 : js_I 34 7 = some (.aload_n 0, 1) := by decide +kernel
theorem q_34_8 : js_I 34 8 = some (.getfield 27, 3) := by decide +kernel
theorem q_34_11 : js_I 34 11 = some (.iconst 0, 1) := by decide +kernel
theorem q_34_12 : js_I 34 12 = some (.iconst 0, 1) := by decide +kernel
theorem q_34_13 : js_I 34 13 = some (.aload_n 0, 1) := by decide +kernel
theorem q_34_14 : js_I 34 14 = some (.getfield 17, 3) := by decide +kernel
theorem q_34_17 : js_I 34 17 = some (.invokevirtual 123, 3) := by decide +kernel
theorem q_34_20 : js_I 34 20 = some (.astore_n 1, 1) := by decide +kernel
theorem q_34_21 : js_I 34 21 = some (.aload_n 0, 1) := by decide +kernel
theorem q_34_22 : js_I 34 22 = some (.getfield 17, 3) := by decide +kernel
theorem q_34_25 : js_I 34 25 = some (.bipush 61, 2) := by decide +kernel
theorem q_34_27 : js_I 34 27 = some (.invokevirtual 80, 3) := by decide +kernel
theorem q_34_30 : js_I 34 30 = some (.aload_n 1, 1) := by decide +kernel
theorem q_34_31 : js_I 34 31 = some (.aload_n 0, 1) := by decide +kernel
theorem q_34_32 : js_I 34 32 = some (.getfield 31, 3) := by decide +kernel
theorem q_34_35 : js_I 34 35 = some (.iconst (-1), 1) := by decide +kernel
theorem q_34_36 : js_I 34 36 = some (.invokevirtual 127, 3) := by decide +kernel
theorem q_34_39 : js_I 34 39 = some (.putfield 131, 3) := by decide +kernel
theorem q_34_42 : js_I 34 42 = some (.aload_n 1, 1) := by decide +kernel
theorem q_34_43 : js_I 34 43 = some (.aload_n 0, 1) := by decide +kernel
theorem q_34_44 : js_I 34 44 = some (.getfield 31, 3) := by decide +kernel
theorem q_34_47 : js_I 34 47 = some (.getfield 136, 3) := by decide +kernel
theorem q_34_50 : js_I 34 50 = some (.aload_n 1, 1) := by decide +kernel
theorem q_34_51 : js_I 34 51 = some (.getfield 131, 3) := by decide +kernel
theorem q_34_54 : js_I 34 54 = some (.aload_n 1, 1) := by decide +kernel
theorem q_34_55 : js_I 34 55 = some (.getfield 131, 3) := by decide +kernel
theorem q_34_58 : js_I 34 58 = some (.invokevirtual 138, 3) := by decide +kernel
theorem q_34_61 : js_I 34 61 = some (.aload_n 0, 1) := by decide +kernel
theorem q_34_62 : js_I 34 62 = some (.getfield 17, 3) := by decide +kernel
theorem q_34_65 : js_I 34 65 = some (.bipush 59, 2) := by decide +kernel
theorem q_34_67 : js_I 34 67 = some (.invokevirtual 80, 3) := by decide +kernel
theorem q_34_70 : js_I 34 70 = some (.aload_n 1, 1) := by decide +kernel
theorem q_34_71 : js_I 34 71 = some (.iconst 1, 1) := by decide +kernel
theorem q_34_72 : js_I 34 72 = some (.putfield 142, 3) := by decide +kernel
theorem q_34_75 : js_I 34 75 = some (.return_, 1) := by decide +kernel
theorem q_35_0 : js_I 35 0 = some (.aload_n 3, 1) := by decide +kernel
theorem q_35_1 : js_I 35 1 = some (.getfield 75, 3) := by decide +kernel
theorem q_35_4 : js_I 35 4 = some (.iconst 2, 1) := by decide +kernel
theorem q_35_5 : js_I 35 5 = some (.if_icmp .eq 12, 3) := by decide +kernel
theorem q_35_8 : js_I 35 8 = some (.aload_n 3, 1) := by decide +kernel
theorem q_35_9 : js_I 35 9 = some (.iconst 1, 1) := by decide +kernel
theorem q_35_10 : js_I 35 10 = some (.aload_n 3, 1) := by decide +kernel
theorem q_35_11 : js_I 35 11 = some (.getfield 78, 3) := by decide +kernel
theorem q_35_14 : js_I 35 14 = some (.invokevirtual 81, 3) := by decide +kernel
theorem q_35_17 : js_I 35 17 = some (.aload_n 0, 1) := by decide +kernel
theorem q_35_18 : js_I 35 18 = some (.aload_n 3, 1) := by decide +kernel
theorem q_35_19 : js_I 35 19 = some (.invokevirtual 85, 3) := by decide +kernel
theorem q_35_22 : js_I 35 22 = some (.ifnull 12, 3) := by decide +kernel
theorem q_35_25 : js_I 35 25 = some (.aload_n 3, 1) := by decide +kernel
theorem q_35_26 : js_I 35 26 = some (.iconst 2, 1) := by decide +kernel
theorem q_35_27 : js_I 35 27 = some (.aload_n 3, 1) := by decide +kernel
theorem q_35_28 : js_I 35 28 = some (.getfield 78, 3) := by decide +kernel
theorem q_35_31 : js_I 35 31 = some (.invokevirtual 81, 3) := by decide +kernel
theorem q_35_34 : js_I 35 34 = some (.iload_n 2, 1) := by decide +kernel
theorem q_35_35 : js_I 35 35 = some (.ifCond .ne 13, 3) := by decide +kernel
theorem q_35_38 : js_I 35 38 = some (.aload_n 0, 1) := by decide +kernel
theorem q_35_39 : js_I 35 39 = some (.getfield 31, 3) := by decide +kernel
theorem q_35_42 : js_I 35 42 = some (.sipush 400, 3) := by decide +kernel
theorem q_35_45 : js_I 35 45 = some (.if_icmp .lt 13, 3) := by decide +kernel
theorem q_35_48 : js_I 35 48 = some (.aload_n 3, 1) := by decide +kernel
theorem q_35_49 : js_I 35 49 = some (.bipush 10, 2) := by decide +kernel
theorem q_35_51 : js_I 35 51 = some (.aload_n 3, 1) := by decide +kernel
theorem q_35_52 : js_I 35 52 = some (.getfield 78, 3) := by decide +kernel
theorem q_35_55 : js_I 35 55 = some (.invokevirtual 81, 3) := by decide +kernel
theorem q_35_58 : js_I 35 58 = some (.aload_n 0, 1) := by decide +kernel
theorem q_35_59 : js_I 35 59 = some (.getfield 20, 3) := by decide +kernel
theorem q_35_62 : js_I 35 62 = some (.aload_n 0, 1) := by decide +kernel
theorem q_35_63 : js_I 35 63 = some (.getfield 31, 3) := by decide +kernel
theorem q_35_66 : js_I 35 66 = some (.aaload, 1) := by decide +kernel
theorem q_35_67 : js_I 35 67 = some (.astore 4, 2) := by decide +kernel
theorem q_35_69 : js_I 35 69 = some (.aload 4, 2) := by decide +kernel
theorem q_35_71 : js_I 35 71 = some (.ifnonnull 27, 3) := by decide +kernel
theorem q_35_74 : js_I 35 74 = some (.new 18, 3) := by decide +kernel
theorem q_35_77 : js_I 35 77 = some (.dup, 1) := by decide +kernel
theorem q_35_78 : js_I 35 78 = some (.aload_n 0, 1) := by decide +kernel
theorem q_35_79 : js_I 35 79 = some (.getfield 31, 3) := by decide +kernel
theorem q_35_82 : js_I 35 82 = some (.invokespecial 89, 3) := by decide +kernel
theorem q_35_85 : js_I 35 85 = some (.astore 4, 2) := by decide +kernel
theorem q_35_87 : js_I 35 87 = some (.aload_n 0, 1) := by decide +kernel
theorem q_35_88 : js_I 35 88 = some (.getfield 20, 3) := by decide +kernel
theorem q_35_91 : js_I 35 91 = some (.aload_n 0, 1) := by decide +kernel
theorem q_35_92 : js_I 35 92 = some (.getfield 31, 3) := by decide +kernel
theorem q_35_95 : js_I 35 95 = some (.aload 4, 2) := by decide +kernel
theorem q_35_97 : js_I 35 97 = some (.aastore, 1) := by decide +kernel
theorem q_35_98 : js_I 35 98 = some (.aload 4, 2) := by decide +kernel
theorem q_35_100 : js_I 35 100 = some (.iload_n 1, 1) := by decide +kernel
theorem q_35_101 : js_I 35 101 = some (.invokevirtual 92, 3) := by decide +kernel
theorem q_35_104 : js_I 35 104 = some (.aload 4, 2) := by decide +kernel
theorem q_35_106 : js_I 35 106 = some (.bipush 20, 2) := by decide +kernel
theorem q_35_108 : js_I 35 108 = some (.aload_n 3, 1) := by decide +kernel
theorem q_35_109 : js_I 35 109 = some (.getfield 64, 3) := by decide +kernel
theorem q_35_112 : js_I 35 112 = some (.invokestatic 95, 3) := by decide +kernel
theorem q_35_115 : js_I 35 115 = some (.putfield 54, 3) := by decide +kernel
theorem q_35_118 : js_I 35 118 = some (.iconst 0, 1) := by decide +kernel
theorem q_35_119 : js_I 35 119 = some (.istore 5, 2) := by decide +kernel
theorem q_35_121 : js_I 35 121 = some (.iload 5, 2) := by decide +kernel
theorem q_35_123 : js_I 35 123 = some (.aload 4, 2) := by decide +kernel
theorem q_35_125 : js_I 35 125 = some (.getfield 54, 3) := by decide +kernel
theorem q_35_128 : js_I 35 128 = some (.if_icmp .ge 32, 3) := by decide +kernel
theorem q_35_131 : js_I 35 131 = some (.aload_n 0, 1) := by decide +kernel
theorem q_35_132 : js_I 35 132 = some (.getfield 24, 3) := by decide +kernel
theorem q_35_135 : js_I 35 135 = some (.aload 4, 2) := by decide +kernel
theorem q_35_137 : js_I 35 137 = some (.getfield 57, 3) := by decide +kernel
theorem q_35_140 : js_I 35 140 = some (.bipush 20, 2) := by decide +kernel
theorem q_35_142 : js_I 35 142 = some (.imul, 1) := by decide +kernel
theorem q_35_143 : js_I 35 143 = some (.iload 5, 2) := by decide +kernel
theorem q_35_145 : js_I 35 145 = some (.iadd, 1) := by decide +kernel
theorem q_35_146 : js_I 35 146 = some (.aload_n 3, 1) := by decide +kernel
theorem q_35_147 : js_I 35 147 = some (.getfield 69, 3) := by decide +kernel
theorem q_35_150 : js_I 35 150 = some (.iload 5, 2) := by decide +kernel
theorem q_35_152 : js_I 35 152 = some (.baload, 1) := by decide +kernel
theorem q_35_153 : js_I 35 153 = some (.bastore, 1) := by decide +kernel
theorem q_35_154 : js_I 35 154 = some (.iinc 5 1, 3) := by decide +kernel
theorem q_35_157 : js_I 35 157 = some (.goto (-36), 3) := by decide +kernel
theorem q_35_160 : js_I 35 160 = some (.aload_n 0, 1) := by decide +kernel
theorem q_35_161 : js_I 35 161 = some (.dup, 1) := by decide +kernel
theorem q_35_162 : js_I 35 162 = some (.getfield 31, 3) := by decide +kernel
theorem q_35_165 : js_I 35 165 = some (.iconst 1, 1) := by decide +kernel
theorem q_35_166 : js_I 35 166 = some (.iadd, 1) := by decide +kernel
theorem q_35_167 : js_I 35 167 = some (.putfield 31, 3) := by decide +kernel
theorem q_35_170 : js_I 35 170 = some (.aload_n 3, 1) := by decide +kernel
theorem q_35_171 : js_I 35 171 = some (.invokevirtual 101, 3) := by decide +kernel
theorem q_35_174 : js_I 35 174 = some (.aload 4, 2) := by decide +kernel
theorem q_35_176 : js_I 35 176 = some (.areturn, 1) := by decide +kernel
theorem q_36_0 : js_I 36 0 = some (.aload_n 0, 1) := by decide +kernel
theorem q_36_1 : js_I 36 1 = some (.iload_n 1, 1) := by decide +kernel
theorem q_36_2 : js_I 36 2 = some (.bipush 16, 2) := by decide +kernel
theorem q_36_4 : js_I 36 4 = some (.iload_n 2, 1) := by decide +kernel
theorem q_36_5 : js_I 36 5 = some (.imul, 1) := by decide +kernel
theorem q_36_6 : js_I 36 6 = some (.iadd, 1) := by decide +kernel
theorem q_36_7 : js_I 36 7 = some (.putfield 71, 3) := by decide +kernel
theorem q_36_10 : js_I 36 10 = some (.new 137, 3) := by decide +kernel
theorem q_37_0 : js_I 37 0 = some (.iconst 0, 1) := by decide +kernel
theorem q_37_1 : js_I 37 1 = some (.istore_n 2, 1) := by decide +kernel
theorem q_37_2 : js_I 37 2 = some (.iload_n 2, 1) := by decide +kernel
theorem q_37_3 : js_I 37 3 = some (.aload_n 0, 1) := by decide +kernel
theorem q_37_4 : js_I 37 4 = some (.getfield 31, 3) := by decide +kernel
theorem q_37_7 : js_I 37 7 = some (.if_icmp .ge 98, 3) := by decide +kernel
theorem q_37_10 : js_I 37 10 = some (.iload_n 2, 1) := by decide +kernel
theorem q_37_11 : js_I 37 11 = some (.aload_n 0, 1) := by decide +kernel
theorem q_37_12 : js_I 37 12 = some (.getfield 20, 3) := by decide +kernel
theorem q_37_15 : js_I 37 15 = some (.arraylength, 1) := by decide +kernel
theorem q_37_16 : js_I 37 16 = some (.if_icmp .ge 89, 3) := by decide +kernel
theorem q_37_19 : js_I 37 19 = some (.aload_n 0, 1) := by decide +kernel
theorem q_37_20 : js_I 37 20 = some (.getfield 20, 3) := by decide +kernel
theorem q_37_23 : js_I 37 23 = some (.iload_n 2, 1) := by decide +kernel
theorem q_37_24 : js_I 37 24 = some (.aaload, 1) := by decide +kernel
theorem q_37_25 : js_I 37 25 = some (.astore_n 3, 1) := by decide +kernel
theorem q_37_26 : js_I 37 26 = some (.aload_n 3, 1) := by decide +kernel
theorem q_37_27 : js_I 37 27 = some (.ifnull 72, 3) := by decide +kernel
theorem q_37_105 : js_I 37 105 = some (.aconst_null, 1) := by decide +kernel
theorem q_37_106 : js_I 37 106 = some (.areturn, 1) := by decide +kernel
theorem q_37_30 : js_I 37 30 = some (.aload_n 3, 1) := by decide +kernel
theorem q_37_31 : js_I 37 31 = some (.getfield 60, 3) := by decide +kernel
theorem q_37_34 : js_I 37 34 = some (.ifCond .eq 65, 3) := by decide +kernel
theorem q_37_37 : js_I 37 37 = some (.aload_n 3, 1) := by decide +kernel
theorem q_37_38 : js_I 37 38 = some (.getfield 54, 3) := by decide +kernel
theorem q_37_41 : js_I 37 41 = some (.aload_n 1, 1) := by decide +kernel
theorem q_37_42 : js_I 37 42 = some (.getfield 64, 3) := by decide +kernel
theorem q_37_45 : js_I 37 45 = some (.if_icmp .ne 54, 3) := by decide +kernel
theorem q_37_48 : js_I 37 48 = some (.iconst 0, 1) := by decide +kernel
theorem q_37_49 : js_I 37 49 = some (.istore 4, 2) := by decide +kernel
theorem q_37_51 : js_I 37 51 = some (.iload 4, 2) := by decide +kernel
theorem q_37_53 : js_I 37 53 = some (.aload_n 3, 1) := by decide +kernel
theorem q_37_54 : js_I 37 54 = some (.getfield 54, 3) := by decide +kernel
theorem q_37_57 : js_I 37 57 = some (.if_icmp .ge 31, 3) := by decide +kernel
theorem q_37_60 : js_I 37 60 = some (.aload_n 0, 1) := by decide +kernel
theorem q_37_61 : js_I 37 61 = some (.getfield 24, 3) := by decide +kernel
theorem q_37_64 : js_I 37 64 = some (.iload_n 2, 1) := by decide +kernel
theorem q_37_65 : js_I 37 65 = some (.bipush 20, 2) := by decide +kernel
theorem q_37_67 : js_I 37 67 = some (.imul, 1) := by decide +kernel
theorem q_37_68 : js_I 37 68 = some (.iload 4, 2) := by decide +kernel
theorem q_37_70 : js_I 37 70 = some (.iadd, 1) := by decide +kernel
theorem q_37_71 : js_I 37 71 = some (.baload, 1) := by decide +kernel
theorem q_37_72 : js_I 37 72 = some (.aload_n 1, 1) := by decide +kernel
theorem q_37_73 : js_I 37 73 = some (.getfield 69, 3) := by decide +kernel
theorem q_37_76 : js_I 37 76 = some (.iload 4, 2) := by decide +kernel
theorem q_37_78 : js_I 37 78 = some (.baload, 1) := by decide +kernel
theorem q_37_79 : js_I 37 79 = some (.if_icmp .ne 9, 3) := by decide +kernel
theorem q_37_82 : js_I 37 82 = some (.iinc 4 1, 3) := by decide +kernel
theorem q_37_85 : js_I 37 85 = some (.goto (-34), 3) := by decide +kernel
theorem q_37_88 : js_I 37 88 = some (.iload 4, 2) := by decide +kernel
theorem q_37_90 : js_I 37 90 = some (.aload_n 3, 1) := by decide +kernel
theorem q_37_91 : js_I 37 91 = some (.getfield 54, 3) := by decide +kernel
theorem q_37_94 : js_I 37 94 = some (.if_icmp .ne 5, 3) := by decide +kernel
theorem q_37_97 : js_I 37 97 = some (.aload_n 3, 1) := by decide +kernel
theorem q_37_98 : js_I 37 98 = some (.areturn, 1) := by decide +kernel
theorem q_37_99 : js_I 37 99 = some (.iinc 2 1, 3) := by decide +kernel
theorem q_37_102 : js_I 37 102 = some (.goto (-100), 3) := by decide +kernel
theorem q_38_0 : js_I 38 0 = some (.aload_n 0, 1) := by decide +kernel
theorem q_38_1 : js_I 38 1 = some (.invokespecial 3, 3) := by decide +kernel
theorem q_38_4 : js_I 38 4 = some (.aload_n 0, 1) := by decide +kernel
theorem q_38_5 : js_I 38 5 = some (.iload_n 1, 1) := by decide +kernel
theorem q_38_6 : js_I 38 6 = some (.putfield 9, 3) := by decide +kernel
theorem q_38_9 : js_I 38 9 = some (.return_, 1) := by decide +kernel
theorem q_39_0 : js_I 39 0 = some (.aload_n 0, 1) := by decide +kernel
theorem q_39_1 : js_I 39 1 = some (.iload_n 1, 1) := by decide +kernel
theorem q_39_2 : js_I 39 2 = some (.putfield 15, 3) := by decide +kernel
theorem q_39_5 : js_I 39 5 = some (.aload_n 0, 1) := by decide +kernel
theorem q_39_6 : js_I 39 6 = some (.iconst 2, 1) := by decide +kernel
theorem q_39_7 : js_I 39 7 = some (.putfield 18, 3) := by decide +kernel
theorem q_39_10 : js_I 39 10 = some (.aload_n 0, 1) := by decide +kernel
theorem q_39_11 : js_I 39 11 = some (.iconst 0, 1) := by decide +kernel
theorem q_39_12 : js_I 39 12 = some (.putfield 21, 3) := by decide +kernel
theorem q_39_15 : js_I 39 15 = some (.aload_n 0, 1) := by decide +kernel
theorem q_39_16 : js_I 39 16 = some (.iconst 0, 1) := by decide +kernel
theorem q_39_17 : js_I 39 17 = some (.putfield 24, 3) := by decide +kernel
theorem q_39_20 : js_I 39 20 = some (.aload_n 0, 1) := by decide +kernel
theorem q_39_21 : js_I 39 21 = some (.iconst (-1), 1) := by decide +kernel
theorem q_39_22 : js_I 39 22 = some (.putfield 27, 3) := by decide +kernel
theorem q_39_25 : js_I 39 25 = some (.aload_n 0, 1) := by decide +kernel
theorem q_39_26 : js_I 39 26 = some (.iconst 1, 1) := by decide +kernel
theorem q_39_27 : js_I 39 27 = some (.putfield 30, 3) := by decide +kernel
theorem q_39_30 : js_I 39 30 = some (.aload_n 0, 1) := by decide +kernel
theorem q_39_31 : js_I 39 31 = some (.iconst (-1), 1) := by decide +kernel
theorem q_39_32 : js_I 39 32 = some (.putfield 33, 3) := by decide +kernel
theorem q_39_35 : js_I 39 35 = some (.aload_n 0, 1) := by decide +kernel
theorem q_39_36 : js_I 39 36 = some (.iconst 0, 1) := by decide +kernel
theorem q_39_37 : js_I 39 37 = some (.putfield 36, 3) := by decide +kernel
theorem q_39_40 : js_I 39 40 = some (.aload_n 0, 1) := by decide +kernel
theorem q_39_41 : js_I 39 41 = some (.iconst 0, 1) := by decide +kernel
theorem q_39_42 : js_I 39 42 = some (.putfield 39, 3) := by decide +kernel
theorem q_39_45 : js_I 39 45 = some (.aload_n 0, 1) := by decide +kernel
theorem q_39_46 : js_I 39 46 = some (.iconst 0, 1) := by decide +kernel
theorem q_39_47 : js_I 39 47 = some (.putfield 42, 3) := by decide +kernel
theorem q_39_50 : js_I 39 50 = some (.aload_n 0, 1) := by decide +kernel
theorem q_39_51 : js_I 39 51 = some (.iconst (-1), 1) := by decide +kernel
theorem q_39_52 : js_I 39 52 = some (.putfield 45, 3) := by decide +kernel
theorem q_39_55 : js_I 39 55 = some (.aload_n 0, 1) := by decide +kernel
theorem q_39_56 : js_I 39 56 = some (.iconst 0, 1) := by decide +kernel
theorem q_39_57 : js_I 39 57 = some (.putfield 48, 3) := by decide +kernel
theorem q_39_60 : js_I 39 60 = some (.aload_n 0, 1) := by decide +kernel
theorem q_39_61 : js_I 39 61 = some (.iconst 0, 1) := by decide +kernel
theorem q_39_62 : js_I 39 62 = some (.putfield 52, 3) := by decide +kernel
theorem q_39_65 : js_I 39 65 = some (.return_, 1) := by decide +kernel
theorem q_40_0 : js_I 40 0 = some (.aload_n 0, 1) := by decide +kernel
theorem q_40_1 : js_I 40 1 = some (.getfield 131, 3) := by decide +kernel
theorem q_40_4 : js_I 40 4 = some (.iload_n 1, 1) := by decide +kernel
theorem q_40_5 : js_I 40 5 = some (.if_icmp .eq 12, 3) := by decide +kernel
theorem q_40_8 : js_I 40 8 = some (.aload_n 0, 1) := by decide +kernel
theorem q_40_9 : js_I 40 9 = some (.iconst 1, 1) := by decide +kernel
theorem q_40_10 : js_I 40 10 = some (.aload_n 0, 1) := by decide +kernel
theorem q_40_11 : js_I 40 11 = some (.getfield 134, 3) := by decide +kernel
theorem q_40_14 : js_I 40 14 = some (.invokevirtual 144, 3) := by decide +kernel
theorem q_40_17 : js_I 40 17 = some (.aload_n 0, 1) := by decide +kernel
theorem q_40_18 : js_I 40 18 = some (.invokevirtual 77, 3) := by decide +kernel
theorem q_40_21 : js_I 40 21 = some (.return_, 1) := by decide +kernel
theorem q_41_0 : js_I 41 0 = some (.aload_n 0, 1) := by decide +kernel
theorem q_41_1 : js_I 41 1 = some (.aload_n 0, 1) := by decide +kernel
theorem q_41_2 : js_I 41 2 = some (.getfield 9, 3) := by decide +kernel
theorem q_41_5 : js_I 41 5 = some (.getfield 19, 3) := by decide +kernel
theorem q_41_8 : js_I 41 8 = some (.putfield 25, 3) := by decide +kernel
theorem q_41_11 : js_I 41 11 = some (.aload_n 0, 1) := by decide +kernel
theorem q_41_12 : js_I 41 12 = some (.getfield 9, 3) := by decide +kernel
theorem q_41_15 : js_I 41 15 = some (.getfield 28, 3) := by decide +kernel
theorem q_41_18 : js_I 41 18 = some (.bipush 45, 2) := by decide +kernel
theorem q_41_20 : js_I 41 20 = some (.if_icmp .ne 7, 3) := by decide +kernel
theorem q_41_23 : js_I 41 23 = some (.iconst 1, 1) := by decide +kernel
theorem q_41_24 : js_I 41 24 = some (.goto 4, 3) := by decide +kernel
theorem q_41_27 : js_I 41 27 = some (.iconst 0, 1) := by decide +kernel
theorem q_41_28 : js_I 41 28 = some (.istore_n 2, 1) := by decide +kernel
theorem q_41_29 : js_I 41 29 = some (.iload_n 2, 1) := by decide +kernel
theorem q_41_30 : js_I 41 30 = some (.ifCond .eq 10, 3) := by decide +kernel
theorem q_41_33 : js_I 41 33 = some (.aload_n 0, 1) := by decide +kernel
theorem q_41_34 : js_I 41 34 = some (.getfield 9, 3) := by decide +kernel
theorem q_41_37 : js_I 41 37 = some (.invokevirtual 31, 3) := by decide +kernel
theorem q_41_40 : js_I 41 40 = some (.aload_n 0, 1) := by decide +kernel
theorem q_41_41 : js_I 41 41 = some (.getfield 9, 3) := by decide +kernel
theorem q_41_44 : js_I 41 44 = some (.getfield 28, 3) := by decide +kernel
theorem q_41_47 : js_I 41 47 = some (.iconst 3, 1) := by decide +kernel
theorem q_41_48 : js_I 41 48 = some (.if_icmp .ne 22, 3) := by decide +kernel
theorem q_41_51 : js_I 41 51 = some (.aload_n 0, 1) := by decide +kernel
theorem q_41_52 : js_I 41 52 = some (.iconst 0, 1) := by decide +kernel
theorem q_41_53 : js_I 41 53 = some (.putfield 34, 3) := by decide +kernel
theorem q_41_56 : js_I 41 56 = some (.aload_n 0, 1) := by decide +kernel
theorem q_41_57 : js_I 41 57 = some (.aload_n 0, 1) := by decide +kernel
theorem q_41_58 : js_I 41 58 = some (.getfield 9, 3) := by decide +kernel
theorem q_41_61 : js_I 41 61 = some (.invokevirtual 37, 3) := by decide +kernel
theorem q_41_70 : js_I 41 70 = some (.aload_n 0, 1) := by decide +kernel
theorem q_41_71 : js_I 41 71 = some (.getfield 9, 3) := by decide +kernel
theorem q_41_74 : js_I 41 74 = some (.getfield 28, 3) := by decide +kernel
theorem q_41_77 : js_I 41 77 = some (.iconst 2, 1) := by decide +kernel
theorem q_41_78 : js_I 41 78 = some (.if_icmp .ne 99, 3) := by decide +kernel
theorem q_41_81 : js_I 41 81 = some (.aload_n 0, 1) := by decide +kernel
theorem q_41_82 : js_I 41 82 = some (.getfield 15, 3) := by decide +kernel
theorem q_41_85 : js_I 41 85 = some (.aload_n 0, 1) := by decide +kernel
theorem q_41_86 : js_I 41 86 = some (.getfield 9, 3) := by decide +kernel
theorem q_41_89 : js_I 41 89 = some (.invokevirtual 44, 3) := by decide +kernel
theorem q_41_177 : js_I 41 177 = some (.iload_n 2, 1) := by decide +kernel
theorem q_41_178 : js_I 41 178 = some (.ifCond .ne 59, 3) := by decide +kernel
theorem q_41_181 : js_I 41 181 = some (.aload_n 0, 1) := by decide +kernel
theorem q_41_182 : js_I 41 182 = some (.getfield 9, 3) := by decide +kernel
theorem q_41_185 : js_I 41 185 = some (.getfield 28, 3) := by decide +kernel
theorem q_41_188 : js_I 41 188 = some (.sipush 216, 3) := by decide +kernel
theorem q_41_191 : js_I 41 191 = some (.if_icmp .eq 16, 3) := by decide +kernel
theorem q_41_194 : js_I 41 194 = some (.aload_n 0, 1) := by decide +kernel
theorem q_41_195 : js_I 41 195 = some (.getfield 9, 3) := by decide +kernel
theorem q_41_198 : js_I 41 198 = some (.getfield 28, 3) := by decide +kernel
theorem q_41_201 : js_I 41 201 = some (.sipush 217, 3) := by decide +kernel
theorem q_41_204 : js_I 41 204 = some (.if_icmp .ne 33, 3) := by decide +kernel
theorem q_41_64 : js_I 41 64 = some (.putfield 41, 3) := by decide +kernel
theorem q_41_67 : js_I 41 67 = some (.goto 185, 3) := by decide +kernel
theorem q_41_92 : js_I 41 92 = some (.astore_n 3, 1) := by decide +kernel
theorem q_41_93 : js_I 41 93 = some (.aload_n 3, 1) := by decide +kernel
theorem q_41_94 : js_I 41 94 = some (.ifnull 23, 3) := by decide +kernel
theorem q_41_97 : js_I 41 97 = some (.aload_n 3, 1) := by decide +kernel
theorem q_41_98 : js_I 41 98 = some (.getfield 50, 3) := by decide +kernel
theorem q_41_101 : js_I 41 101 = some (.ifCond .eq 12, 3) := by decide +kernel
theorem q_41_104 : js_I 41 104 = some (.aload_n 3, 1) := by decide +kernel
theorem q_41_105 : js_I 41 105 = some (.getfield 50, 3) := by decide +kernel
theorem q_41_108 : js_I 41 108 = some (.bipush 9, 2) := by decide +kernel
theorem q_41_110 : js_I 41 110 = some (.if_icmp .ne 7, 3) := by decide +kernel
theorem q_41_113 : js_I 41 113 = some (.iconst 1, 1) := by decide +kernel
theorem q_41_114 : js_I 41 114 = some (.goto 4, 3) := by decide +kernel
theorem q_41_117 : js_I 41 117 = some (.iconst 0, 1) := by decide +kernel
theorem q_41_118 : js_I 41 118 = some (.istore 4, 2) := by decide +kernel
theorem q_41_120 : js_I 41 120 = some (.iload 4, 2) := by decide +kernel
theorem q_41_122 : js_I 41 122 = some (.ifCond .ne 18, 3) := by decide +kernel
theorem q_41_125 : js_I 41 125 = some (.aload_n 0, 1) := by decide +kernel
theorem q_41_126 : js_I 41 126 = some (.getfield 9, 3) := by decide +kernel
theorem q_41_129 : js_I 41 129 = some (.iconst 3, 1) := by decide +kernel
theorem q_41_130 : js_I 41 130 = some (.aload_n 0, 1) := by decide +kernel
theorem q_41_131 : js_I 41 131 = some (.getfield 9, 3) := by decide +kernel
theorem q_41_134 : js_I 41 134 = some (.getfield 19, 3) := by decide +kernel
theorem q_41_137 : js_I 41 137 = some (.invokevirtual 55, 3) := by decide +kernel
theorem q_41_140 : js_I 41 140 = some (.aload_n 0, 1) := by decide +kernel
theorem q_41_141 : js_I 41 141 = some (.iload 4, 2) := by decide +kernel
theorem q_41_143 : js_I 41 143 = some (.ifCond .eq 10, 3) := by decide +kernel
theorem q_41_153 : js_I 41 153 = some (.iconst 0, 1) := by decide +kernel
theorem q_41_146 : js_I 41 146 = some (.aload_n 3, 1) := by decide +kernel
theorem q_41_147 : js_I 41 147 = some (.getfield 59, 3) := by decide +kernel
theorem q_41_150 : js_I 41 150 = some (.goto 4, 3) := by decide +kernel
theorem q_41_154 : js_I 41 154 = some (.putfield 34, 3) := by decide +kernel
theorem q_41_157 : js_I 41 157 = some (.aload_n 0, 1) := by decide +kernel
theorem q_41_158 : js_I 41 158 = some (.iload 4, 2) := by decide +kernel
theorem q_41_160 : js_I 41 160 = some (.ifCond .eq 10, 3) := by decide +kernel
theorem q_41_170 : js_I 41 170 = some (.iconst 0, 1) := by decide +kernel
theorem q_41_163 : js_I 41 163 = some (.aload_n 3, 1) := by decide +kernel
theorem q_41_164 : js_I 41 164 = some (.getfield 60, 3) := by decide +kernel
theorem q_41_167 : js_I 41 167 = some (.goto 4, 3) := by decide +kernel
theorem q_41_171 : js_I 41 171 = some (.putfield 41, 3) := by decide +kernel
theorem q_41_174 : js_I 41 174 = some (.goto 78, 3) := by decide +kernel
theorem q_41_207 : js_I 41 207 = some (.aload_n 0, 1) := by decide +kernel
theorem q_41_208 : js_I 41 208 = some (.iconst 1, 1) := by decide +kernel
theorem q_41_209 : js_I 41 209 = some (.putfield 34, 3) := by decide +kernel
theorem q_41_212 : js_I 41 212 = some (.aload_n 0, 1) := by decide +kernel
theorem q_41_213 : js_I 41 213 = some (.aload_n 0, 1) := by decide +kernel
theorem q_41_214 : js_I 41 214 = some (.getfield 9, 3) := by decide +kernel
theorem q_41_217 : js_I 41 217 = some (.getfield 28, 3) := by decide +kernel
theorem q_41_220 : js_I 41 220 = some (.sipush 216, 3) := by decide +kernel
theorem q_41_223 : js_I 41 223 = some (.if_icmp .ne 7, 3) := by decide +kernel
theorem q_41_226 : js_I 41 226 = some (.iconst 1, 1) := by decide +kernel
theorem q_41_227 : js_I 41 227 = some (.goto 4, 3) := by decide +kernel
theorem q_41_230 : js_I 41 230 = some (.iconst 0, 1) := by decide +kernel
theorem q_41_231 : js_I 41 231 = some (.putfield 41, 3) := by decide +kernel
theorem q_41_234 : js_I 41 234 = some (.goto 18, 3) := by decide +kernel
theorem q_41_237 : js_I 41 237 = some (.aload_n 0, 1) := by decide +kernel
theorem q_41_238 : js_I 41 238 = some (.getfield 9, 3) := by decide +kernel
theorem q_41_241 : js_I 41 241 = some (.iconst 1, 1) := by decide +kernel
theorem q_41_242 : js_I 41 242 = some (.aload_n 0, 1) := by decide +kernel
theorem q_41_243 : js_I 41 243 = some (.getfield 9, 3) := by decide +kernel
theorem q_41_246 : js_I 41 246 = some (.getfield 19, 3) := by decide +kernel
theorem q_41_249 : js_I 41 249 = some (.invokevirtual 55, 3) := by decide +kernel
theorem q_41_252 : js_I 41 252 = some (.iload_n 2, 1) := by decide +kernel
theorem q_41_253 : js_I 41 253 = some (.ifCond .eq 10, 3) := by decide +kernel
theorem q_41_256 : js_I 41 256 = some (.aload_n 0, 1) := by decide +kernel
theorem q_41_257 : js_I 41 257 = some (.getfield 34, 3) := by decide +kernel
theorem q_41_260 : js_I 41 260 = some (.ifCond .ne 16, 3) := by decide +kernel
theorem q_41_263 : js_I 41 263 = some (.iload_n 1, 1) := by decide +kernel
theorem q_41_264 : js_I 41 264 = some (.iconst (-1), 1) := by decide +kernel
theorem q_41_265 : js_I 41 265 = some (.if_icmp .eq 23, 3) := by decide +kernel
theorem q_41_268 : js_I 41 268 = some (.aload_n 0, 1) := by decide +kernel
theorem q_41_269 : js_I 41 269 = some (.getfield 34, 3) := by decide +kernel
theorem q_41_272 : js_I 41 272 = some (.iload_n 1, 1) := by decide +kernel
theorem q_41_273 : js_I 41 273 = some (.if_icmp .eq 15, 3) := by decide +kernel
theorem q_41_276 : js_I 41 276 = some (.aload_n 0, 1) := by decide +kernel
theorem q_41_277 : js_I 41 277 = some (.getfield 9, 3) := by decide +kernel
theorem q_41_280 : js_I 41 280 = some (.iconst 5, 1) := by decide +kernel
theorem q_41_281 : js_I 41 281 = some (.aload_n 0, 1) := by decide +kernel
theorem q_41_282 : js_I 41 282 = some (.getfield 25, 3) := by decide +kernel
theorem q_41_285 : js_I 41 285 = some (.invokevirtual 55, 3) := by decide +kernel
theorem q_41_288 : js_I 41 288 = some (.aload_n 0, 1) := by decide +kernel
theorem q_41_289 : js_I 41 289 = some (.iload_n 2, 1) := by decide +kernel
theorem q_41_290 : js_I 41 290 = some (.ifCond .eq 11, 3) := by decide +kernel
theorem q_41_301 : js_I 41 301 = some (.aload_n 0, 1) := by decide +kernel
theorem q_41_302 : js_I 41 302 = some (.getfield 41, 3) := by decide +kernel
theorem q_41_293 : js_I 41 293 = some (.aload_n 0, 1) := by decide +kernel
theorem q_41_294 : js_I 41 294 = some (.getfield 41, 3) := by decide +kernel
theorem q_41_297 : js_I 41 297 = some (.ineg, 1) := by decide +kernel
theorem q_41_298 : js_I 41 298 = some (.goto 7, 3) := by decide +kernel
theorem q_41_305 : js_I 41 305 = some (.putfield 41, 3) := by decide +kernel
theorem q_41_308 : js_I 41 308 = some (.aload_n 0, 1) := by decide +kernel
theorem q_41_309 : js_I 41 309 = some (.getfield 9, 3) := by decide +kernel
theorem q_41_312 : js_I 41 312 = some (.invokevirtual 31, 3) := by decide +kernel
theorem q_41_315 : js_I 41 315 = some (.aload_n 0, 1) := by decide +kernel
theorem q_41_316 : js_I 41 316 = some (.getfield 41, 3) := by decide +kernel
theorem q_41_319 : js_I 41 319 = some (.ireturn, 1) := by decide +kernel
theorem q_42_0 : js_I 42 0 = some (.iconst 0, 1) := by decide +kernel
theorem q_42_1 : js_I 42 1 = some (.istore_n 1, 1) := by decide +kernel
theorem q_42_2 : js_I 42 2 = some (.iconst 0, 1) := by decide +kernel
theorem q_42_3 : js_I 42 3 = some (.istore_n 2, 1) := by decide +kernel
theorem q_42_4 : js_I 42 4 = some (.iload_n 2, 1) := by decide +kernel
theorem q_42_5 : js_I 42 5 = some (.aload_n 0, 1) := by decide +kernel
theorem q_42_6 : js_I 42 6 = some (.getfield 128, 3) := by decide +kernel
theorem q_42_9 : js_I 42 9 = some (.if_icmp .ge 33, 3) := by decide +kernel
theorem q_42_12 : js_I 42 12 = some (.iload_n 2, 1) := by decide +kernel
theorem q_42_13 : js_I 42 13 = some (.aload_n 0, 1) := by decide +kernel
theorem q_42_14 : js_I 42 14 = some (.getfield 9, 3) := by decide +kernel
theorem q_42_17 : js_I 42 17 = some (.arraylength, 1) := by decide +kernel
theorem q_42_18 : js_I 42 18 = some (.if_icmp .ge 24, 3) := by decide +kernel
theorem q_42_21 : js_I 42 21 = some (.bipush 10, 2) := by decide +kernel
theorem q_42_23 : js_I 42 23 = some (.iload_n 1, 1) := by decide +kernel
theorem q_42_24 : js_I 42 24 = some (.imul, 1) := by decide +kernel
theorem q_42_25 : js_I 42 25 = some (.aload_n 0, 1) := by decide +kernel
theorem q_42_26 : js_I 42 26 = some (.getfield 9, 3) := by decide +kernel
theorem q_42_29 : js_I 42 29 = some (.iload_n 2, 1) := by decide +kernel
theorem q_42_30 : js_I 42 30 = some (.baload, 1) := by decide +kernel
theorem q_42_31 : js_I 42 31 = some (.iadd, 1) := by decide +kernel
theorem q_42_32 : js_I 42 32 = some (.bipush 48, 2) := by decide +kernel
theorem q_42_34 : js_I 42 34 = some (.isub, 1) := by decide +kernel
theorem q_42_35 : js_I 42 35 = some (.istore_n 1, 1) := by decide +kernel
theorem q_42_36 : js_I 42 36 = some (.iinc 2 1, 3) := by decide +kernel
theorem q_42_39 : js_I 42 39 = some (.goto (-35), 3) := by decide +kernel
theorem q_42_42 : js_I 42 42 = some (.iload_n 1, 1) := by decide +kernel
theorem q_42_43 : js_I 42 43 = some (.ireturn, 1) := by decide +kernel
theorem q_43_0 : js_I 43 0 = some (.aload_n 0, 1) := by decide +kernel
theorem q_43_1 : js_I 43 1 = some (.iload_n 1, 1) := by decide +kernel
theorem q_43_2 : js_I 43 2 = some (.putfield 18, 3) := by decide +kernel
theorem q_43_5 : js_I 43 5 = some (.aload_n 0, 1) := by decide +kernel
theorem q_43_6 : js_I 43 6 = some (.iload_n 2, 1) := by decide +kernel
theorem q_43_7 : js_I 43 7 = some (.putfield 21, 3) := by decide +kernel
theorem q_43_10 : js_I 43 10 = some (.aload_n 0, 1) := by decide +kernel
theorem q_43_11 : js_I 43 11 = some (.iload_n 3, 1) := by decide +kernel
theorem q_43_12 : js_I 43 12 = some (.putfield 24, 3) := by decide +kernel
theorem q_43_15 : js_I 43 15 = some (.return_, 1) := by decide +kernel
theorem q_44_0 : js_I 44 0 = some (.aload_n 0, 1) := by decide +kernel
theorem q_44_1 : js_I 44 1 = some (.getfield 17, 3) := by decide +kernel
theorem q_44_4 : js_I 44 4 = some (.invokevirtual 120, 3) := by decide +kernel
theorem q_44_7 : js_I 44 7 = some (.aload_n 0, 1) := by decide +kernel
theorem q_44_8 : js_I 44 8 = some (.getfield 27, 3) := by decide +kernel
theorem q_44_11 : js_I 44 11 = some (.bipush 8, 2) := by decide +kernel
theorem q_44_13 : js_I 44 13 = some (.iconst 0, 1) := by decide +kernel
theorem q_44_14 : js_I 44 14 = some (.aload_n 0, 1) := by decide +kernel
theorem q_44_15 : js_I 44 15 = some (.getfield 17, 3) := by decide +kernel
theorem q_44_18 : js_I 44 18 = some (.invokevirtual 123, 3) := by decide +kernel
theorem q_44_21 : js_I 44 21 = some (.astore_n 1, 1) := by decide +kernel
theorem q_44_22 : js_I 44 22 = some (.aload_n 1, 1) := by decide +kernel
theorem q_44_23 : js_I 44 23 = some (.iconst 1, 1) := by decide +kernel
theorem q_44_24 : js_I 44 24 = some (.putfield 142, 3) := by decide +kernel
theorem q_44_27 : js_I 44 27 = some (.aload_n 1, 1) := by decide +kernel
theorem q_44_28 : js_I 44 28 = some (.iconst 0, 1) := by decide +kernel
theorem q_44_29 : js_I 44 29 = some (.putfield 146, 3) := by decide +kernel
theorem q_44_32 : js_I 44 32 = some (.iconst 3, 1) := by decide +kernel
theorem q_44_33 : js_I 44 33 = some (.aload_n 1, 1) := by decide +kernel
theorem q_44_34 : js_I 44 34 = some (.getfield 149, 3) := by decide +kernel
theorem q_44_37 : js_I 44 37 = some (.iadd, 1) := by decide +kernel
theorem q_44_38 : js_I 44 38 = some (.istore_n 2, 1) := by decide +kernel
theorem q_44_39 : js_I 44 39 = some (.aload_n 0, 1) := by decide +kernel
theorem q_44_40 : js_I 44 40 = some (.getfield 17, 3) := by decide +kernel
theorem q_44_43 : js_I 44 43 = some (.bipush 61, 2) := by decide +kernel
theorem q_44_45 : js_I 44 45 = some (.invokevirtual 80, 3) := by decide +kernel
theorem q_44_48 : js_I 44 48 = some (.iconst 1, 1) := by decide +kernel
theorem q_44_49 : js_I 44 49 = some (.istore_n 3, 1) := by decide +kernel
theorem q_44_50 : js_I 44 50 = some (.iconst 0, 1) := by decide +kernel
theorem q_44_51 : js_I 44 51 = some (.istore 4, 2) := by decide +kernel
theorem q_44_53 : js_I 44 53 = some (.iload 4, 2) := by decide +kernel
theorem q_44_55 : js_I 44 55 = some (.ldc 53, 2) := by decide +kernel
theorem q_44_57 : js_I 44 57 = some (.if_icmp .ge 123, 3) := by decide +kernel
theorem q_44_60 : js_I 44 60 = some (.iload_n 3, 1) := by decide +kernel
theorem q_44_61 : js_I 44 61 = some (.ifCond .eq 119, 3) := by decide +kernel
theorem q_44_64 : js_I 44 64 = some (.aload_n 0, 1) := by decide +kernel
theorem q_44_65 : js_I 44 65 = some (.getfield 27, 3) := by decide +kernel
theorem q_44_68 : js_I 44 68 = some (.bipush 9, 2) := by decide +kernel
theorem q_44_70 : js_I 44 70 = some (.aload_n 1, 1) := by decide +kernel
theorem q_44_71 : js_I 44 71 = some (.getfield 146, 3) := by decide +kernel
theorem q_44_74 : js_I 44 74 = some (.bipush 64, 2) := by decide +kernel
theorem q_44_76 : js_I 44 76 = some (.if_icmp .lt 7, 3) := by decide +kernel
theorem q_44_83 : js_I 44 83 = some (.iconst 0, 1) := by decide +kernel
theorem q_44_79 : js_I 44 79 = some (.iconst 1, 1) := by decide +kernel
theorem q_44_80 : js_I 44 80 = some (.goto 4, 3) := by decide +kernel
theorem q_44_84 : js_I 44 84 = some (.aload_n 0, 1) := by decide +kernel
theorem q_44_85 : js_I 44 85 = some (.getfield 17, 3) := by decide +kernel
theorem q_44_88 : js_I 44 88 = some (.invokevirtual 123, 3) := by decide +kernel
theorem q_44_91 : js_I 44 91 = some (.astore 5, 2) := by decide +kernel
theorem q_44_93 : js_I 44 93 = some (.aload 5, 2) := by decide +kernel
theorem q_44_95 : js_I 44 95 = some (.aload_n 1, 1) := by decide +kernel
theorem q_44_96 : js_I 44 96 = some (.getfield 146, 3) := by decide +kernel
theorem q_44_99 : js_I 44 99 = some (.putfield 131, 3) := by decide +kernel
theorem q_44_102 : js_I 44 102 = some (.aload 5, 2) := by decide +kernel
theorem q_44_104 : js_I 44 104 = some (.iload_n 2, 1) := by decide +kernel
theorem q_44_105 : js_I 44 105 = some (.aload 5, 2) := by decide +kernel
theorem q_44_107 : js_I 44 107 = some (.getfield 131, 3) := by decide +kernel
theorem q_44_110 : js_I 44 110 = some (.aload 5, 2) := by decide +kernel
theorem q_44_112 : js_I 44 112 = some (.getfield 131, 3) := by decide +kernel
theorem q_44_115 : js_I 44 115 = some (.invokevirtual 138, 3) := by decide +kernel
theorem q_44_118 : js_I 44 118 = some (.aload 5, 2) := by decide +kernel
theorem q_44_120 : js_I 44 120 = some (.iconst 1, 1) := by decide +kernel
theorem q_44_121 : js_I 44 121 = some (.putfield 142, 3) := by decide +kernel
theorem q_44_124 : js_I 44 124 = some (.aload_n 1, 1) := by decide +kernel
theorem q_44_125 : js_I 44 125 = some (.iload_n 2, 1) := by decide +kernel
theorem q_44_126 : js_I 44 126 = some (.iconst 0, 1) := by decide +kernel
theorem q_44_127 : js_I 44 127 = some (.aload 5, 2) := by decide +kernel
theorem q_44_129 : js_I 44 129 = some (.getfield 131, 3) := by decide +kernel
theorem q_44_132 : js_I 44 132 = some (.invokevirtual 138, 3) := by decide +kernel
theorem q_44_135 : js_I 44 135 = some (.aload_n 1, 1) := by decide +kernel
theorem q_44_136 : js_I 44 136 = some (.dup, 1) := by decide +kernel
theorem q_44_137 : js_I 44 137 = some (.getfield 146, 3) := by decide +kernel
theorem q_44_140 : js_I 44 140 = some (.iconst 1, 1) := by decide +kernel
theorem q_44_141 : js_I 44 141 = some (.iadd, 1) := by decide +kernel
theorem q_44_142 : js_I 44 142 = some (.putfield 146, 3) := by decide +kernel
theorem q_44_145 : js_I 44 145 = some (.aload_n 0, 1) := by decide +kernel
theorem q_44_146 : js_I 44 146 = some (.getfield 17, 3) := by decide +kernel
theorem q_44_149 : js_I 44 149 = some (.getfield 54, 3) := by decide +kernel
theorem q_44_152 : js_I 44 152 = some (.bipush 44, 2) := by decide +kernel
theorem q_44_154 : js_I 44 154 = some (.if_icmp .ne 7, 3) := by decide +kernel
theorem q_44_157 : js_I 44 157 = some (.iconst 1, 1) := by decide +kernel
theorem q_44_158 : js_I 44 158 = some (.goto 4, 3) := by decide +kernel
theorem q_44_161 : js_I 44 161 = some (.iconst 0, 1) := by decide +kernel
theorem q_44_162 : js_I 44 162 = some (.istore_n 3, 1) := by decide +kernel
theorem q_44_163 : js_I 44 163 = some (.iload_n 3, 1) := by decide +kernel
theorem q_44_164 : js_I 44 164 = some (.ifCond .eq 10, 3) := by decide +kernel
theorem q_44_167 : js_I 44 167 = some (.aload_n 0, 1) := by decide +kernel
theorem q_44_168 : js_I 44 168 = some (.getfield 17, 3) := by decide +kernel
theorem q_44_171 : js_I 44 171 = some (.invokevirtual 120, 3) := by decide +kernel
theorem q_44_174 : js_I 44 174 = some (.iinc 4 1, 3) := by decide +kernel
theorem q_44_177 : js_I 44 177 = some (.goto (-124), 3) := by decide +kernel
theorem q_44_180 : js_I 44 180 = some (.aload_n 0, 1) := by decide +kernel
theorem q_44_181 : js_I 44 181 = some (.getfield 17, 3) := by decide +kernel
theorem q_44_184 : js_I 44 184 = some (.bipush 59, 2) := by decide +kernel
theorem q_44_186 : js_I 44 186 = some (.invokevirtual 80, 3) := by decide +kernel
theorem q_44_189 : js_I 44 189 = some (.return_, 1) := by decide +kernel
theorem q_45_0 : js_I 45 0 = some (.aload_n 0, 1) := by decide +kernel
theorem q_45_1 : js_I 45 1 = some (.getfield 17, 3) := by decide +kernel
theorem q_45_4 : js_I 45 4 = some (.invokevirtual 120, 3) := by decide +kernel
theorem q_45_7 : js_I 45 7 = some (.aload_n 0, 1) := by decide +kernel
theorem q_45_8 : js_I 45 8 = some (.getfield 27, 3) := by decide +kernel
theorem q_45_11 : js_I 45 11 = some (.iload_n 1, 1) := by decide +kernel
theorem q_45_12 : js_I 45 12 = some (.iconst 0, 1) := by decide +kernel
theorem q_45_13 : js_I 45 13 = some (.aload_n 0, 1) := by decide +kernel
theorem q_45_14 : js_I 45 14 = some (.getfield 17, 3) := by decide +kernel
theorem q_45_17 : js_I 45 17 = some (.invokevirtual 123, 3) := by decide +kernel
theorem q_45_20 : js_I 45 20 = some (.astore_n 2, 1) := by decide +kernel
theorem q_45_21 : js_I 45 21 = some (.aload_n 0, 1) := by decide +kernel
theorem q_45_22 : js_I 45 22 = some (.getfield 31, 3) := by decide +kernel
theorem q_45_25 : js_I 45 25 = some (.aload_n 2, 1) := by decide +kernel
theorem q_45_26 : js_I 45 26 = some (.invokevirtual 152, 3) := by decide +kernel
theorem q_45_29 : js_I 45 29 = some (.aload_n 0, 1) := by decide +kernel
theorem q_45_30 : js_I 45 30 = some (.getfield 17, 3) := by decide +kernel
theorem q_45_33 : js_I 45 33 = some (.bipush 58, 2) := by decide +kernel
theorem q_45_35 : js_I 45 35 = some (.invokevirtual 80, 3) := by decide +kernel
theorem q_45_38 : js_I 45 38 = some (.aload_n 0, 1) := by decide +kernel
theorem q_45_39 : js_I 45 39 = some (.getfield 31, 3) := by decide +kernel
theorem q_45_42 : js_I 45 42 = some (.aload_n 2, 1) := by decide +kernel
theorem q_45_43 : js_I 45 43 = some (.invokevirtual 156, 3) := by decide +kernel
theorem q_45_46 : js_I 45 46 = some (.aload_n 2, 1) := by decide +kernel
theorem q_45_47 : js_I 45 47 = some (.aload_n 0, 1) := by decide +kernel
theorem q_45_48 : js_I 45 48 = some (.getfield 27, 3) := by decide +kernel
theorem q_45_51 : js_I 45 51 = some (.getfield 116, 3) := by decide +kernel
theorem q_45_54 : js_I 45 54 = some (.putfield 159, 3) := by decide +kernel
theorem q_45_57 : js_I 45 57 = some (.aload_n 0, 1) := by decide +kernel
theorem q_45_58 : js_I 45 58 = some (.getfield 27, 3) := by decide +kernel
theorem q_45_61 : js_I 45 61 = some (.dup, 1) := by decide +kernel
theorem q_45_62 : js_I 45 62 = some (.getfield 116, 3) := by decide +kernel
theorem q_45_65 : js_I 45 65 = some (.aload_n 2, 1) := by decide +kernel
theorem q_45_66 : js_I 45 66 = some (.getfield 146, 3) := by decide +kernel
theorem q_45_69 : js_I 45 69 = some (.iadd, 1) := by decide +kernel
theorem q_45_70 : js_I 45 70 = some (.putfield 116, 3) := by decide +kernel
theorem q_45_73 : js_I 45 73 = some (.iload_n 1, 1) := by decide +kernel
theorem q_45_74 : js_I 45 74 = some (.iconst 1, 1) := by decide +kernel
theorem q_45_75 : js_I 45 75 = some (.if_icmp .ne 22, 3) := by decide +kernel
theorem q_45_78 : js_I 45 78 = some (.aload_n 0, 1) := by decide +kernel
theorem q_45_79 : js_I 45 79 = some (.getfield 27, 3) := by decide +kernel
theorem q_45_82 : js_I 45 82 = some (.dup, 1) := by decide +kernel
theorem q_45_83 : js_I 45 83 = some (.getfield 162, 3) := by decide +kernel
theorem q_45_86 : js_I 45 86 = some (.aload_n 2, 1) := by decide +kernel
theorem q_45_87 : js_I 45 87 = some (.getfield 146, 3) := by decide +kernel
theorem q_45_90 : js_I 45 90 = some (.iadd, 1) := by decide +kernel
theorem q_45_91 : js_I 45 91 = some (.putfield 162, 3) := by decide +kernel
theorem q_45_94 : js_I 45 94 = some (.goto 24, 3) := by decide +kernel
theorem q_45_97 : js_I 45 97 = some (.aload_n 0, 1) := by decide +kernel
theorem q_45_98 : js_I 45 98 = some (.getfield 17, 3) := by decide +kernel
theorem q_45_101 : js_I 45 101 = some (.bipush 61, 2) := by decide +kernel
theorem q_45_103 : js_I 45 103 = some (.invokevirtual 80, 3) := by decide +kernel
theorem q_45_106 : js_I 45 106 = some (.aload_n 2, 1) := by decide +kernel
theorem q_45_107 : js_I 45 107 = some (.aload_n 0, 1) := by decide +kernel
theorem q_45_108 : js_I 45 108 = some (.getfield 31, 3) := by decide +kernel
theorem q_45_111 : js_I 45 111 = some (.aload_n 2, 1) := by decide +kernel
theorem q_45_112 : js_I 45 112 = some (.invokevirtual 165, 3) := by decide +kernel
theorem q_45_115 : js_I 45 115 = some (.putfield 131, 3) := by decide +kernel
theorem q_45_118 : js_I 45 118 = some (.iload_n 1, 1) := by decide +kernel
theorem q_45_119 : js_I 45 119 = some (.iconst 2, 1) := by decide +kernel
theorem q_45_120 : js_I 45 120 = some (.if_icmp .ne 19, 3) := by decide +kernel
theorem q_45_123 : js_I 45 123 = some (.aload_n 0, 1) := by decide +kernel
theorem q_45_124 : js_I 45 124 = some (.getfield 27, 3) := by decide +kernel
theorem q_45_127 : js_I 45 127 = some (.dup, 1) := by decide +kernel
theorem q_45_128 : js_I 45 128 = some (.getfield 169, 3) := by decide +kernel
theorem q_45_131 : js_I 45 131 = some (.aload_n 2, 1) := by decide +kernel
theorem q_45_132 : js_I 45 132 = some (.getfield 146, 3) := by decide +kernel
theorem q_45_135 : js_I 45 135 = some (.iadd, 1) := by decide +kernel
theorem q_45_136 : js_I 45 136 = some (.putfield 169, 3) := by decide +kernel
theorem q_45_139 : js_I 45 139 = some (.aload_n 0, 1) := by decide +kernel
theorem q_45_140 : js_I 45 140 = some (.getfield 17, 3) := by decide +kernel
theorem q_45_143 : js_I 45 143 = some (.bipush 59, 2) := by decide +kernel
theorem q_45_145 : js_I 45 145 = some (.invokevirtual 80, 3) := by decide +kernel
theorem q_45_148 : js_I 45 148 = some (.aload_n 2, 1) := by decide +kernel
theorem q_45_149 : js_I 45 149 = some (.iconst 1, 1) := by decide +kernel
theorem q_45_150 : js_I 45 150 = some (.putfield 142, 3) := by decide +kernel
theorem q_45_153 : js_I 45 153 = some (.return_, 1) := by decide +kernel
theorem qf_8_131 : ip_lk (vt_FL.getD 8 []) 131 = some (8, 1) := by decide +kernel
theorem qf_8_134 : ip_lk (vt_FL.getD 8 []) 134 = some (8, 2) := by decide +kernel
theorem qf_8_128 : ip_lk (vt_FL.getD 8 []) 128 = some (8, 3) := by decide +kernel
theorem qf_8_9 : ip_lk (vt_FL.getD 8 []) 9 = some (8, 4) := by decide +kernel
theorem qf_4_31 : ip_lk (vt_FL.getD 4 []) 31 = some (4, 3) := by decide +kernel
theorem qf_4_131 : ip_lk (vt_FL.getD 4 []) 131 = some (11, 8) := by decide +kernel
theorem qf_4_136 : ip_lk (vt_FL.getD 4 []) 136 = some (2, 0) := by decide +kernel
theorem qf_4_142 : ip_lk (vt_FL.getD 4 []) 142 = some (11, 13) := by decide +kernel
theorem qf_7_75 : ip_lk (vt_FL.getD 7 []) 75 = some (8, 1) := by decide +kernel
theorem qf_7_78 : ip_lk (vt_FL.getD 7 []) 78 = some (8, 2) := by decide +kernel
theorem qf_7_20 : ip_lk (vt_FL.getD 7 []) 20 = some (7, 7) := by decide +kernel
theorem qf_7_64 : ip_lk (vt_FL.getD 7 []) 64 = some (8, 3) := by decide +kernel
theorem qf_7_54 : ip_lk (vt_FL.getD 7 []) 54 = some (11, 14) := by decide +kernel
theorem qf_7_24 : ip_lk (vt_FL.getD 7 []) 24 = some (7, 8) := by decide +kernel
theorem qf_7_57 : ip_lk (vt_FL.getD 7 []) 57 = some (11, 0) := by decide +kernel
theorem qf_7_69 : ip_lk (vt_FL.getD 7 []) 69 = some (8, 4) := by decide +kernel
theorem qf_7_60 : ip_lk (vt_FL.getD 7 []) 60 = some (11, 13) := by decide +kernel
theorem qf_11_9 : ip_lk (vt_FL.getD 11 []) 9 = some (11, 0) := by decide +kernel
theorem qf_11_15 : ip_lk (vt_FL.getD 11 []) 15 = some (11, 1) := by decide +kernel
theorem qf_11_18 : ip_lk (vt_FL.getD 11 []) 18 = some (11, 2) := by decide +kernel
theorem qf_11_21 : ip_lk (vt_FL.getD 11 []) 21 = some (11, 3) := by decide +kernel
theorem qf_11_24 : ip_lk (vt_FL.getD 11 []) 24 = some (11, 4) := by decide +kernel
theorem qf_11_27 : ip_lk (vt_FL.getD 11 []) 27 = some (11, 5) := by decide +kernel
theorem qf_11_30 : ip_lk (vt_FL.getD 11 []) 30 = some (11, 6) := by decide +kernel
theorem qf_11_33 : ip_lk (vt_FL.getD 11 []) 33 = some (11, 7) := by decide +kernel
theorem qf_11_36 : ip_lk (vt_FL.getD 11 []) 36 = some (11, 8) := by decide +kernel
theorem qf_11_39 : ip_lk (vt_FL.getD 11 []) 39 = some (11, 9) := by decide +kernel
theorem qf_11_42 : ip_lk (vt_FL.getD 11 []) 42 = some (11, 10) := by decide +kernel
theorem qf_11_45 : ip_lk (vt_FL.getD 11 []) 45 = some (11, 11) := by decide +kernel
theorem qf_11_48 : ip_lk (vt_FL.getD 11 []) 48 = some (11, 12) := by decide +kernel
theorem qf_11_52 : ip_lk (vt_FL.getD 11 []) 52 = some (11, 13) := by decide +kernel
theorem qf_2_9 : ip_lk (vt_FL.getD 2 []) 9 = some (2, 3) := by decide +kernel
theorem qf_2_19 : ip_lk (vt_FL.getD 2 []) 19 = some (8, 2) := by decide +kernel
theorem qf_2_25 : ip_lk (vt_FL.getD 2 []) 25 = some (2, 2) := by decide +kernel
theorem qf_2_28 : ip_lk (vt_FL.getD 2 []) 28 = some (8, 1) := by decide +kernel
theorem qf_2_34 : ip_lk (vt_FL.getD 2 []) 34 = some (2, 0) := by decide +kernel
theorem qf_2_15 : ip_lk (vt_FL.getD 2 []) 15 = some (2, 4) := by decide +kernel
theorem qf_2_41 : ip_lk (vt_FL.getD 2 []) 41 = some (2, 1) := by decide +kernel
theorem qf_2_50 : ip_lk (vt_FL.getD 2 []) 50 = some (11, 1) := by decide +kernel
theorem qf_2_59 : ip_lk (vt_FL.getD 2 []) 59 = some (11, 2) := by decide +kernel
theorem qf_2_60 : ip_lk (vt_FL.getD 2 []) 60 = some (11, 8) := by decide +kernel
theorem qf_4_146 : ip_lk (vt_FL.getD 4 []) 146 = some (11, 6) := by decide +kernel
theorem qf_4_149 : ip_lk (vt_FL.getD 4 []) 149 = some (11, 0) := by decide +kernel
theorem qf_4_116 : ip_lk (vt_FL.getD 4 []) 116 = some (7, 2) := by decide +kernel
theorem qf_4_159 : ip_lk (vt_FL.getD 4 []) 159 = some (11, 5) := by decide +kernel
theorem qf_4_162 : ip_lk (vt_FL.getD 4 []) 162 = some (7, 5) := by decide +kernel
theorem qf_4_169 : ip_lk (vt_FL.getD 4 []) 169 = some (7, 6) := by decide +kernel
theorem qm_4_120 : ip_lk (vt_ML.getD 4 []) 120 = some (33, 0, 1, 8) := by decide +kernel
theorem qm_4_123 : ip_lk (vt_ML.getD 4 []) 123 = some (35, 3, 1, 7) := by decide +kernel
theorem qm_4_80 : ip_lk (vt_ML.getD 4 []) 80 = some (40, 1, 1, 8) := by decide +kernel
theorem qm_4_127 : ip_lk (vt_ML.getD 4 []) 127 = some (41, 1, 1, 2) := by decide +kernel
theorem qm_4_138 : ip_lk (vt_ML.getD 4 []) 138 = some (43, 3, 1, 11) := by decide +kernel
theorem qm_7_81 : ip_lk (vt_ML.getD 7 []) 81 = some (36, 2, 1, 8) := by decide +kernel
theorem qm_7_85 : ip_lk (vt_ML.getD 7 []) 85 = some (37, 1, 1, 7) := by decide +kernel
theorem qm_7_89 : ip_lk (vt_ML.getD 7 []) 89 = some (38, 1, 2, 0) := by decide +kernel
theorem qm_7_92 : ip_lk (vt_ML.getD 7 []) 92 = some (39, 1, 1, 11) := by decide +kernel
theorem qm_7_95 : ip_lk (vt_ML.getD 7 []) 95 = some (0, 2, 4, 0) := by decide +kernel
theorem qm_7_101 : ip_lk (vt_ML.getD 7 []) 101 = some (33, 0, 1, 8) := by decide +kernel
theorem qm_11_3 : ip_lk (vt_ML.getD 11 []) 3 = some (0, 0, 3, 0) := by decide +kernel
theorem qm_8_144 : ip_lk (vt_ML.getD 8 []) 144 = some (36, 2, 1, 8) := by decide +kernel
theorem qm_2_31 : ip_lk (vt_ML.getD 2 []) 31 = some (33, 0, 1, 8) := by decide +kernel
theorem qm_2_37 : ip_lk (vt_ML.getD 2 []) 37 = some (42, 0, 1, 8) := by decide +kernel
theorem qm_2_44 : ip_lk (vt_ML.getD 2 []) 44 = some (37, 1, 1, 7) := by decide +kernel
theorem qm_2_55 : ip_lk (vt_ML.getD 2 []) 55 = some (36, 2, 1, 8) := by decide +kernel
theorem qm_4_152 : ip_lk (vt_ML.getD 4 []) 152 = some (46, 1, 1, 2) := by decide +kernel
theorem qm_4_156 : ip_lk (vt_ML.getD 4 []) 156 = some (49, 1, 1, 2) := by decide +kernel
theorem qm_4_165 : ip_lk (vt_ML.getD 4 []) 165 = some (51, 1, 1, 2) := by decide +kernel
theorem ww_216 : js_w 216 = 216 := by decide +kernel
theorem ww_217 : js_w 217 = 217 := by decide +kernel
theorem qn_7_18 : ip_lk (vt_NL.getD 7 []) 18 = some (11, [.int 0, .int 0, .int 0, .int 0, .int 0, .int 0, .int 0, .int 0, .int 0, .int 0, .int 0, .int 0, .int 0, .int 0, .int 0]) := by decide +kernel
theorem qn_8_137 : ip_lk (vt_NL.getD 8 []) 137 = some (13, [.null, .null, .null, .null, .null, .int 0]) := by decide +kernel
-- 33: VitalTwin$Reader.next ()V
theorem b_33_0 {E : js_E} {d : Nat} {σ : js_S} : js_J E d 33 0 [(2, 1), (9, 0)] [] σ = (if js_w ((σ 1 11) + 1) < js_w (σ 1 10) then (if 0 ≤ js_w ((σ 1 11) + 1) ∧ js_w ((σ 1 11) + 1) < 8193 then js_J E d 33 72 [(2, 1), (9, 0)] [] (js_up (js_up (js_up (js_up σ 1 11 ((σ 1 11) + 1)) 1 1 (js_iand (σ 4 (js_w ((σ 1 11) + 1))) 255)) 1 2 ((js_w (σ 5 (js_w ((σ 1 11) + 1)))).tdiv 32)) 1 3 ((js_w (σ 5 (js_w ((σ 1 11) + 1)))).tmod 32)) else none) else js_J E d 33 72 [(2, 1), (9, 0)] [] σ) :=
  (j_aload_n q_33_0 rfl).trans <| (j_get (ji := 11) (v := (0, σ 1 11)) q_33_1 (js_Fo qy_33 qf_8_74) js_o1 rfl rfl rfl rfl).trans <| (j_iconst q_33_4).trans <| (j_iadd q_33_5).trans <| (j_aload_n q_33_6 rfl).trans <| (j_get (ji := 10) (v := (0, σ 1 10)) q_33_7 (js_Fo qy_33 qf_8_54) js_o1 rfl rfl rfl rfl).trans <| (j_cmpge (t := 72) q_33_10 rfl).trans (js_ite ((j_aload_n q_33_13 rfl).trans <| (j_dupr q_33_14).trans <| (j_get (ji := 11) (v := (0, σ 1 11)) q_33_15 (js_Fo qy_33 qf_8_74) js_o1 rfl rfl rfl rfl).trans <| (j_iconst q_33_18).trans <| (j_iadd q_33_19).trans <| (j_putI (ji := 11) q_33_20 (js_Fo qy_33 qf_8_74) rfl js_o1 rfl rfl rfl).trans <| (j_aload_n q_33_23 rfl).trans <| (j_aload_n q_33_24 rfl).trans <| (j_get (ji := 8) (v := (2, 4)) q_33_25 (js_Fo qy_33 qf_8_18) js_o1 rfl rfl rfl rfl).trans <| (j_aload_n q_33_28 rfl).trans <| (j_get (ji := 11) (v := (0, (σ 1 11) + 1)) q_33_29 (js_Fo qy_33 qf_8_74) js_o1 rfl rfl rfl (congrArg (Prod.mk 0) ((js_up_same _ _ _ _)))).trans <| (j_baloadv q_33_32 js_o4 ((js_up_na _ (by decide)))).trans <| js_itp fun g0 => (j_si q_33_33 rfl).trans <| (j_iand q_33_36).trans <| (j_putI (ji := 1) q_33_37 (js_Fo qy_33 qf_8_131) rfl js_o1 rfl rfl rfl).trans <| (j_aload_n q_33_40 rfl).trans <| (j_aload_n q_33_41 rfl).trans <| (j_get (ji := 9) (v := (2, 5)) q_33_42 (js_Fo qy_33 qf_8_21) js_o1 rfl rfl rfl rfl).trans <| (j_aload_n q_33_45 rfl).trans <| (j_get (ji := 11) (v := (0, (σ 1 11) + 1)) q_33_46 (js_Fo qy_33 qf_8_74) js_o1 rfl rfl rfl (congrArg (Prod.mk 0) ((js_up_ni _ (by decide)).trans <| (js_up_same _ _ _ _)))).trans <| (j_ialoadv q_33_49 js_o5 ((js_up_na _ (by decide)).trans <| (js_up_na _ (by decide)))).trans <| (if_pos g0).trans <| (j_bi q_33_50 rfl).trans <| (j_idivk q_33_52 ww_32 (by decide)).trans <| (j_putI (ji := 2) q_33_53 (js_Fo qy_33 qf_8_134) rfl js_o1 rfl rfl rfl).trans <| (j_aload_n q_33_56 rfl).trans <| (j_aload_n q_33_57 rfl).trans <| (j_get (ji := 9) (v := (2, 5)) q_33_58 (js_Fo qy_33 qf_8_21) js_o1 rfl rfl rfl rfl).trans <| (j_aload_n q_33_61 rfl).trans <| (j_get (ji := 11) (v := (0, (σ 1 11) + 1)) q_33_62 (js_Fo qy_33 qf_8_74) js_o1 rfl rfl rfl (congrArg (Prod.mk 0) ((js_up_ni _ (by decide)).trans <| (js_up_ni _ (by decide)).trans <| (js_up_same _ _ _ _)))).trans <| (j_ialoadv q_33_65 js_o5 ((js_up_na _ (by decide)).trans <| (js_up_na _ (by decide)).trans <| (js_up_na _ (by decide)))).trans <| (if_pos g0).trans <| (j_bi q_33_66 rfl).trans <| (j_iremk q_33_68 ww_32 (by decide)).trans <| (j_putI (ji := 3) q_33_69 (js_Fo qy_33 qf_8_128) rfl js_o1 rfl rfl rfl).trans <| rfl) (rfl))
theorem b_33_72 {E : js_E} {d : Nat} {σ : js_S} : js_J E d 33 72 [(2, 1), (9, 0)] [] σ = (if js_w (σ 1 1) = 2 then js_J E d 33 88 [(2, 1), (9, 0)] [] σ else (if js_w (σ 1 1) = 3 then js_J E d 33 88 [(2, 1), (9, 0)] [] σ else js_r0 E σ)) :=
  (j_aload_n q_33_72 rfl).trans <| (j_get (ji := 1) (v := (0, σ 1 1)) q_33_73 (js_Fo qy_33 qf_8_131) js_o1 rfl rfl rfl rfl).trans <| (j_iconst q_33_76).trans <| (j_cmpeqB (t := 88) q_33_77 rfl ww_2).trans (js_ite (rfl) ((j_aload_n q_33_80 rfl).trans <| (j_get (ji := 1) (v := (0, σ 1 1)) q_33_81 (js_Fo qy_33 qf_8_131) js_o1 rfl rfl rfl rfl).trans <| (j_iconst q_33_84).trans <| (j_cmpneB (t := 144) q_33_85 rfl ww_3).trans (js_ite (rfl) (j_return q_33_144 qr_33))))
theorem b_33_88 {E : js_E} {d : Nat} {σ : js_S} : js_J E d 33 88 [(2, 1), (9, 0)] [] σ = js_J E d 33 90 [(2, 1), (0, 0)] [] σ :=
  (j_iconst q_33_88).trans <| (j_istore_n (l2 := [(2, 1), (0, 0)]) q_33_89 rfl (Nat.le_of_ble_eq_true rfl)).trans <| rfl
theorem b_33_90 {E : js_E} {d : Nat} {σ : js_S} {x1 : Int} : js_J E d 33 90 [(2, 1), (0, x1)] [] σ = (if js_w x1 < js_w (σ 1 3) then (if js_w x1 < 20 then (if js_w ((σ 1 2) + x1) < 8192 then (if 0 ≤ js_w ((σ 1 2) + x1) ∧ js_w ((σ 1 2) + x1) < 8192 then (if 0 ≤ js_w x1 ∧ js_w x1 < 20 then js_J E d 33 90 [(2, 1), (0, x1 + 1)] [] (js_up σ 2 (js_w x1) (js_i2b (σ 3 (js_w ((σ 1 2) + x1))))) else none) else none) else js_r0 E σ) else js_r0 E σ) else js_r0 E σ) :=
  (j_iload_n q_33_90 rfl).trans <| (j_aload_n q_33_91 rfl).trans <| (j_get (ji := 3) (v := (0, σ 1 3)) q_33_92 (js_Fo qy_33 qf_8_128) js_o1 rfl rfl rfl rfl).trans <| (j_cmpge (t := 144) q_33_95 rfl).trans (js_ite ((j_iload_n q_33_98 rfl).trans <| (j_aload_n q_33_99 rfl).trans <| (j_get (ji := 4) (v := (2, 2)) q_33_100 (js_Fo qy_33 qf_8_9) js_o1 rfl rfl rfl rfl).trans <| (j_alen q_33_103 js_o2 (by decide) (by decide)).trans <| (j_cmpgeB (t := 144) q_33_104 rfl ww_20).trans (js_ite ((j_aload_n q_33_107 rfl).trans <| (j_get (ji := 2) (v := (0, σ 1 2)) q_33_108 (js_Fo qy_33 qf_8_134) js_o1 rfl rfl rfl rfl).trans <| (j_iload_n q_33_111 rfl).trans <| (j_iadd q_33_112).trans <| (j_aload_n q_33_113 rfl).trans <| (j_get (ji := 7) (v := (2, 3)) q_33_114 (js_Fo qy_33 qf_8_15) js_o1 rfl rfl rfl rfl).trans <| (j_alen q_33_117 js_o3 (by decide) (by decide)).trans <| (j_cmpgeB (t := 144) q_33_118 rfl ww_8192).trans (js_ite ((j_aload_n q_33_121 rfl).trans <| (j_get (ji := 4) (v := (2, 2)) q_33_122 (js_Fo qy_33 qf_8_9) js_o1 rfl rfl rfl rfl).trans <| (j_iload_n q_33_125 rfl).trans <| (j_aload_n q_33_126 rfl).trans <| (j_get (ji := 7) (v := (2, 3)) q_33_127 (js_Fo qy_33 qf_8_15) js_o1 rfl rfl rfl rfl).trans <| (j_aload_n q_33_130 rfl).trans <| (j_get (ji := 2) (v := (0, σ 1 2)) q_33_131 (js_Fo qy_33 qf_8_134) js_o1 rfl rfl rfl rfl).trans <| (j_iload_n q_33_134 rfl).trans <| (j_iadd q_33_135).trans <| (j_baload q_33_136 js_o3).trans <| js_itp fun g0 => (j_bastore q_33_137 js_o2).trans <| js_itp fun g1 => (j_iinc (l2 := [(2, 1), (0, x1 + 1)]) q_33_138 rfl rfl).trans <| (j_goto (t := 90) q_33_141 rfl).trans <| rfl) (j_return q_33_144 qr_33))) (j_return q_33_144 qr_33))) (j_return q_33_144 qr_33))
-- 34: VitalTwin$Declarations.constant ()V
theorem b_34_0 {E : js_E} {d : Nat} {σ : js_S} {b : Int} (hb : b = 0 ∨ b = 25) : js_J E d 34 0 [(2, 6 + b), (9, 0)] [] σ = js_J E d 34 4 [(2, 6 + b), (9, 0)] [(2, 1)] σ :=
  (j_aload_n q_34_0 rfl).trans <| (j_get (ji := 1) (v := (2, 1)) q_34_1 (js_Fo qy_34 qf_4_17) (js_o6b hb) rfl rfl rfl rfl).trans <| rfl
theorem k_34_4 {E : js_E} {d : Nat} {σ σ2 : js_S} {b : Int} (hd : 1 ≤ d) (hz : js_J E (d - 1) 33 0 [(2, 1), (9, 0)] [] σ = js_r0 E σ2) : js_J E d 34 4 [(2, 6 + b), (9, 0)] [(2, 1)] σ = js_J E d 34 7 [(2, 6 + b), (9, 0)] [] σ2 :=
  j_call0 (m := 1) (js_caV q_34_4 (js_Mo qy_34 qm_4_120)) (js_agV (av := []) (st := []) rfl rfl js_o1 rfl) rfl rfl (by rw [ql_33]; exact Nat.le_of_ble_eq_true rfl) (Nat.le_of_ble_eq_true rfl) hd hz
theorem kt_34_4 {E : js_E} {d : Nat} {σ σ2 : js_S} {b : Int} {w : Int} (hd : 1 ≤ d) (hz : js_J E (d - 1) 33 0 [(2, 1), (9, 0)] [] σ = js_t E w σ2) : js_J E d 34 4 [(2, 6 + b), (9, 0)] [(2, 1)] σ = js_t E w σ2 :=
  j_callT (m := 1) (js_caV q_34_4 (js_Mo qy_34 qm_4_120)) (js_agV (av := []) (st := []) rfl rfl js_o1 rfl) rfl rfl (by rw [ql_33]; exact Nat.le_of_ble_eq_true rfl) (Nat.le_of_ble_eq_true rfl) hd rfl hz
theorem b_34_7 {E : js_E} {d : Nat} {σ : js_S} {b : Int} (hb : b = 0 ∨ b = 25) : js_J E d 34 7 [(2, 6 + b), (9, 0)] [] σ = js_J E d 34 17 [(2, 6 + b), (9, 0)] [(2, 1), (0, 0), (0, 0), (2, 7 + b)] σ :=
  (j_aload_n q_34_7 rfl).trans <| (j_get (ji := 0) (v := (2, 7 + b)) q_34_8 (js_Fo qy_34 qf_4_27) (js_o6b hb) rfl rfl rfl rfl).trans <| (j_iconst q_34_11).trans <| (j_iconst q_34_12).trans <| (j_aload_n q_34_13 rfl).trans <| (j_get (ji := 1) (v := (2, 1)) q_34_14 (js_Fo qy_34 qf_4_17) (js_o6b hb) rfl rfl rfl rfl).trans <| rfl
theorem k_34_17 {E : js_E} {d : Nat} {σ σ2 : js_S} {z1 z2 b : Int} (hb : b = 0 ∨ b = 25) {v : Int} (hd : 1 ≤ d) (hz : js_J E (d - 1) 35 0 [(2, 7 + b), (0, z1), (0, z2), (2, 1), (9, 0), (9, 0)] [] σ = js_r E (2, v) σ2) : js_J E d 34 17 [(2, 6 + b), (9, 0)] [(2, 1), (0, z2), (0, z1), (2, 7 + b)] σ = js_J E d 34 20 [(2, 6 + b), (9, 0)] [(2, v)] σ2 :=
  j_call (m := 2) (js_caV q_34_17 (js_Mo qy_34 qm_4_123)) (js_agV (av := [(0, z1), (0, z2), (2, 1)]) (st := []) rfl rfl (js_o7b hb) rfl) rfl rfl (by rw [ql_35]; exact Nat.le_of_ble_eq_true rfl) (Nat.le_of_ble_eq_true rfl) hd hz
theorem kt_34_17 {E : js_E} {d : Nat} {σ σ2 : js_S} {z1 z2 b : Int} (hb : b = 0 ∨ b = 25) {w : Int} (hd : 1 ≤ d) (hz : js_J E (d - 1) 35 0 [(2, 7 + b), (0, z1), (0, z2), (2, 1), (9, 0), (9, 0)] [] σ = js_t E w σ2) : js_J E d 34 17 [(2, 6 + b), (9, 0)] [(2, 1), (0, z2), (0, z1), (2, 7 + b)] σ = js_t E w σ2 :=
  j_callT (m := 2) (js_caV q_34_17 (js_Mo qy_34 qm_4_123)) (js_agV (av := [(0, z1), (0, z2), (2, 1)]) (st := []) rfl rfl (js_o7b hb) rfl) rfl rfl (by rw [ql_35]; exact Nat.le_of_ble_eq_true rfl) (Nat.le_of_ble_eq_true rfl) hd rfl hz
theorem b_34_20 {E : js_E} {d : Nat} {σ : js_S} {z0 b : Int} (hb : b = 0 ∨ b = 25) : js_J E d 34 20 [(2, 6 + b), (9, 0)] [(2, z0)] σ = js_J E d 34 27 [(2, 6 + b), (2, z0)] [(0, 61), (2, 1)] σ :=
  (j_astore_n (l2 := [(2, 6 + b), (2, z0)]) q_34_20 rfl (Nat.le_of_ble_eq_true rfl)).trans <| (j_aload_n q_34_21 rfl).trans <| (j_get (ji := 1) (v := (2, 1)) q_34_22 (js_Fo qy_34 qf_4_17) (js_o6b hb) rfl rfl rfl rfl).trans <| (j_bi q_34_25 rfl).trans <| rfl
theorem k_34_27 {E : js_E} {d : Nat} {σ σ2 : js_S} {x1 z1 b : Int} (hd : 1 ≤ d) (hz : js_J E (d - 1) 40 0 [(2, 1), (0, z1)] [] σ = js_r0 E σ2) : js_J E d 34 27 [(2, 6 + b), (2, x1)] [(0, z1), (2, 1)] σ = js_J E d 34 30 [(2, 6 + b), (2, x1)] [] σ2 :=
  j_call0 (m := 0) (js_caV q_34_27 (js_Mo qy_34 qm_4_80)) (js_agV (av := [(0, z1)]) (st := []) rfl rfl js_o1 rfl) rfl rfl (by rw [ql_40]; exact Nat.le_of_ble_eq_true rfl) (Nat.le_of_ble_eq_true rfl) hd hz
theorem kt_34_27 {E : js_E} {d : Nat} {σ σ2 : js_S} {x1 z1 b : Int} {w : Int} (hd : 1 ≤ d) (hz : js_J E (d - 1) 40 0 [(2, 1), (0, z1)] [] σ = js_t E w σ2) : js_J E d 34 27 [(2, 6 + b), (2, x1)] [(0, z1), (2, 1)] σ = js_t E w σ2 :=
  j_callT (m := 0) (js_caV q_34_27 (js_Mo qy_34 qm_4_80)) (js_agV (av := [(0, z1)]) (st := []) rfl rfl js_o1 rfl) rfl rfl (by rw [ql_40]; exact Nat.le_of_ble_eq_true rfl) (Nat.le_of_ble_eq_true rfl) hd rfl hz
theorem b_34_30 {E : js_E} {d : Nat} {σ : js_S} {x1 b : Int} (hb : b = 0 ∨ b = 25) : js_J E d 34 30 [(2, 6 + b), (2, x1)] [] σ = js_J E d 34 36 [(2, 6 + b), (2, x1)] [(0, (-1)), (2, 21 + b), (2, x1)] σ :=
  (j_aload_n q_34_30 rfl).trans <| (j_aload_n q_34_31 rfl).trans <| (j_get (ji := 3) (v := (2, 21 + b)) q_34_32 (js_Fo qy_34 qf_4_31) (js_o6b hb) rfl rfl rfl rfl).trans <| (j_iconst q_34_35).trans <| rfl
theorem k_34_36 {E : js_E} {d : Nat} {σ σ2 : js_S} {x1 z0 z2 b : Int} (hb : b = 0 ∨ b = 25) {v : Int} (hd : 1 ≤ d) (hz : js_J E (d - 1) 41 0 [(2, 21 + b), (0, z2), (9, 0), (9, 0), (9, 0)] [] σ = js_r E (0, v) σ2) : js_J E d 34 36 [(2, 6 + b), (2, x1)] [(0, z2), (2, 21 + b), (2, z0)] σ = js_J E d 34 39 [(2, 6 + b), (2, x1)] [(0, v), (2, z0)] σ2 :=
  j_call (m := 3) (js_caV q_34_36 (js_Mo qy_34 qm_4_127)) (js_agV (av := [(0, z2)]) (st := [(2, z0)]) rfl rfl (js_o21b hb) rfl) rfl rfl (by rw [ql_41]; exact Nat.le_of_ble_eq_true rfl) (Nat.le_of_ble_eq_true rfl) hd hz
theorem kt_34_36 {E : js_E} {d : Nat} {σ σ2 : js_S} {x1 z0 z2 b : Int} (hb : b = 0 ∨ b = 25) {w : Int} (hd : 1 ≤ d) (hz : js_J E (d - 1) 41 0 [(2, 21 + b), (0, z2), (9, 0), (9, 0), (9, 0)] [] σ = js_t E w σ2) : js_J E d 34 36 [(2, 6 + b), (2, x1)] [(0, z2), (2, 21 + b), (2, z0)] σ = js_t E w σ2 :=
  j_callT (m := 3) (js_caV q_34_36 (js_Mo qy_34 qm_4_127)) (js_agV (av := [(0, z2)]) (st := [(2, z0)]) rfl rfl (js_o21b hb) rfl) rfl rfl (by rw [ql_41]; exact Nat.le_of_ble_eq_true rfl) (Nat.le_of_ble_eq_true rfl) hd rfl hz
theorem b_34_39 {E : js_E} {d : Nat} {σ : js_S} {x1 z0 z1 b : Int} (hs_z0 : js_desc E.1 σ z0 = some (0, 11, js_sym)) (hb : b = 0 ∨ b = 25) (hs_x1 : js_desc E.1 σ x1 = some (0, 11, js_sym)) : js_J E d 34 39 [(2, 6 + b), (2, x1)] [(0, z1), (2, z0)] σ = js_J E d 34 58 [(2, 6 + b), (2, x1)] [(0, (js_up σ z0 8 z1) x1 8), (0, (js_up σ z0 8 z1) x1 8), (0, σ (21 + b) 0), (2, x1)] (js_up σ z0 8 z1) :=
  (j_putI (ji := 8) q_34_39 (js_Fo qy_34 qf_4_131) rfl hs_z0 rfl rfl rfl).trans <| (j_aload_n q_34_42 rfl).trans <| (j_aload_n q_34_43 rfl).trans <| (j_get (ji := 3) (v := (2, 21 + b)) q_34_44 (js_Fo qy_34 qf_4_31) (js_o6b hb) rfl rfl rfl rfl).trans <| (j_get (ji := 0) (v := (0, σ (21 + b) 0)) q_34_47 (js_Fo qy_34 qf_4_136) (js_o21b hb) rfl rfl rfl (congrArg (Prod.mk 0) ((js_up_ne _ (by have := js_sym_ge hs_z0; omega))))).trans <| (j_aload_n q_34_50 rfl).trans <| (j_get (ji := 8) (v := (0, (js_up σ z0 8 z1) x1 8)) q_34_51 (js_Fo qy_34 qf_4_131) (js_ds hs_x1 (js_desc_nn hs_z0) (fun _ => by decide)) rfl rfl rfl rfl).trans <| (j_aload_n q_34_54 rfl).trans <| (j_get (ji := 8) (v := (0, (js_up σ z0 8 z1) x1 8)) q_34_55 (js_Fo qy_34 qf_4_131) (js_ds hs_x1 (js_desc_nn hs_z0) (fun _ => by decide)) rfl rfl rfl rfl).trans <| rfl
theorem k_34_58 {E : js_E} {d : Nat} {σ σ2 : js_S} {x1 z0 z1 z2 z3 b : Int} (hs_z0 : js_desc E.1 σ z0 = some (0, 11, js_sym)) (hd : 1 ≤ d) (hz : js_J E (d - 1) 43 0 [(2, z0), (0, z1), (0, z2), (0, z3)] [] σ = js_r0 E σ2) : js_J E d 34 58 [(2, 6 + b), (2, x1)] [(0, z3), (0, z2), (0, z1), (2, z0)] σ = js_J E d 34 61 [(2, 6 + b), (2, x1)] [] σ2 :=
  j_call0 (m := 0) (js_caV q_34_58 (js_Mo qy_34 qm_4_138)) (js_agV (av := [(0, z1), (0, z2), (0, z3)]) (st := []) rfl rfl hs_z0 rfl) rfl rfl (by rw [ql_43]; exact Nat.le_of_ble_eq_true rfl) (Nat.le_of_ble_eq_true rfl) hd hz
theorem kt_34_58 {E : js_E} {d : Nat} {σ σ2 : js_S} {x1 z0 z1 z2 z3 b : Int} (hs_z0 : js_desc E.1 σ z0 = some (0, 11, js_sym)) {w : Int} (hd : 1 ≤ d) (hz : js_J E (d - 1) 43 0 [(2, z0), (0, z1), (0, z2), (0, z3)] [] σ = js_t E w σ2) : js_J E d 34 58 [(2, 6 + b), (2, x1)] [(0, z3), (0, z2), (0, z1), (2, z0)] σ = js_t E w σ2 :=
  j_callT (m := 0) (js_caV q_34_58 (js_Mo qy_34 qm_4_138)) (js_agV (av := [(0, z1), (0, z2), (0, z3)]) (st := []) rfl rfl hs_z0 rfl) rfl rfl (by rw [ql_43]; exact Nat.le_of_ble_eq_true rfl) (Nat.le_of_ble_eq_true rfl) hd rfl hz
theorem b_34_61 {E : js_E} {d : Nat} {σ : js_S} {x1 b : Int} (hb : b = 0 ∨ b = 25) : js_J E d 34 61 [(2, 6 + b), (2, x1)] [] σ = js_J E d 34 67 [(2, 6 + b), (2, x1)] [(0, 59), (2, 1)] σ :=
  (j_aload_n q_34_61 rfl).trans <| (j_get (ji := 1) (v := (2, 1)) q_34_62 (js_Fo qy_34 qf_4_17) (js_o6b hb) rfl rfl rfl rfl).trans <| (j_bi q_34_65 rfl).trans <| rfl
theorem k_34_67 {E : js_E} {d : Nat} {σ σ2 : js_S} {x1 z1 b : Int} (hd : 1 ≤ d) (hz : js_J E (d - 1) 40 0 [(2, 1), (0, z1)] [] σ = js_r0 E σ2) : js_J E d 34 67 [(2, 6 + b), (2, x1)] [(0, z1), (2, 1)] σ = js_J E d 34 70 [(2, 6 + b), (2, x1)] [] σ2 :=
  j_call0 (m := 0) (js_caV q_34_67 (js_Mo qy_34 qm_4_80)) (js_agV (av := [(0, z1)]) (st := []) rfl rfl js_o1 rfl) rfl rfl (by rw [ql_40]; exact Nat.le_of_ble_eq_true rfl) (Nat.le_of_ble_eq_true rfl) hd hz
theorem kt_34_67 {E : js_E} {d : Nat} {σ σ2 : js_S} {x1 z1 b : Int} {w : Int} (hd : 1 ≤ d) (hz : js_J E (d - 1) 40 0 [(2, 1), (0, z1)] [] σ = js_t E w σ2) : js_J E d 34 67 [(2, 6 + b), (2, x1)] [(0, z1), (2, 1)] σ = js_t E w σ2 :=
  j_callT (m := 0) (js_caV q_34_67 (js_Mo qy_34 qm_4_80)) (js_agV (av := [(0, z1)]) (st := []) rfl rfl js_o1 rfl) rfl rfl (by rw [ql_40]; exact Nat.le_of_ble_eq_true rfl) (Nat.le_of_ble_eq_true rfl) hd rfl hz
theorem b_34_70 {E : js_E} {d : Nat} {σ : js_S} {x1 b : Int} (hs_x1 : js_desc E.1 σ x1 = some (0, 11, js_sym)) : js_J E d 34 70 [(2, 6 + b), (2, x1)] [] σ = js_r0 E (js_up σ x1 13 1) :=
  (j_aload_n q_34_70 rfl).trans <| (j_iconst q_34_71).trans <| (j_putB1 (ji := 13) q_34_72 (js_Fo qy_34 qf_4_142) rfl hs_x1 rfl rfl rfl).trans <| j_return q_34_75 qr_34
-- 35: VitalTwin$Program.tell (IZLVitalTwin$Reader;)LVitalTwin$Symbol;
theorem b_35_0 {E : js_E} {d : Nat} {σ : js_S} {x1 x2 b : Int} : js_J E d 35 0 [(2, 7 + b), (0, x1), (0, x2), (2, 1), (9, 0), (9, 0)] [] σ = (if js_w (σ 1 1) = 2 then js_J E d 35 17 [(2, 7 + b), (0, x1), (0, x2), (2, 1), (9, 0), (9, 0)] [] σ else js_J E d 35 14 [(2, 7 + b), (0, x1), (0, x2), (2, 1), (9, 0), (9, 0)] [(0, σ 1 2), (0, 1), (2, 1)] σ) :=
  (j_aload_n q_35_0 rfl).trans <| (j_get (ji := 1) (v := (0, σ 1 1)) q_35_1 (js_Fo qy_35 qf_7_75) js_o1 rfl rfl rfl rfl).trans <| (j_iconst q_35_4).trans <| (j_cmpeqB (t := 17) q_35_5 rfl ww_2).trans (js_ite (rfl) ((j_aload_n q_35_8 rfl).trans <| (j_iconst q_35_9).trans <| (j_aload_n q_35_10 rfl).trans <| (j_get (ji := 2) (v := (0, σ 1 2)) q_35_11 (js_Fo qy_35 qf_7_78) js_o1 rfl rfl rfl rfl).trans <| rfl))
theorem k_35_14 {E : js_E} {d : Nat} {σ σ2 : js_S} {x1 x2 z1 z2 b : Int} (hd : 1 ≤ d) (hz : js_J E (d - 1) 36 0 [(2, 1), (0, z1), (0, z2)] [] σ = js_r0 E σ2) : js_J E d 35 14 [(2, 7 + b), (0, x1), (0, x2), (2, 1), (9, 0), (9, 0)] [(0, z2), (0, z1), (2, 1)] σ = js_J E d 35 17 [(2, 7 + b), (0, x1), (0, x2), (2, 1), (9, 0), (9, 0)] [] σ2 :=
  j_call0 (m := 0) (js_caV q_35_14 (js_Mo qy_35 qm_7_81)) (js_agV (av := [(0, z1), (0, z2)]) (st := []) rfl rfl js_o1 rfl) rfl rfl (by rw [ql_36]; exact Nat.le_of_ble_eq_true rfl) (Nat.le_of_ble_eq_true rfl) hd hz
theorem kt_35_14 {E : js_E} {d : Nat} {σ σ2 : js_S} {x1 x2 z1 z2 b : Int} {w : Int} (hd : 1 ≤ d) (hz : js_J E (d - 1) 36 0 [(2, 1), (0, z1), (0, z2)] [] σ = js_t E w σ2) : js_J E d 35 14 [(2, 7 + b), (0, x1), (0, x2), (2, 1), (9, 0), (9, 0)] [(0, z2), (0, z1), (2, 1)] σ = js_t E w σ2 :=
  j_callT (m := 0) (js_caV q_35_14 (js_Mo qy_35 qm_7_81)) (js_agV (av := [(0, z1), (0, z2)]) (st := []) rfl rfl js_o1 rfl) rfl rfl (by rw [ql_36]; exact Nat.le_of_ble_eq_true rfl) (Nat.le_of_ble_eq_true rfl) hd rfl hz
theorem b_35_17 {E : js_E} {d : Nat} {σ : js_S} {x1 x2 b : Int} : js_J E d 35 17 [(2, 7 + b), (0, x1), (0, x2), (2, 1), (9, 0), (9, 0)] [] σ = js_J E d 35 19 [(2, 7 + b), (0, x1), (0, x2), (2, 1), (9, 0), (9, 0)] [(2, 1), (2, 7 + b)] σ :=
  (j_aload_n q_35_17 rfl).trans <| (j_aload_n q_35_18 rfl).trans <| rfl
theorem k_35_19 {E : js_E} {d : Nat} {σ σ2 : js_S} {x1 x2 b : Int} (hb : b = 0 ∨ b = 25) {v : Int} (hd : 1 ≤ d) (hz : js_J E (d - 1) 37 0 [(2, 7 + b), (2, 1), (9, 0), (9, 0), (9, 0)] [] σ = js_r E (2, v) σ2) : js_J E d 35 19 [(2, 7 + b), (0, x1), (0, x2), (2, 1), (9, 0), (9, 0)] [(2, 1), (2, 7 + b)] σ = js_J E d 35 22 [(2, 7 + b), (0, x1), (0, x2), (2, 1), (9, 0), (9, 0)] [(2, v)] σ2 :=
  j_call (m := 3) (js_caV q_35_19 (js_Mo qy_35 qm_7_85)) (js_agV (av := [(2, 1)]) (st := []) rfl rfl (js_o7b hb) rfl) rfl rfl (by rw [ql_37]; exact Nat.le_of_ble_eq_true rfl) (Nat.le_of_ble_eq_true rfl) hd hz
theorem kt_35_19 {E : js_E} {d : Nat} {σ σ2 : js_S} {x1 x2 b : Int} (hb : b = 0 ∨ b = 25) {w : Int} (hd : 1 ≤ d) (hz : js_J E (d - 1) 37 0 [(2, 7 + b), (2, 1), (9, 0), (9, 0), (9, 0)] [] σ = js_t E w σ2) : js_J E d 35 19 [(2, 7 + b), (0, x1), (0, x2), (2, 1), (9, 0), (9, 0)] [(2, 1), (2, 7 + b)] σ = js_t E w σ2 :=
  j_callT (m := 3) (js_caV q_35_19 (js_Mo qy_35 qm_7_85)) (js_agV (av := [(2, 1)]) (st := []) rfl rfl (js_o7b hb) rfl) rfl rfl (by rw [ql_37]; exact Nat.le_of_ble_eq_true rfl) (Nat.le_of_ble_eq_true rfl) hd rfl hz
theorem b_35_22 {E : js_E} {d : Nat} {σ : js_S} {x1 x2 z0 b : Int} : js_J E d 35 22 [(2, 7 + b), (0, x1), (0, x2), (2, 1), (9, 0), (9, 0)] [(2, z0)] σ = (if z0 < 0 then js_J E d 35 34 [(2, 7 + b), (0, x1), (0, x2), (2, 1), (9, 0), (9, 0)] [] σ else js_J E d 35 25 [(2, 7 + b), (0, x1), (0, x2), (2, 1), (9, 0), (9, 0)] [] σ) :=
  (j_ifnull (t := 34) q_35_22 rfl).trans (js_ite (rfl) (rfl))
theorem b_35_25 {E : js_E} {d : Nat} {σ : js_S} {x1 x2 b : Int} : js_J E d 35 25 [(2, 7 + b), (0, x1), (0, x2), (2, 1), (9, 0), (9, 0)] [] σ = js_J E d 35 31 [(2, 7 + b), (0, x1), (0, x2), (2, 1), (9, 0), (9, 0)] [(0, σ 1 2), (0, 2), (2, 1)] σ :=
  (j_aload_n q_35_25 rfl).trans <| (j_iconst q_35_26).trans <| (j_aload_n q_35_27 rfl).trans <| (j_get (ji := 2) (v := (0, σ 1 2)) q_35_28 (js_Fo qy_35 qf_7_78) js_o1 rfl rfl rfl rfl).trans <| rfl
theorem k_35_31 {E : js_E} {d : Nat} {σ σ2 : js_S} {x1 x2 z1 z2 b : Int} (hd : 1 ≤ d) (hz : js_J E (d - 1) 36 0 [(2, 1), (0, z1), (0, z2)] [] σ = js_r0 E σ2) : js_J E d 35 31 [(2, 7 + b), (0, x1), (0, x2), (2, 1), (9, 0), (9, 0)] [(0, z2), (0, z1), (2, 1)] σ = js_J E d 35 34 [(2, 7 + b), (0, x1), (0, x2), (2, 1), (9, 0), (9, 0)] [] σ2 :=
  j_call0 (m := 0) (js_caV q_35_31 (js_Mo qy_35 qm_7_81)) (js_agV (av := [(0, z1), (0, z2)]) (st := []) rfl rfl js_o1 rfl) rfl rfl (by rw [ql_36]; exact Nat.le_of_ble_eq_true rfl) (Nat.le_of_ble_eq_true rfl) hd hz
theorem kt_35_31 {E : js_E} {d : Nat} {σ σ2 : js_S} {x1 x2 z1 z2 b : Int} {w : Int} (hd : 1 ≤ d) (hz : js_J E (d - 1) 36 0 [(2, 1), (0, z1), (0, z2)] [] σ = js_t E w σ2) : js_J E d 35 31 [(2, 7 + b), (0, x1), (0, x2), (2, 1), (9, 0), (9, 0)] [(0, z2), (0, z1), (2, 1)] σ = js_t E w σ2 :=
  j_callT (m := 0) (js_caV q_35_31 (js_Mo qy_35 qm_7_81)) (js_agV (av := [(0, z1), (0, z2)]) (st := []) rfl rfl js_o1 rfl) rfl rfl (by rw [ql_36]; exact Nat.le_of_ble_eq_true rfl) (Nat.le_of_ble_eq_true rfl) hd rfl hz
theorem b_35_34 {E : js_E} {d : Nat} {σ : js_S} {x1 x2 b : Int} (hb : b = 0 ∨ b = 25) : js_J E d 35 34 [(2, 7 + b), (0, x1), (0, x2), (2, 1), (9, 0), (9, 0)] [] σ = (if js_w x2 = 0 then (if js_w (σ (7 + b) 1) < 400 then js_J E d 35 58 [(2, 7 + b), (0, x1), (0, x2), (2, 1), (9, 0), (9, 0)] [] σ else js_J E d 35 48 [(2, 7 + b), (0, x1), (0, x2), (2, 1), (9, 0), (9, 0)] [] σ) else js_J E d 35 48 [(2, 7 + b), (0, x1), (0, x2), (2, 1), (9, 0), (9, 0)] [] σ) :=
  (j_iload_n q_35_34 rfl).trans <| (j_ifne (t := 48) q_35_35 rfl).trans (js_ite ((j_aload_n q_35_38 rfl).trans <| (j_get (ji := 1) (v := (0, σ (7 + b) 1)) q_35_39 (js_Fo qy_35 qf_7_31) (js_o7b hb) rfl rfl rfl rfl).trans <| (j_si q_35_42 rfl).trans <| (j_cmpltB (t := 58) q_35_45 rfl ww_400).trans (js_ite (rfl) (rfl))) (rfl))
theorem b_35_48 {E : js_E} {d : Nat} {σ : js_S} {x1 x2 b : Int} : js_J E d 35 48 [(2, 7 + b), (0, x1), (0, x2), (2, 1), (9, 0), (9, 0)] [] σ = js_J E d 35 55 [(2, 7 + b), (0, x1), (0, x2), (2, 1), (9, 0), (9, 0)] [(0, σ 1 2), (0, 10), (2, 1)] σ :=
  (j_aload_n q_35_48 rfl).trans <| (j_bi q_35_49 rfl).trans <| (j_aload_n q_35_51 rfl).trans <| (j_get (ji := 2) (v := (0, σ 1 2)) q_35_52 (js_Fo qy_35 qf_7_78) js_o1 rfl rfl rfl rfl).trans <| rfl
theorem k_35_55 {E : js_E} {d : Nat} {σ σ2 : js_S} {x1 x2 z1 z2 b : Int} (hd : 1 ≤ d) (hz : js_J E (d - 1) 36 0 [(2, 1), (0, z1), (0, z2)] [] σ = js_r0 E σ2) : js_J E d 35 55 [(2, 7 + b), (0, x1), (0, x2), (2, 1), (9, 0), (9, 0)] [(0, z2), (0, z1), (2, 1)] σ = js_J E d 35 58 [(2, 7 + b), (0, x1), (0, x2), (2, 1), (9, 0), (9, 0)] [] σ2 :=
  j_call0 (m := 0) (js_caV q_35_55 (js_Mo qy_35 qm_7_81)) (js_agV (av := [(0, z1), (0, z2)]) (st := []) rfl rfl js_o1 rfl) rfl rfl (by rw [ql_36]; exact Nat.le_of_ble_eq_true rfl) (Nat.le_of_ble_eq_true rfl) hd hz
theorem kt_35_55 {E : js_E} {d : Nat} {σ σ2 : js_S} {x1 x2 z1 z2 b : Int} {w : Int} (hd : 1 ≤ d) (hz : js_J E (d - 1) 36 0 [(2, 1), (0, z1), (0, z2)] [] σ = js_t E w σ2) : js_J E d 35 55 [(2, 7 + b), (0, x1), (0, x2), (2, 1), (9, 0), (9, 0)] [(0, z2), (0, z1), (2, 1)] σ = js_t E w σ2 :=
  j_callT (m := 0) (js_caV q_35_55 (js_Mo qy_35 qm_7_81)) (js_agV (av := [(0, z1), (0, z2)]) (st := []) rfl rfl js_o1 rfl) rfl rfl (by rw [ql_36]; exact Nat.le_of_ble_eq_true rfl) (Nat.le_of_ble_eq_true rfl) hd rfl hz
theorem b_35_58 {E : js_E} {d : Nat} {σ : js_S} {x1 x2 b : Int} (hb : b = 0 ∨ b = 25) : js_J E d 35 58 [(2, 7 + b), (0, x1), (0, x2), (2, 1), (9, 0), (9, 0)] [] σ = (if 0 ≤ js_w (σ (7 + b) 1) ∧ js_w (σ (7 + b) 1) < 400 then (if (σ (19 + b) (js_w (σ (7 + b) 1))) < 0 then js_J E d 35 74 [(2, 7 + b), (0, x1), (0, x2), (2, 1), (2, σ (19 + b) (js_w (σ (7 + b) 1))), (9, 0)] [] σ else js_J E d 35 98 [(2, 7 + b), (0, x1), (0, x2), (2, 1), (2, σ (19 + b) (js_w (σ (7 + b) 1))), (9, 0)] [] σ) else none) :=
  (j_aload_n q_35_58 rfl).trans <| (j_get (ji := 7) (v := (2, 19 + b)) q_35_59 (js_Fo qy_35 qf_7_20) (js_o7b hb) rfl rfl rfl rfl).trans <| (j_aload_n q_35_62 rfl).trans <| (j_get (ji := 1) (v := (0, σ (7 + b) 1)) q_35_63 (js_Fo qy_35 qf_7_31) (js_o7b hb) rfl rfl rfl rfl).trans <| (j_aaload q_35_66 (js_o19b hb)).trans <| js_itp fun g0 => (j_astore (l2 := [(2, 7 + b), (0, x1), (0, x2), (2, 1), (2, σ (19 + b) (js_w (σ (7 + b) 1))), (9, 0)]) q_35_67 rfl (Nat.le_of_ble_eq_true rfl)).trans <| (j_aload q_35_69 rfl).trans <| (j_ifnonnull (t := 98) q_35_71 rfl).trans (js_ite (rfl) (rfl))
theorem b_35_74 {E : js_E} {d : Nat} {σ : js_S} {x1 x2 x4 b : Int} (hn : 137 ≤ σ (-1) 0) (hn1 : 0 ≤ σ (-1) 1) (hb : b = 0 ∨ b = 25) : js_J E d 35 74 [(2, 7 + b), (0, x1), (0, x2), (2, 1), (2, x4), (9, 0)] [] σ = js_J E d 35 82 [(2, 7 + b), (0, x1), (0, x2), (2, 1), (2, x4), (9, 0)] [(0, (js_ns σ) (7 + b) 1), (2, σ (-1) 0), (2, σ (-1) 0)] (js_ns σ) :=
  (j_newsym q_35_74 (js_No qy_35 qn_7_18) rfl hn hn1).trans <| (j_dupr q_35_77).trans <| (j_aload_n q_35_78 rfl).trans <| (j_get (ji := 1) (v := (0, (js_ns σ) (7 + b) 1)) q_35_79 (js_Fo qy_35 qf_7_31) (js_o7b hb) rfl rfl rfl rfl).trans <| rfl
theorem k_35_82 {E : js_E} {d : Nat} {σ σ2 : js_S} {x1 x2 x4 z0 z1 z2 b : Int} (h0 : 0 ≤ z1) (hd : 1 ≤ d) (hz : js_J E (d - 1) 38 0 [(2, z1), (0, z2)] [] σ = js_r0 E σ2) : js_J E d 35 82 [(2, 7 + b), (0, x1), (0, x2), (2, 1), (2, x4), (9, 0)] [(0, z2), (2, z1), (2, z0)] σ = js_J E d 35 85 [(2, 7 + b), (0, x1), (0, x2), (2, 1), (2, x4), (9, 0)] [(2, z0)] σ2 :=
  j_call0 (m := 0) (js_caI q_35_82 (js_Mo qy_35 qm_7_89)) (js_agI (av := [(0, z2)]) (st := [(2, z0)]) rfl rfl h0) rfl rfl (by rw [ql_38]; exact Nat.le_of_ble_eq_true rfl) (Nat.le_of_ble_eq_true rfl) hd hz
theorem kt_35_82 {E : js_E} {d : Nat} {σ σ2 : js_S} {x1 x2 x4 z0 z1 z2 b : Int} (h0 : 0 ≤ z1) {w : Int} (hd : 1 ≤ d) (hz : js_J E (d - 1) 38 0 [(2, z1), (0, z2)] [] σ = js_t E w σ2) : js_J E d 35 82 [(2, 7 + b), (0, x1), (0, x2), (2, 1), (2, x4), (9, 0)] [(0, z2), (2, z1), (2, z0)] σ = js_t E w σ2 :=
  j_callT (m := 0) (js_caI q_35_82 (js_Mo qy_35 qm_7_89)) (js_agI (av := [(0, z2)]) (st := [(2, z0)]) rfl rfl h0) rfl rfl (by rw [ql_38]; exact Nat.le_of_ble_eq_true rfl) (Nat.le_of_ble_eq_true rfl) hd rfl hz
theorem b_35_85 {E : js_E} {d : Nat} {σ : js_S} {x1 x2 x4 z0 b : Int} (hb : b = 0 ∨ b = 25) (hs_z0 : js_desc E.1 σ z0 = some (0, 11, js_sym)) : js_J E d 35 85 [(2, 7 + b), (0, x1), (0, x2), (2, 1), (2, x4), (9, 0)] [(2, z0)] σ = (if 0 ≤ js_w (σ (7 + b) 1) ∧ js_w (σ (7 + b) 1) < 400 then js_J E d 35 98 [(2, 7 + b), (0, x1), (0, x2), (2, 1), (2, z0), (9, 0)] [] (js_up σ (19 + b) (js_w (σ (7 + b) 1)) z0) else none) :=
  (j_astore (l2 := [(2, 7 + b), (0, x1), (0, x2), (2, 1), (2, z0), (9, 0)]) q_35_85 rfl (Nat.le_of_ble_eq_true rfl)).trans <| (j_aload_n q_35_87 rfl).trans <| (j_get (ji := 7) (v := (2, 19 + b)) q_35_88 (js_Fo qy_35 qf_7_20) (js_o7b hb) rfl rfl rfl rfl).trans <| (j_aload_n q_35_91 rfl).trans <| (j_get (ji := 1) (v := (0, σ (7 + b) 1)) q_35_92 (js_Fo qy_35 qf_7_31) (js_o7b hb) rfl rfl rfl rfl).trans <| (j_aload q_35_95 rfl).trans <| (j_aastore q_35_97 (js_o19b hb) hs_z0).trans <| js_itn <| rfl
theorem b_35_98 {E : js_E} {d : Nat} {σ : js_S} {x1 x2 x4 b : Int} : js_J E d 35 98 [(2, 7 + b), (0, x1), (0, x2), (2, 1), (2, x4), (9, 0)] [] σ = js_J E d 35 101 [(2, 7 + b), (0, x1), (0, x2), (2, 1), (2, x4), (9, 0)] [(0, x1), (2, x4)] σ :=
  (j_aload q_35_98 rfl).trans <| (j_iload_n q_35_100 rfl).trans <| rfl
theorem k_35_101 {E : js_E} {d : Nat} {σ σ2 : js_S} {x1 x2 x4 z0 z1 b : Int} (hs_z0 : js_desc E.1 σ z0 = some (0, 11, js_sym)) (hd : 1 ≤ d) (hz : js_J E (d - 1) 39 0 [(2, z0), (0, z1)] [] σ = js_r0 E σ2) : js_J E d 35 101 [(2, 7 + b), (0, x1), (0, x2), (2, 1), (2, x4), (9, 0)] [(0, z1), (2, z0)] σ = js_J E d 35 104 [(2, 7 + b), (0, x1), (0, x2), (2, 1), (2, x4), (9, 0)] [] σ2 :=
  j_call0 (m := 0) (js_caV q_35_101 (js_Mo qy_35 qm_7_92)) (js_agV (av := [(0, z1)]) (st := []) rfl rfl hs_z0 rfl) rfl rfl (by rw [ql_39]; exact Nat.le_of_ble_eq_true rfl) (Nat.le_of_ble_eq_true rfl) hd hz
theorem kt_35_101 {E : js_E} {d : Nat} {σ σ2 : js_S} {x1 x2 x4 z0 z1 b : Int} (hs_z0 : js_desc E.1 σ z0 = some (0, 11, js_sym)) {w : Int} (hd : 1 ≤ d) (hz : js_J E (d - 1) 39 0 [(2, z0), (0, z1)] [] σ = js_t E w σ2) : js_J E d 35 101 [(2, 7 + b), (0, x1), (0, x2), (2, 1), (2, x4), (9, 0)] [(0, z1), (2, z0)] σ = js_t E w σ2 :=
  j_callT (m := 0) (js_caV q_35_101 (js_Mo qy_35 qm_7_92)) (js_agV (av := [(0, z1)]) (st := []) rfl rfl hs_z0 rfl) rfl rfl (by rw [ql_39]; exact Nat.le_of_ble_eq_true rfl) (Nat.le_of_ble_eq_true rfl) hd rfl hz
theorem b_35_104 {E : js_E} {d : Nat} {σ : js_S} {x1 x2 x4 b : Int} (hd : 4 ≤ d) (hs_x4 : js_desc E.1 σ x4 = some (0, 11, js_sym)) : js_J E d 35 104 [(2, 7 + b), (0, x1), (0, x2), (2, 1), (2, x4), (9, 0)] [] σ = js_J E d 35 121 [(2, 7 + b), (0, x1), (0, x2), (2, 1), (2, x4), (0, 0)] [] (js_up σ x4 14 (if js_w (σ 1 3) < js_w 20 then (σ 1 3) else 20)) :=
  (j_aload q_35_104 rfl).trans <| (j_bi q_35_106 rfl).trans <| (j_aload_n q_35_108 rfl).trans <| (j_get (ji := 3) (v := (0, σ 1 3)) q_35_109 (js_Fo qy_35 qf_7_64) js_o1 rfl rfl rfl rfl).trans <| (j_min (js_clS q_35_112 (js_Mo qy_35 qm_7_95)) (Nat.le_of_ble_eq_true rfl) hd).trans <| (j_putI (ji := 14) q_35_115 (js_Fo qy_35 qf_7_54) rfl hs_x4 rfl rfl rfl).trans <| (j_iconst q_35_118).trans <| (j_istore (l2 := [(2, 7 + b), (0, x1), (0, x2), (2, 1), (2, x4), (0, 0)]) q_35_119 rfl (Nat.le_of_ble_eq_true rfl)).trans <| rfl
theorem b_35_121 {E : js_E} {d : Nat} {σ : js_S} {x1 x2 x4 x5 b : Int} (hs_x4 : js_desc E.1 σ x4 = some (0, 11, js_sym)) (hb : b = 0 ∨ b = 25) : js_J E d 35 121 [(2, 7 + b), (0, x1), (0, x2), (2, 1), (2, x4), (0, x5)] [] σ = (if js_w x5 < js_w (σ x4 14) then (if 0 ≤ js_w x5 ∧ js_w x5 < 20 then (if 0 ≤ js_w (((σ x4 0) * 20) + x5) ∧ js_w (((σ x4 0) * 20) + x5) < 8000 then js_J E d 35 121 [(2, 7 + b), (0, x1), (0, x2), (2, 1), (2, x4), (0, x5 + 1)] [] (js_up σ (20 + b) (js_w (((σ x4 0) * 20) + x5)) (js_i2b (σ 2 (js_w x5)))) else none) else none) else js_J E d 35 171 [(2, 7 + b), (0, x1), (0, x2), (2, 1), (2, x4), (0, x5)] [(2, 1)] (js_up σ (7 + b) 1 ((σ (7 + b) 1) + 1))) :=
  (j_iload q_35_121 rfl).trans <| (j_aload q_35_123 rfl).trans <| (j_get (ji := 14) (v := (0, σ x4 14)) q_35_125 (js_Fo qy_35 qf_7_54) hs_x4 rfl rfl rfl rfl).trans <| (j_cmpge (t := 160) q_35_128 rfl).trans (js_ite ((j_aload_n q_35_131 rfl).trans <| (j_get (ji := 8) (v := (2, 20 + b)) q_35_132 (js_Fo qy_35 qf_7_24) (js_o7b hb) rfl rfl rfl rfl).trans <| (j_aload q_35_135 rfl).trans <| (j_get (ji := 0) (v := (0, σ x4 0)) q_35_137 (js_Fo qy_35 qf_7_57) hs_x4 rfl rfl rfl rfl).trans <| (j_bi q_35_140 rfl).trans <| (j_imul q_35_142).trans <| (j_iload q_35_143 rfl).trans <| (j_iadd q_35_145).trans <| (j_aload_n q_35_146 rfl).trans <| (j_get (ji := 4) (v := (2, 2)) q_35_147 (js_Fo qy_35 qf_7_69) js_o1 rfl rfl rfl rfl).trans <| (j_iload q_35_150 rfl).trans <| (j_baload q_35_152 js_o2).trans <| js_itp fun g0 => (j_bastore q_35_153 (js_o20b hb)).trans <| js_itp fun g1 => (j_iinc (l2 := [(2, 7 + b), (0, x1), (0, x2), (2, 1), (2, x4), (0, x5 + 1)]) q_35_154 rfl rfl).trans <| (j_goto (t := 121) q_35_157 rfl).trans <| rfl) ((j_aload_n q_35_160 rfl).trans <| (j_dupr q_35_161).trans <| (j_get (ji := 1) (v := (0, σ (7 + b) 1)) q_35_162 (js_Fo qy_35 qf_7_31) (js_o7b hb) rfl rfl rfl rfl).trans <| (j_iconst q_35_165).trans <| (j_iadd q_35_166).trans <| (j_putI (ji := 1) q_35_167 (js_Fo qy_35 qf_7_31) rfl (js_o7b hb) rfl rfl rfl).trans <| (j_aload_n q_35_170 rfl).trans <| rfl))
theorem k_35_171 {E : js_E} {d : Nat} {σ σ2 : js_S} {x1 x2 x4 x5 b : Int} (hd : 1 ≤ d) (hz : js_J E (d - 1) 33 0 [(2, 1), (9, 0)] [] σ = js_r0 E σ2) : js_J E d 35 171 [(2, 7 + b), (0, x1), (0, x2), (2, 1), (2, x4), (0, x5)] [(2, 1)] σ = js_J E d 35 174 [(2, 7 + b), (0, x1), (0, x2), (2, 1), (2, x4), (0, x5)] [] σ2 :=
  j_call0 (m := 1) (js_caV q_35_171 (js_Mo qy_35 qm_7_101)) (js_agV (av := []) (st := []) rfl rfl js_o1 rfl) rfl rfl (by rw [ql_33]; exact Nat.le_of_ble_eq_true rfl) (Nat.le_of_ble_eq_true rfl) hd hz
theorem kt_35_171 {E : js_E} {d : Nat} {σ σ2 : js_S} {x1 x2 x4 x5 b : Int} {w : Int} (hd : 1 ≤ d) (hz : js_J E (d - 1) 33 0 [(2, 1), (9, 0)] [] σ = js_t E w σ2) : js_J E d 35 171 [(2, 7 + b), (0, x1), (0, x2), (2, 1), (2, x4), (0, x5)] [(2, 1)] σ = js_t E w σ2 :=
  j_callT (m := 1) (js_caV q_35_171 (js_Mo qy_35 qm_7_101)) (js_agV (av := []) (st := []) rfl rfl js_o1 rfl) rfl rfl (by rw [ql_33]; exact Nat.le_of_ble_eq_true rfl) (Nat.le_of_ble_eq_true rfl) hd rfl hz
theorem b_35_174 {E : js_E} {d : Nat} {σ : js_S} {x1 x2 x4 x5 b : Int} : js_J E d 35 174 [(2, 7 + b), (0, x1), (0, x2), (2, 1), (2, x4), (0, x5)] [] σ = js_r E (2, x4) σ :=
  (j_aload q_35_174 rfl).trans <| j_areturn q_35_176 qr_35
-- 36: VitalTwin$Reader.fail (II)V
theorem b_36_0 {E : js_E} {d : Nat} {σ : js_S} {x1 x2 : Int} (hd : 6 ≤ d) (hn : 137 ≤ σ (-1) 0) (hn1 : 0 ≤ σ (-1) 1) : js_J E d 36 0 [(2, 1), (0, x1), (0, x2)] [] σ = js_t E ((js_up σ 1 6 (x1 + (16 * x2))) (-1) 0) (js_ne (js_up σ 1 6 (x1 + (16 * x2))) 16) :=
  (j_aload_n q_36_0 rfl).trans <| (j_iload_n q_36_1 rfl).trans <| (j_bi q_36_2 rfl).trans <| (j_iload_n q_36_4 rfl).trans <| (j_imul q_36_5).trans <| (j_iadd q_36_6).trans <| (j_putI (ji := 6) q_36_7 (js_Fo qy_36 qf_8_71) rfl js_o1 rfl rfl rfl).trans <| j_throw q_36_10 (js_No qy_36 qn_8_137) (by decide) rfl rfl (Nat.le_of_ble_eq_true rfl) hd hn hn1
-- 37: VitalTwin$Program.find (LVitalTwin$Reader;)LVitalTwin$Symbol;
theorem b_37_0 {E : js_E} {d : Nat} {σ : js_S} {b : Int} : js_J E d 37 0 [(2, 7 + b), (2, 1), (9, 0), (9, 0), (9, 0)] [] σ = js_J E d 37 2 [(2, 7 + b), (2, 1), (0, 0), (9, 0), (9, 0)] [] σ :=
  (j_iconst q_37_0).trans <| (j_istore_n (l2 := [(2, 7 + b), (2, 1), (0, 0), (9, 0), (9, 0)]) q_37_1 rfl (Nat.le_of_ble_eq_true rfl)).trans <| rfl
theorem b_37_2 {E : js_E} {d : Nat} {σ : js_S} {x2 b : Int} {ux3 ux4 : js_v} (hb : b = 0 ∨ b = 25) : js_J E d 37 2 [(2, 7 + b), (2, 1), (0, x2), ux3, ux4] [] σ = (if js_w x2 < js_w (σ (7 + b) 1) then (if js_w x2 < 400 then (if 0 ≤ js_w x2 ∧ js_w x2 < 400 then (if (σ (19 + b) (js_w x2)) < 0 then js_J E d 37 99 [(2, 7 + b), (2, 1), (0, x2), (2, σ (19 + b) (js_w x2)), ux4] [] σ else js_J E d 37 30 [(2, 7 + b), (2, 1), (0, x2), (2, σ (19 + b) (js_w x2)), ux4] [] σ) else none) else js_r E (2, (-1)) σ) else js_r E (2, (-1)) σ) :=
  (j_iload_n q_37_2 rfl).trans <| (j_aload_n q_37_3 rfl).trans <| (j_get (ji := 1) (v := (0, σ (7 + b) 1)) q_37_4 (js_Fo qy_37 qf_7_31) (js_o7b hb) rfl rfl rfl rfl).trans <| (j_cmpge (t := 105) q_37_7 rfl).trans (js_ite ((j_iload_n q_37_10 rfl).trans <| (j_aload_n q_37_11 rfl).trans <| (j_get (ji := 7) (v := (2, 19 + b)) q_37_12 (js_Fo qy_37 qf_7_20) (js_o7b hb) rfl rfl rfl rfl).trans <| (j_alen q_37_15 (js_o19b hb) (by decide) (by decide)).trans <| (j_cmpgeB (t := 105) q_37_16 rfl ww_400).trans (js_ite ((j_aload_n q_37_19 rfl).trans <| (j_get (ji := 7) (v := (2, 19 + b)) q_37_20 (js_Fo qy_37 qf_7_20) (js_o7b hb) rfl rfl rfl rfl).trans <| (j_iload_n q_37_23 rfl).trans <| (j_aaload q_37_24 (js_o19b hb)).trans <| js_itp fun g0 => (j_astore_n (l2 := [(2, 7 + b), (2, 1), (0, x2), (2, σ (19 + b) (js_w x2)), ux4]) q_37_25 rfl (Nat.le_of_ble_eq_true rfl)).trans <| (j_aload_n q_37_26 rfl).trans <| (j_ifnull (t := 99) q_37_27 rfl).trans (js_ite (rfl) (rfl))) ((j_null q_37_105).trans <| j_areturn q_37_106 qr_37))) ((j_null q_37_105).trans <| j_areturn q_37_106 qr_37))
theorem b_37_30 {E : js_E} {d : Nat} {σ : js_S} {x2 x3 b : Int} {ux4 : js_v} (hs_x3 : js_desc E.1 σ x3 = some (0, 11, js_sym)) : js_J E d 37 30 [(2, 7 + b), (2, 1), (0, x2), (2, x3), ux4] [] σ = (if js_w (σ x3 13) = 0 then js_J E d 37 99 [(2, 7 + b), (2, 1), (0, x2), (2, x3), ux4] [] σ else (if js_w (σ x3 14) = js_w (σ 1 3) then js_J E d 37 51 [(2, 7 + b), (2, 1), (0, x2), (2, x3), (0, 0)] [] σ else js_J E d 37 99 [(2, 7 + b), (2, 1), (0, x2), (2, x3), ux4] [] σ)) :=
  (j_aload_n q_37_30 rfl).trans <| (j_get (ji := 13) (v := (0, σ x3 13)) q_37_31 (js_Fo qy_37 qf_7_60) hs_x3 rfl rfl rfl rfl).trans <| (j_ifeq (t := 99) q_37_34 rfl).trans (js_ite (rfl) ((j_aload_n q_37_37 rfl).trans <| (j_get (ji := 14) (v := (0, σ x3 14)) q_37_38 (js_Fo qy_37 qf_7_54) hs_x3 rfl rfl rfl rfl).trans <| (j_aload_n q_37_41 rfl).trans <| (j_get (ji := 3) (v := (0, σ 1 3)) q_37_42 (js_Fo qy_37 qf_7_64) js_o1 rfl rfl rfl rfl).trans <| (j_cmpne (t := 99) q_37_45 rfl).trans (js_ite ((j_iconst q_37_48).trans <| (j_istore (l2 := [(2, 7 + b), (2, 1), (0, x2), (2, x3), (0, 0)]) q_37_49 rfl (Nat.le_of_ble_eq_true rfl)).trans <| rfl) (rfl))))
theorem b_37_51 {E : js_E} {d : Nat} {σ : js_S} {x2 x3 x4 b : Int} (hs_x3 : js_desc E.1 σ x3 = some (0, 11, js_sym)) (hb : b = 0 ∨ b = 25) : js_J E d 37 51 [(2, 7 + b), (2, 1), (0, x2), (2, x3), (0, x4)] [] σ = (if js_w x4 < js_w (σ x3 14) then (if 0 ≤ js_w ((x2 * 20) + x4) ∧ js_w ((x2 * 20) + x4) < 8000 then (if 0 ≤ js_w x4 ∧ js_w x4 < 20 then (if js_w (σ (20 + b) (js_w ((x2 * 20) + x4))) = js_w (σ 2 (js_w x4)) then js_J E d 37 51 [(2, 7 + b), (2, 1), (0, x2), (2, x3), (0, x4 + 1)] [] σ else js_J E d 37 88 [(2, 7 + b), (2, 1), (0, x2), (2, x3), (0, x4)] [] σ) else none) else none) else js_J E d 37 88 [(2, 7 + b), (2, 1), (0, x2), (2, x3), (0, x4)] [] σ) :=
  (j_iload q_37_51 rfl).trans <| (j_aload_n q_37_53 rfl).trans <| (j_get (ji := 14) (v := (0, σ x3 14)) q_37_54 (js_Fo qy_37 qf_7_54) hs_x3 rfl rfl rfl rfl).trans <| (j_cmpge (t := 88) q_37_57 rfl).trans (js_ite ((j_aload_n q_37_60 rfl).trans <| (j_get (ji := 8) (v := (2, 20 + b)) q_37_61 (js_Fo qy_37 qf_7_24) (js_o7b hb) rfl rfl rfl rfl).trans <| (j_iload_n q_37_64 rfl).trans <| (j_bi q_37_65 rfl).trans <| (j_imul q_37_67).trans <| (j_iload q_37_68 rfl).trans <| (j_iadd q_37_70).trans <| (j_baload q_37_71 (js_o20b hb)).trans <| js_itp fun g0 => (j_aload_n q_37_72 rfl).trans <| (j_get (ji := 4) (v := (2, 2)) q_37_73 (js_Fo qy_37 qf_7_69) js_o1 rfl rfl rfl rfl).trans <| (j_iload q_37_76 rfl).trans <| (j_baload q_37_78 js_o2).trans <| js_itp fun g1 => (j_cmpne (t := 88) q_37_79 rfl).trans (js_ite ((j_iinc (l2 := [(2, 7 + b), (2, 1), (0, x2), (2, x3), (0, x4 + 1)]) q_37_82 rfl rfl).trans <| (j_goto (t := 51) q_37_85 rfl).trans <| rfl) (rfl))) (rfl))
theorem b_37_88 {E : js_E} {d : Nat} {σ : js_S} {x2 x3 x4 b : Int} (hs_x3 : js_desc E.1 σ x3 = some (0, 11, js_sym)) : js_J E d 37 88 [(2, 7 + b), (2, 1), (0, x2), (2, x3), (0, x4)] [] σ = (if js_w x4 = js_w (σ x3 14) then js_r E (2, x3) σ else js_J E d 37 99 [(2, 7 + b), (2, 1), (0, x2), (2, x3), (0, x4)] [] σ) :=
  (j_iload q_37_88 rfl).trans <| (j_aload_n q_37_90 rfl).trans <| (j_get (ji := 14) (v := (0, σ x3 14)) q_37_91 (js_Fo qy_37 qf_7_54) hs_x3 rfl rfl rfl rfl).trans <| (j_cmpne (t := 99) q_37_94 rfl).trans (js_ite ((j_aload_n q_37_97 rfl).trans <| j_areturn q_37_98 qr_37) (rfl))
theorem b_37_99 {E : js_E} {d : Nat} {σ : js_S} {x2 x3 b : Int} {ux4 : js_v} : js_J E d 37 99 [(2, 7 + b), (2, 1), (0, x2), (2, x3), ux4] [] σ = js_J E d 37 2 [(2, 7 + b), (2, 1), (0, x2 + 1), (2, x3), ux4] [] σ :=
  (j_iinc (l2 := [(2, 7 + b), (2, 1), (0, x2 + 1), (2, x3), ux4]) q_37_99 rfl rfl).trans <| (j_goto (t := 2) q_37_102 rfl).trans <| rfl
-- 38: VitalTwin$Symbol.<init> (I)V
theorem b_38_0 {E : js_E} {d : Nat} {σ : js_S} {x0 x1 : Int} (hd : 1 ≤ d) (hs_x0 : js_desc E.1 σ x0 = some (0, 11, js_sym)) : js_J E d 38 0 [(2, x0), (0, x1)] [] σ = js_r0 E (js_up σ x0 0 x1) :=
  (j_aload_n q_38_0 rfl).trans <| (j_objinit q_38_1 (js_Mo qy_38 qm_11_3) (js_desc_nn hs_x0) (Nat.le_of_ble_eq_true rfl) hd).trans <| (j_aload_n q_38_4 rfl).trans <| (j_iload_n q_38_5 rfl).trans <| (j_putIF (ji := 0) q_38_6 (js_Fo qy_38 qf_11_9) rfl hs_x0 rfl rfl rfl (by decide +kernel)).trans <| j_return q_38_9 qr_38
-- 39: VitalTwin$Symbol.begin (I)V
theorem b_39_0 {E : js_E} {d : Nat} {σ : js_S} {x0 x1 : Int} (hs_x0 : js_desc E.1 σ x0 = some (0, 11, js_sym)) : js_J E d 39 0 [(2, x0), (0, x1)] [] σ = js_r0 E (js_up (js_up (js_up (js_up (js_up (js_up (js_up (js_up (js_up (js_up (js_up (js_up (js_up σ x0 1 x1) x0 2 2) x0 3 0) x0 4 0) x0 5 (-1)) x0 6 1) x0 7 (-1)) x0 8 0) x0 9 0) x0 10 0) x0 11 (-1)) x0 12 0) x0 13 0) :=
  (j_aload_n q_39_0 rfl).trans <| (j_iload_n q_39_1 rfl).trans <| (j_putI (ji := 1) q_39_2 (js_Fo qy_39 qf_11_15) rfl hs_x0 rfl rfl rfl).trans <| (j_aload_n q_39_5 rfl).trans <| (j_iconst q_39_6).trans <| (j_putI (ji := 2) q_39_7 (js_Fo qy_39 qf_11_18) rfl (js_ds hs_x0 (js_desc_nn hs_x0) (fun _ => by decide)) rfl rfl rfl).trans <| (j_aload_n q_39_10 rfl).trans <| (j_iconst q_39_11).trans <| (j_putI (ji := 3) q_39_12 (js_Fo qy_39 qf_11_21) rfl (js_ds (js_ds hs_x0 (js_desc_nn hs_x0) (fun _ => by decide)) (js_desc_nn hs_x0) (fun _ => by decide)) rfl rfl rfl).trans <| (j_aload_n q_39_15 rfl).trans <| (j_iconst q_39_16).trans <| (j_putI (ji := 4) q_39_17 (js_Fo qy_39 qf_11_24) rfl (js_ds (js_ds (js_ds hs_x0 (js_desc_nn hs_x0) (fun _ => by decide)) (js_desc_nn hs_x0) (fun _ => by decide)) (js_desc_nn hs_x0) (fun _ => by decide)) rfl rfl rfl).trans <| (j_aload_n q_39_20 rfl).trans <| (j_iconst q_39_21).trans <| (j_putI (ji := 5) q_39_22 (js_Fo qy_39 qf_11_27) rfl (js_ds (js_ds (js_ds (js_ds hs_x0 (js_desc_nn hs_x0) (fun _ => by decide)) (js_desc_nn hs_x0) (fun _ => by decide)) (js_desc_nn hs_x0) (fun _ => by decide)) (js_desc_nn hs_x0) (fun _ => by decide)) rfl rfl rfl).trans <| (j_aload_n q_39_25 rfl).trans <| (j_iconst q_39_26).trans <| (j_putI (ji := 6) q_39_27 (js_Fo qy_39 qf_11_30) rfl (js_ds (js_ds (js_ds (js_ds (js_ds hs_x0 (js_desc_nn hs_x0) (fun _ => by decide)) (js_desc_nn hs_x0) (fun _ => by decide)) (js_desc_nn hs_x0) (fun _ => by decide)) (js_desc_nn hs_x0) (fun _ => by decide)) (js_desc_nn hs_x0) (fun _ => by decide)) rfl rfl rfl).trans <| (j_aload_n q_39_30 rfl).trans <| (j_iconst q_39_31).trans <| (j_putI (ji := 7) q_39_32 (js_Fo qy_39 qf_11_33) rfl (js_ds (js_ds (js_ds (js_ds (js_ds (js_ds hs_x0 (js_desc_nn hs_x0) (fun _ => by decide)) (js_desc_nn hs_x0) (fun _ => by decide)) (js_desc_nn hs_x0) (fun _ => by decide)) (js_desc_nn hs_x0) (fun _ => by decide)) (js_desc_nn hs_x0) (fun _ => by decide)) (js_desc_nn hs_x0) (fun _ => by decide)) rfl rfl rfl).trans <| (j_aload_n q_39_35 rfl).trans <| (j_iconst q_39_36).trans <| (j_putI (ji := 8) q_39_37 (js_Fo qy_39 qf_11_36) rfl (js_ds (js_ds (js_ds (js_ds (js_ds (js_ds (js_ds hs_x0 (js_desc_nn hs_x0) (fun _ => by decide)) (js_desc_nn hs_x0) (fun _ => by decide)) (js_desc_nn hs_x0) (fun _ => by decide)) (js_desc_nn hs_x0) (fun _ => by decide)) (js_desc_nn hs_x0) (fun _ => by decide)) (js_desc_nn hs_x0) (fun _ => by decide)) (js_desc_nn hs_x0) (fun _ => by decide)) rfl rfl rfl).trans <| (j_aload_n q_39_40 rfl).trans <| (j_iconst q_39_41).trans <| (j_putI (ji := 9) q_39_42 (js_Fo qy_39 qf_11_39) rfl (js_ds (js_ds (js_ds (js_ds (js_ds (js_ds (js_ds (js_ds hs_x0 (js_desc_nn hs_x0) (fun _ => by decide)) (js_desc_nn hs_x0) (fun _ => by decide)) (js_desc_nn hs_x0) (fun _ => by decide)) (js_desc_nn hs_x0) (fun _ => by decide)) (js_desc_nn hs_x0) (fun _ => by decide)) (js_desc_nn hs_x0) (fun _ => by decide)) (js_desc_nn hs_x0) (fun _ => by decide)) (js_desc_nn hs_x0) (fun _ => by decide)) rfl rfl rfl).trans <| (j_aload_n q_39_45 rfl).trans <| (j_iconst q_39_46).trans <| (j_putI (ji := 10) q_39_47 (js_Fo qy_39 qf_11_42) rfl (js_ds (js_ds (js_ds (js_ds (js_ds (js_ds (js_ds (js_ds (js_ds hs_x0 (js_desc_nn hs_x0) (fun _ => by decide)) (js_desc_nn hs_x0) (fun _ => by decide)) (js_desc_nn hs_x0) (fun _ => by decide)) (js_desc_nn hs_x0) (fun _ => by decide)) (js_desc_nn hs_x0) (fun _ => by decide)) (js_desc_nn hs_x0) (fun _ => by decide)) (js_desc_nn hs_x0) (fun _ => by decide)) (js_desc_nn hs_x0) (fun _ => by decide)) (js_desc_nn hs_x0) (fun _ => by decide)) rfl rfl rfl).trans <| (j_aload_n q_39_50 rfl).trans <| (j_iconst q_39_51).trans <| (j_putI (ji := 11) q_39_52 (js_Fo qy_39 qf_11_45) rfl (js_ds (js_ds (js_ds (js_ds (js_ds (js_ds (js_ds (js_ds (js_ds (js_ds hs_x0 (js_desc_nn hs_x0) (fun _ => by decide)) (js_desc_nn hs_x0) (fun _ => by decide)) (js_desc_nn hs_x0) (fun _ => by decide)) (js_desc_nn hs_x0) (fun _ => by decide)) (js_desc_nn hs_x0) (fun _ => by decide)) (js_desc_nn hs_x0) (fun _ => by decide)) (js_desc_nn hs_x0) (fun _ => by decide)) (js_desc_nn hs_x0) (fun _ => by decide)) (js_desc_nn hs_x0) (fun _ => by decide)) (js_desc_nn hs_x0) (fun _ => by decide)) rfl rfl rfl).trans <| (j_aload_n q_39_55 rfl).trans <| (j_iconst q_39_56).trans <| (j_putB0 (ji := 12) q_39_57 (js_Fo qy_39 qf_11_48) rfl (js_ds (js_ds (js_ds (js_ds (js_ds (js_ds (js_ds (js_ds (js_ds (js_ds (js_ds hs_x0 (js_desc_nn hs_x0) (fun _ => by decide)) (js_desc_nn hs_x0) (fun _ => by decide)) (js_desc_nn hs_x0) (fun _ => by decide)) (js_desc_nn hs_x0) (fun _ => by decide)) (js_desc_nn hs_x0) (fun _ => by decide)) (js_desc_nn hs_x0) (fun _ => by decide)) (js_desc_nn hs_x0) (fun _ => by decide)) (js_desc_nn hs_x0) (fun _ => by decide)) (js_desc_nn hs_x0) (fun _ => by decide)) (js_desc_nn hs_x0) (fun _ => by decide)) (js_desc_nn hs_x0) (fun _ => by decide)) rfl rfl rfl).trans <| (j_aload_n q_39_60 rfl).trans <| (j_iconst q_39_61).trans <| (j_putB0 (ji := 13) q_39_62 (js_Fo qy_39 qf_11_52) rfl (js_ds (js_ds (js_ds (js_ds (js_ds (js_ds (js_ds (js_ds (js_ds (js_ds (js_ds (js_ds hs_x0 (js_desc_nn hs_x0) (fun _ => by decide)) (js_desc_nn hs_x0) (fun _ => by decide)) (js_desc_nn hs_x0) (fun _ => by decide)) (js_desc_nn hs_x0) (fun _ => by decide)) (js_desc_nn hs_x0) (fun _ => by decide)) (js_desc_nn hs_x0) (fun _ => by decide)) (js_desc_nn hs_x0) (fun _ => by decide)) (js_desc_nn hs_x0) (fun _ => by decide)) (js_desc_nn hs_x0) (fun _ => by decide)) (js_desc_nn hs_x0) (fun _ => by decide)) (js_desc_nn hs_x0) (fun _ => by decide)) (js_desc_nn hs_x0) (fun _ => by decide)) rfl rfl rfl).trans <| j_return q_39_65 qr_39
-- 40: VitalTwin$Reader.expect (I)V
theorem b_40_0 {E : js_E} {d : Nat} {σ : js_S} {x1 : Int} : js_J E d 40 0 [(2, 1), (0, x1)] [] σ = (if js_w (σ 1 1) = js_w x1 then js_J E d 40 17 [(2, 1), (0, x1)] [] σ else js_J E d 40 14 [(2, 1), (0, x1)] [(0, σ 1 2), (0, 1), (2, 1)] σ) :=
  (j_aload_n q_40_0 rfl).trans <| (j_get (ji := 1) (v := (0, σ 1 1)) q_40_1 (js_Fo qy_40 qf_8_131) js_o1 rfl rfl rfl rfl).trans <| (j_iload_n q_40_4 rfl).trans <| (j_cmpeq (t := 17) q_40_5 rfl).trans (js_ite (rfl) ((j_aload_n q_40_8 rfl).trans <| (j_iconst q_40_9).trans <| (j_aload_n q_40_10 rfl).trans <| (j_get (ji := 2) (v := (0, σ 1 2)) q_40_11 (js_Fo qy_40 qf_8_134) js_o1 rfl rfl rfl rfl).trans <| rfl))
theorem k_40_14 {E : js_E} {d : Nat} {σ σ2 : js_S} {x1 z1 z2 : Int} (hd : 1 ≤ d) (hz : js_J E (d - 1) 36 0 [(2, 1), (0, z1), (0, z2)] [] σ = js_r0 E σ2) : js_J E d 40 14 [(2, 1), (0, x1)] [(0, z2), (0, z1), (2, 1)] σ = js_J E d 40 17 [(2, 1), (0, x1)] [] σ2 :=
  j_call0 (m := 0) (js_caV q_40_14 (js_Mo qy_40 qm_8_144)) (js_agV (av := [(0, z1), (0, z2)]) (st := []) rfl rfl js_o1 rfl) rfl rfl (by rw [ql_36]; exact Nat.le_of_ble_eq_true rfl) (Nat.le_of_ble_eq_true rfl) hd hz
theorem kt_40_14 {E : js_E} {d : Nat} {σ σ2 : js_S} {x1 z1 z2 : Int} {w : Int} (hd : 1 ≤ d) (hz : js_J E (d - 1) 36 0 [(2, 1), (0, z1), (0, z2)] [] σ = js_t E w σ2) : js_J E d 40 14 [(2, 1), (0, x1)] [(0, z2), (0, z1), (2, 1)] σ = js_t E w σ2 :=
  j_callT (m := 0) (js_caV q_40_14 (js_Mo qy_40 qm_8_144)) (js_agV (av := [(0, z1), (0, z2)]) (st := []) rfl rfl js_o1 rfl) rfl rfl (by rw [ql_36]; exact Nat.le_of_ble_eq_true rfl) (Nat.le_of_ble_eq_true rfl) hd rfl hz
theorem b_40_17 {E : js_E} {d : Nat} {σ : js_S} {x1 : Int} : js_J E d 40 17 [(2, 1), (0, x1)] [] σ = js_J E d 40 18 [(2, 1), (0, x1)] [(2, 1)] σ :=
  (j_aload_n q_40_17 rfl).trans <| rfl
theorem k_40_18 {E : js_E} {d : Nat} {σ σ2 : js_S} {x1 : Int} (hd : 1 ≤ d) (hz : js_J E (d - 1) 33 0 [(2, 1), (9, 0)] [] σ = js_r0 E σ2) : js_J E d 40 18 [(2, 1), (0, x1)] [(2, 1)] σ = js_J E d 40 21 [(2, 1), (0, x1)] [] σ2 :=
  j_call0 (m := 1) (js_caV q_40_18 (js_Mo qy_40 qm_8_77)) (js_agV (av := []) (st := []) rfl rfl js_o1 rfl) rfl rfl (by rw [ql_33]; exact Nat.le_of_ble_eq_true rfl) (Nat.le_of_ble_eq_true rfl) hd hz
theorem kt_40_18 {E : js_E} {d : Nat} {σ σ2 : js_S} {x1 : Int} {w : Int} (hd : 1 ≤ d) (hz : js_J E (d - 1) 33 0 [(2, 1), (9, 0)] [] σ = js_t E w σ2) : js_J E d 40 18 [(2, 1), (0, x1)] [(2, 1)] σ = js_t E w σ2 :=
  j_callT (m := 1) (js_caV q_40_18 (js_Mo qy_40 qm_8_77)) (js_agV (av := []) (st := []) rfl rfl js_o1 rfl) rfl rfl (by rw [ql_33]; exact Nat.le_of_ble_eq_true rfl) (Nat.le_of_ble_eq_true rfl) hd rfl hz
theorem b_40_21 {E : js_E} {d : Nat} {σ : js_S} {x1 : Int} : js_J E d 40 21 [(2, 1), (0, x1)] [] σ = js_r0 E σ :=
  j_return q_40_21 qr_40
-- 41: VitalTwin$Constants.read (I)I
theorem b_41_0 {E : js_E} {d : Nat} {σ : js_S} {x1 b : Int} (hb : b = 0 ∨ b = 25) : js_J E d 41 0 [(2, 21 + b), (0, x1), (9, 0), (9, 0), (9, 0)] [] σ = (if js_w (σ 1 1) = 45 then js_J E d 41 28 [(2, 21 + b), (0, x1), (9, 0), (9, 0), (9, 0)] [(0, 1)] (js_up σ (21 + b) 2 (σ 1 2)) else js_J E d 41 28 [(2, 21 + b), (0, x1), (9, 0), (9, 0), (9, 0)] [(0, 0)] (js_up σ (21 + b) 2 (σ 1 2))) :=
  (j_aload_n q_41_0 rfl).trans <| (j_aload_n q_41_1 rfl).trans <| (j_get (ji := 3) (v := (2, 1)) q_41_2 (js_Fo qy_41 qf_2_9) (js_o21b hb) rfl rfl rfl rfl).trans <| (j_get (ji := 2) (v := (0, σ 1 2)) q_41_5 (js_Fo qy_41 qf_2_19) js_o1 rfl rfl rfl rfl).trans <| (j_putI (ji := 2) q_41_8 (js_Fo qy_41 qf_2_25) rfl (js_o21b hb) rfl rfl rfl).trans <| (j_aload_n q_41_11 rfl).trans <| (j_get (ji := 3) (v := (2, 1)) q_41_12 (js_Fo qy_41 qf_2_9) (js_o21b hb) rfl rfl rfl rfl).trans <| (j_get (ji := 1) (v := (0, σ 1 1)) q_41_15 (js_Fo qy_41 qf_2_28) js_o1 rfl rfl rfl (congrArg (Prod.mk 0) ((js_up_ne _ (by omega))))).trans <| (j_bi q_41_18 rfl).trans <| (j_cmpneB (t := 27) q_41_20 rfl ww_45).trans (js_ite ((j_iconst q_41_23).trans <| (j_goto (t := 28) q_41_24 rfl).trans <| rfl) ((j_iconst q_41_27).trans <| rfl))
theorem b_41_28 {E : js_E} {d : Nat} {σ : js_S} {x1 z0 b : Int} (hb : b = 0 ∨ b = 25) : js_J E d 41 28 [(2, 21 + b), (0, x1), (9, 0), (9, 0), (9, 0)] [(0, z0)] σ = (if js_w z0 = 0 then js_J E d 41 40 [(2, 21 + b), (0, x1), (0, z0), (9, 0), (9, 0)] [] σ else js_J E d 41 37 [(2, 21 + b), (0, x1), (0, z0), (9, 0), (9, 0)] [(2, 1)] σ) :=
  (j_istore_n (l2 := [(2, 21 + b), (0, x1), (0, z0), (9, 0), (9, 0)]) q_41_28 rfl (Nat.le_of_ble_eq_true rfl)).trans <| (j_iload_n q_41_29 rfl).trans <| (j_ifeq (t := 40) q_41_30 rfl).trans (js_ite (rfl) ((j_aload_n q_41_33 rfl).trans <| (j_get (ji := 3) (v := (2, 1)) q_41_34 (js_Fo qy_41 qf_2_9) (js_o21b hb) rfl rfl rfl rfl).trans <| rfl))
theorem k_41_37 {E : js_E} {d : Nat} {σ σ2 : js_S} {x1 x2 b : Int} (hd : 1 ≤ d) (hz : js_J E (d - 1) 33 0 [(2, 1), (9, 0)] [] σ = js_r0 E σ2) : js_J E d 41 37 [(2, 21 + b), (0, x1), (0, x2), (9, 0), (9, 0)] [(2, 1)] σ = js_J E d 41 40 [(2, 21 + b), (0, x1), (0, x2), (9, 0), (9, 0)] [] σ2 :=
  j_call0 (m := 1) (js_caV q_41_37 (js_Mo qy_41 qm_2_31)) (js_agV (av := []) (st := []) rfl rfl js_o1 rfl) rfl rfl (by rw [ql_33]; exact Nat.le_of_ble_eq_true rfl) (Nat.le_of_ble_eq_true rfl) hd hz
theorem kt_41_37 {E : js_E} {d : Nat} {σ σ2 : js_S} {x1 x2 b : Int} {w : Int} (hd : 1 ≤ d) (hz : js_J E (d - 1) 33 0 [(2, 1), (9, 0)] [] σ = js_t E w σ2) : js_J E d 41 37 [(2, 21 + b), (0, x1), (0, x2), (9, 0), (9, 0)] [(2, 1)] σ = js_t E w σ2 :=
  j_callT (m := 1) (js_caV q_41_37 (js_Mo qy_41 qm_2_31)) (js_agV (av := []) (st := []) rfl rfl js_o1 rfl) rfl rfl (by rw [ql_33]; exact Nat.le_of_ble_eq_true rfl) (Nat.le_of_ble_eq_true rfl) hd rfl hz
theorem b_41_40 {E : js_E} {d : Nat} {σ : js_S} {x1 x2 b : Int} (hb : b = 0 ∨ b = 25) : js_J E d 41 40 [(2, 21 + b), (0, x1), (0, x2), (9, 0), (9, 0)] [] σ = (if js_w (σ 1 1) = 3 then js_J E d 41 61 [(2, 21 + b), (0, x1), (0, x2), (9, 0), (9, 0)] [(2, 1), (2, 21 + b)] (js_up σ (21 + b) 0 0) else (if js_w (σ 1 1) = 2 then js_J E d 41 89 [(2, 21 + b), (0, x1), (0, x2), (9, 0), (9, 0)] [(2, 1), (2, 7 + b)] σ else (if js_w x2 = 0 then (if js_w (σ 1 1) = 216 then js_J E d 41 207 [(2, 21 + b), (0, x1), (0, x2), (9, 0), (9, 0)] [] σ else (if js_w (σ 1 1) = 217 then js_J E d 41 207 [(2, 21 + b), (0, x1), (0, x2), (9, 0), (9, 0)] [] σ else js_J E d 41 237 [(2, 21 + b), (0, x1), (0, x2), (9, 0), (9, 0)] [] σ)) else js_J E d 41 237 [(2, 21 + b), (0, x1), (0, x2), (9, 0), (9, 0)] [] σ))) :=
  (j_aload_n q_41_40 rfl).trans <| (j_get (ji := 3) (v := (2, 1)) q_41_41 (js_Fo qy_41 qf_2_9) (js_o21b hb) rfl rfl rfl rfl).trans <| (j_get (ji := 1) (v := (0, σ 1 1)) q_41_44 (js_Fo qy_41 qf_2_28) js_o1 rfl rfl rfl rfl).trans <| (j_iconst q_41_47).trans <| (j_cmpneB (t := 70) q_41_48 rfl ww_3).trans (js_ite ((j_aload_n q_41_51 rfl).trans <| (j_iconst q_41_52).trans <| (j_putI (ji := 0) q_41_53 (js_Fo qy_41 qf_2_34) rfl (js_o21b hb) rfl rfl rfl).trans <| (j_aload_n q_41_56 rfl).trans <| (j_aload_n q_41_57 rfl).trans <| (j_get (ji := 3) (v := (2, 1)) q_41_58 (js_Fo qy_41 qf_2_9) (js_o21b hb) rfl rfl rfl rfl).trans <| rfl) ((j_aload_n q_41_70 rfl).trans <| (j_get (ji := 3) (v := (2, 1)) q_41_71 (js_Fo qy_41 qf_2_9) (js_o21b hb) rfl rfl rfl rfl).trans <| (j_get (ji := 1) (v := (0, σ 1 1)) q_41_74 (js_Fo qy_41 qf_2_28) js_o1 rfl rfl rfl rfl).trans <| (j_iconst q_41_77).trans <| (j_cmpneB (t := 177) q_41_78 rfl ww_2).trans (js_ite ((j_aload_n q_41_81 rfl).trans <| (j_get (ji := 4) (v := (2, 7 + b)) q_41_82 (js_Fo qy_41 qf_2_15) (js_o21b hb) rfl rfl rfl rfl).trans <| (j_aload_n q_41_85 rfl).trans <| (j_get (ji := 3) (v := (2, 1)) q_41_86 (js_Fo qy_41 qf_2_9) (js_o21b hb) rfl rfl rfl rfl).trans <| rfl) ((j_iload_n q_41_177 rfl).trans <| (j_ifne (t := 237) q_41_178 rfl).trans (js_ite ((j_aload_n q_41_181 rfl).trans <| (j_get (ji := 3) (v := (2, 1)) q_41_182 (js_Fo qy_41 qf_2_9) (js_o21b hb) rfl rfl rfl rfl).trans <| (j_get (ji := 1) (v := (0, σ 1 1)) q_41_185 (js_Fo qy_41 qf_2_28) js_o1 rfl rfl rfl rfl).trans <| (j_si q_41_188 rfl).trans <| (j_cmpeqB (t := 207) q_41_191 rfl ww_216).trans (js_ite (rfl) ((j_aload_n q_41_194 rfl).trans <| (j_get (ji := 3) (v := (2, 1)) q_41_195 (js_Fo qy_41 qf_2_9) (js_o21b hb) rfl rfl rfl rfl).trans <| (j_get (ji := 1) (v := (0, σ 1 1)) q_41_198 (js_Fo qy_41 qf_2_28) js_o1 rfl rfl rfl rfl).trans <| (j_si q_41_201 rfl).trans <| (j_cmpneB (t := 237) q_41_204 rfl ww_217).trans (js_ite (rfl) (rfl))))) (rfl))))))
theorem k_41_61 {E : js_E} {d : Nat} {σ σ2 : js_S} {x1 x2 b : Int} {v : Int} (hd : 1 ≤ d) (hz : js_J E (d - 1) 42 0 [(2, 1), (9, 0), (9, 0)] [] σ = js_r E (0, v) σ2) : js_J E d 41 61 [(2, 21 + b), (0, x1), (0, x2), (9, 0), (9, 0)] [(2, 1), (2, 21 + b)] σ = js_J E d 41 64 [(2, 21 + b), (0, x1), (0, x2), (9, 0), (9, 0)] [(0, v), (2, 21 + b)] σ2 :=
  j_call (m := 2) (js_caV q_41_61 (js_Mo qy_41 qm_2_37)) (js_agV (av := []) (st := [(2, 21 + b)]) rfl rfl js_o1 rfl) rfl rfl (by rw [ql_42]; exact Nat.le_of_ble_eq_true rfl) (Nat.le_of_ble_eq_true rfl) hd hz
theorem kt_41_61 {E : js_E} {d : Nat} {σ σ2 : js_S} {x1 x2 b : Int} {w : Int} (hd : 1 ≤ d) (hz : js_J E (d - 1) 42 0 [(2, 1), (9, 0), (9, 0)] [] σ = js_t E w σ2) : js_J E d 41 61 [(2, 21 + b), (0, x1), (0, x2), (9, 0), (9, 0)] [(2, 1), (2, 21 + b)] σ = js_t E w σ2 :=
  j_callT (m := 2) (js_caV q_41_61 (js_Mo qy_41 qm_2_37)) (js_agV (av := []) (st := [(2, 21 + b)]) rfl rfl js_o1 rfl) rfl rfl (by rw [ql_42]; exact Nat.le_of_ble_eq_true rfl) (Nat.le_of_ble_eq_true rfl) hd rfl hz
theorem b_41_64 {E : js_E} {d : Nat} {σ : js_S} {x1 x2 z1 b : Int} (hb : b = 0 ∨ b = 25) : js_J E d 41 64 [(2, 21 + b), (0, x1), (0, x2), (9, 0), (9, 0)] [(0, z1), (2, 21 + b)] σ = js_J E d 41 252 [(2, 21 + b), (0, x1), (0, x2), (9, 0), (9, 0)] [] (js_up σ (21 + b) 1 z1) :=
  (j_putI (ji := 1) q_41_64 (js_Fo qy_41 qf_2_41) rfl (js_o21b hb) rfl rfl rfl).trans <| (j_goto (t := 252) q_41_67 rfl).trans <| rfl
theorem k_41_89 {E : js_E} {d : Nat} {σ σ2 : js_S} {x1 x2 b : Int} (hb : b = 0 ∨ b = 25) {v : Int} (hd : 1 ≤ d) (hz : js_J E (d - 1) 37 0 [(2, 7 + b), (2, 1), (9, 0), (9, 0), (9, 0)] [] σ = js_r E (2, v) σ2) : js_J E d 41 89 [(2, 21 + b), (0, x1), (0, x2), (9, 0), (9, 0)] [(2, 1), (2, 7 + b)] σ = js_J E d 41 92 [(2, 21 + b), (0, x1), (0, x2), (9, 0), (9, 0)] [(2, v)] σ2 :=
  j_call (m := 3) (js_caV q_41_89 (js_Mo qy_41 qm_2_44)) (js_agV (av := [(2, 1)]) (st := []) rfl rfl (js_o7b hb) rfl) rfl rfl (by rw [ql_37]; exact Nat.le_of_ble_eq_true rfl) (Nat.le_of_ble_eq_true rfl) hd hz
theorem kt_41_89 {E : js_E} {d : Nat} {σ σ2 : js_S} {x1 x2 b : Int} (hb : b = 0 ∨ b = 25) {w : Int} (hd : 1 ≤ d) (hz : js_J E (d - 1) 37 0 [(2, 7 + b), (2, 1), (9, 0), (9, 0), (9, 0)] [] σ = js_t E w σ2) : js_J E d 41 89 [(2, 21 + b), (0, x1), (0, x2), (9, 0), (9, 0)] [(2, 1), (2, 7 + b)] σ = js_t E w σ2 :=
  j_callT (m := 3) (js_caV q_41_89 (js_Mo qy_41 qm_2_44)) (js_agV (av := [(2, 1)]) (st := []) rfl rfl (js_o7b hb) rfl) rfl rfl (by rw [ql_37]; exact Nat.le_of_ble_eq_true rfl) (Nat.le_of_ble_eq_true rfl) hd rfl hz
theorem b_41_92 {E : js_E} {d : Nat} {σ : js_S} {x1 x2 z0 b : Int} : js_J E d 41 92 [(2, 21 + b), (0, x1), (0, x2), (9, 0), (9, 0)] [(2, z0)] σ = (if z0 < 0 then js_J E d 41 117 [(2, 21 + b), (0, x1), (0, x2), (2, z0), (9, 0)] [] σ else js_J E d 41 97 [(2, 21 + b), (0, x1), (0, x2), (2, z0), (9, 0)] [] σ) :=
  (j_astore_n (l2 := [(2, 21 + b), (0, x1), (0, x2), (2, z0), (9, 0)]) q_41_92 rfl (Nat.le_of_ble_eq_true rfl)).trans <| (j_aload_n q_41_93 rfl).trans <| (j_ifnull (t := 117) q_41_94 rfl).trans (js_ite (rfl) (rfl))
theorem b_41_97 {E : js_E} {d : Nat} {σ : js_S} {x1 x2 x3 b : Int} (hs_x3 : js_desc E.1 σ x3 = some (0, 11, js_sym)) : js_J E d 41 97 [(2, 21 + b), (0, x1), (0, x2), (2, x3), (9, 0)] [] σ = (if js_w (σ x3 1) = 0 then js_J E d 41 113 [(2, 21 + b), (0, x1), (0, x2), (2, x3), (9, 0)] [] σ else (if js_w (σ x3 1) = 9 then js_J E d 41 113 [(2, 21 + b), (0, x1), (0, x2), (2, x3), (9, 0)] [] σ else js_J E d 41 117 [(2, 21 + b), (0, x1), (0, x2), (2, x3), (9, 0)] [] σ)) :=
  (j_aload_n q_41_97 rfl).trans <| (j_get (ji := 1) (v := (0, σ x3 1)) q_41_98 (js_Fo qy_41 qf_2_50) hs_x3 rfl rfl rfl rfl).trans <| (j_ifeq (t := 113) q_41_101 rfl).trans (js_ite (rfl) ((j_aload_n q_41_104 rfl).trans <| (j_get (ji := 1) (v := (0, σ x3 1)) q_41_105 (js_Fo qy_41 qf_2_50) hs_x3 rfl rfl rfl rfl).trans <| (j_bi q_41_108 rfl).trans <| (j_cmpneB (t := 117) q_41_110 rfl ww_9).trans (js_ite (rfl) (rfl))))
theorem b_41_113 {E : js_E} {d : Nat} {σ : js_S} {x1 x2 x3 b : Int} : js_J E d 41 113 [(2, 21 + b), (0, x1), (0, x2), (2, x3), (9, 0)] [] σ = js_J E d 41 118 [(2, 21 + b), (0, x1), (0, x2), (2, x3), (9, 0)] [(0, 1)] σ :=
  (j_iconst q_41_113).trans <| (j_goto (t := 118) q_41_114 rfl).trans <| rfl
theorem b_41_117 {E : js_E} {d : Nat} {σ : js_S} {x1 x2 x3 b : Int} : js_J E d 41 117 [(2, 21 + b), (0, x1), (0, x2), (2, x3), (9, 0)] [] σ = js_J E d 41 118 [(2, 21 + b), (0, x1), (0, x2), (2, x3), (9, 0)] [(0, 0)] σ :=
  (j_iconst q_41_117).trans <| rfl
theorem b_41_118 {E : js_E} {d : Nat} {σ : js_S} {x1 x2 x3 z0 b : Int} (hb : b = 0 ∨ b = 25) : js_J E d 41 118 [(2, 21 + b), (0, x1), (0, x2), (2, x3), (9, 0)] [(0, z0)] σ = (if js_w z0 = 0 then js_J E d 41 137 [(2, 21 + b), (0, x1), (0, x2), (2, x3), (0, z0)] [(0, σ 1 2), (0, 3), (2, 1)] σ else js_J E d 41 140 [(2, 21 + b), (0, x1), (0, x2), (2, x3), (0, z0)] [] σ) :=
  (j_istore (l2 := [(2, 21 + b), (0, x1), (0, x2), (2, x3), (0, z0)]) q_41_118 rfl (Nat.le_of_ble_eq_true rfl)).trans <| (j_iload q_41_120 rfl).trans <| (j_ifne (t := 140) q_41_122 rfl).trans (js_ite ((j_aload_n q_41_125 rfl).trans <| (j_get (ji := 3) (v := (2, 1)) q_41_126 (js_Fo qy_41 qf_2_9) (js_o21b hb) rfl rfl rfl rfl).trans <| (j_iconst q_41_129).trans <| (j_aload_n q_41_130 rfl).trans <| (j_get (ji := 3) (v := (2, 1)) q_41_131 (js_Fo qy_41 qf_2_9) (js_o21b hb) rfl rfl rfl rfl).trans <| (j_get (ji := 2) (v := (0, σ 1 2)) q_41_134 (js_Fo qy_41 qf_2_19) js_o1 rfl rfl rfl rfl).trans <| rfl) (rfl))
theorem k_41_137 {E : js_E} {d : Nat} {σ σ2 : js_S} {x1 x2 x3 x4 z1 z2 b : Int} (hd : 1 ≤ d) (hz : js_J E (d - 1) 36 0 [(2, 1), (0, z1), (0, z2)] [] σ = js_r0 E σ2) : js_J E d 41 137 [(2, 21 + b), (0, x1), (0, x2), (2, x3), (0, x4)] [(0, z2), (0, z1), (2, 1)] σ = js_J E d 41 140 [(2, 21 + b), (0, x1), (0, x2), (2, x3), (0, x4)] [] σ2 :=
  j_call0 (m := 0) (js_caV q_41_137 (js_Mo qy_41 qm_2_55)) (js_agV (av := [(0, z1), (0, z2)]) (st := []) rfl rfl js_o1 rfl) rfl rfl (by rw [ql_36]; exact Nat.le_of_ble_eq_true rfl) (Nat.le_of_ble_eq_true rfl) hd hz
theorem kt_41_137 {E : js_E} {d : Nat} {σ σ2 : js_S} {x1 x2 x3 x4 z1 z2 b : Int} {w : Int} (hd : 1 ≤ d) (hz : js_J E (d - 1) 36 0 [(2, 1), (0, z1), (0, z2)] [] σ = js_t E w σ2) : js_J E d 41 137 [(2, 21 + b), (0, x1), (0, x2), (2, x3), (0, x4)] [(0, z2), (0, z1), (2, 1)] σ = js_t E w σ2 :=
  j_callT (m := 0) (js_caV q_41_137 (js_Mo qy_41 qm_2_55)) (js_agV (av := [(0, z1), (0, z2)]) (st := []) rfl rfl js_o1 rfl) rfl rfl (by rw [ql_36]; exact Nat.le_of_ble_eq_true rfl) (Nat.le_of_ble_eq_true rfl) hd rfl hz
theorem b_41_140 {E : js_E} {d : Nat} {σ : js_S} {x1 x2 x3 x4 b : Int} (hs_x3 : js_desc E.1 σ x3 = some (0, 11, js_sym)) : js_J E d 41 140 [(2, 21 + b), (0, x1), (0, x2), (2, x3), (0, x4)] [] σ = (if js_w x4 = 0 then js_J E d 41 154 [(2, 21 + b), (0, x1), (0, x2), (2, x3), (0, x4)] [(0, 0), (2, 21 + b)] σ else js_J E d 41 154 [(2, 21 + b), (0, x1), (0, x2), (2, x3), (0, x4)] [(0, σ x3 2), (2, 21 + b)] σ) :=
  (j_aload_n q_41_140 rfl).trans <| (j_iload q_41_141 rfl).trans <| (j_ifeq (t := 153) q_41_143 rfl).trans (js_ite ((j_iconst q_41_153).trans <| rfl) ((j_aload_n q_41_146 rfl).trans <| (j_get (ji := 2) (v := (0, σ x3 2)) q_41_147 (js_Fo qy_41 qf_2_59) hs_x3 rfl rfl rfl rfl).trans <| (j_goto (t := 154) q_41_150 rfl).trans <| rfl))
theorem b_41_154 {E : js_E} {d : Nat} {σ : js_S} {x1 x2 x3 x4 z1 b : Int} (hb : b = 0 ∨ b = 25) (hs_x3 : js_desc E.1 σ x3 = some (0, 11, js_sym)) : js_J E d 41 154 [(2, 21 + b), (0, x1), (0, x2), (2, x3), (0, x4)] [(0, z1), (2, 21 + b)] σ = (if js_w x4 = 0 then js_J E d 41 171 [(2, 21 + b), (0, x1), (0, x2), (2, x3), (0, x4)] [(0, 0), (2, 21 + b)] (js_up σ (21 + b) 0 z1) else js_J E d 41 171 [(2, 21 + b), (0, x1), (0, x2), (2, x3), (0, x4)] [(0, σ x3 8), (2, 21 + b)] (js_up σ (21 + b) 0 z1)) :=
  (j_putI (ji := 0) q_41_154 (js_Fo qy_41 qf_2_34) rfl (js_o21b hb) rfl rfl rfl).trans <| (j_aload_n q_41_157 rfl).trans <| (j_iload q_41_158 rfl).trans <| (j_ifeq (t := 170) q_41_160 rfl).trans (js_ite ((j_iconst q_41_170).trans <| rfl) ((j_aload_n q_41_163 rfl).trans <| (j_get (ji := 8) (v := (0, σ x3 8)) q_41_164 (js_Fo qy_41 qf_2_60) (js_ds hs_x3 (by omega) (fun h => by omega)) rfl rfl rfl (congrArg (Prod.mk 0) ((js_up_ne _ (by have := js_sym_ge hs_x3; omega))))).trans <| (j_goto (t := 171) q_41_167 rfl).trans <| rfl))
theorem b_41_171 {E : js_E} {d : Nat} {σ : js_S} {x1 x2 x3 x4 z1 b : Int} (hb : b = 0 ∨ b = 25) : js_J E d 41 171 [(2, 21 + b), (0, x1), (0, x2), (2, x3), (0, x4)] [(0, z1), (2, 21 + b)] σ = js_J E d 41 252 [(2, 21 + b), (0, x1), (0, x2), (2, x3), (0, x4)] [] (js_up σ (21 + b) 1 z1) :=
  (j_putI (ji := 1) q_41_171 (js_Fo qy_41 qf_2_41) rfl (js_o21b hb) rfl rfl rfl).trans <| (j_goto (t := 252) q_41_174 rfl).trans <| rfl
theorem b_41_207 {E : js_E} {d : Nat} {σ : js_S} {x1 x2 b : Int} (hb : b = 0 ∨ b = 25) : js_J E d 41 207 [(2, 21 + b), (0, x1), (0, x2), (9, 0), (9, 0)] [] σ = (if js_w (σ 1 1) = 216 then js_J E d 41 231 [(2, 21 + b), (0, x1), (0, x2), (9, 0), (9, 0)] [(0, 1), (2, 21 + b)] (js_up σ (21 + b) 0 1) else js_J E d 41 231 [(2, 21 + b), (0, x1), (0, x2), (9, 0), (9, 0)] [(0, 0), (2, 21 + b)] (js_up σ (21 + b) 0 1)) :=
  (j_aload_n q_41_207 rfl).trans <| (j_iconst q_41_208).trans <| (j_putI (ji := 0) q_41_209 (js_Fo qy_41 qf_2_34) rfl (js_o21b hb) rfl rfl rfl).trans <| (j_aload_n q_41_212 rfl).trans <| (j_aload_n q_41_213 rfl).trans <| (j_get (ji := 3) (v := (2, 1)) q_41_214 (js_Fo qy_41 qf_2_9) (js_o21b hb) rfl rfl rfl rfl).trans <| (j_get (ji := 1) (v := (0, σ 1 1)) q_41_217 (js_Fo qy_41 qf_2_28) js_o1 rfl rfl rfl (congrArg (Prod.mk 0) ((js_up_ne _ (by omega))))).trans <| (j_si q_41_220 rfl).trans <| (j_cmpneB (t := 230) q_41_223 rfl ww_216).trans (js_ite ((j_iconst q_41_226).trans <| (j_goto (t := 231) q_41_227 rfl).trans <| rfl) ((j_iconst q_41_230).trans <| rfl))
theorem b_41_231 {E : js_E} {d : Nat} {σ : js_S} {x1 x2 z1 b : Int} (hb : b = 0 ∨ b = 25) : js_J E d 41 231 [(2, 21 + b), (0, x1), (0, x2), (9, 0), (9, 0)] [(0, z1), (2, 21 + b)] σ = js_J E d 41 252 [(2, 21 + b), (0, x1), (0, x2), (9, 0), (9, 0)] [] (js_up σ (21 + b) 1 z1) :=
  (j_putI (ji := 1) q_41_231 (js_Fo qy_41 qf_2_41) rfl (js_o21b hb) rfl rfl rfl).trans <| (j_goto (t := 252) q_41_234 rfl).trans <| rfl
theorem b_41_237 {E : js_E} {d : Nat} {σ : js_S} {x1 x2 b : Int} (hb : b = 0 ∨ b = 25) : js_J E d 41 237 [(2, 21 + b), (0, x1), (0, x2), (9, 0), (9, 0)] [] σ = js_J E d 41 249 [(2, 21 + b), (0, x1), (0, x2), (9, 0), (9, 0)] [(0, σ 1 2), (0, 1), (2, 1)] σ :=
  (j_aload_n q_41_237 rfl).trans <| (j_get (ji := 3) (v := (2, 1)) q_41_238 (js_Fo qy_41 qf_2_9) (js_o21b hb) rfl rfl rfl rfl).trans <| (j_iconst q_41_241).trans <| (j_aload_n q_41_242 rfl).trans <| (j_get (ji := 3) (v := (2, 1)) q_41_243 (js_Fo qy_41 qf_2_9) (js_o21b hb) rfl rfl rfl rfl).trans <| (j_get (ji := 2) (v := (0, σ 1 2)) q_41_246 (js_Fo qy_41 qf_2_19) js_o1 rfl rfl rfl rfl).trans <| rfl
theorem k_41_249 {E : js_E} {d : Nat} {σ σ2 : js_S} {x1 x2 z1 z2 b : Int} (hd : 1 ≤ d) (hz : js_J E (d - 1) 36 0 [(2, 1), (0, z1), (0, z2)] [] σ = js_r0 E σ2) : js_J E d 41 249 [(2, 21 + b), (0, x1), (0, x2), (9, 0), (9, 0)] [(0, z2), (0, z1), (2, 1)] σ = js_J E d 41 252 [(2, 21 + b), (0, x1), (0, x2), (9, 0), (9, 0)] [] σ2 :=
  j_call0 (m := 0) (js_caV q_41_249 (js_Mo qy_41 qm_2_55)) (js_agV (av := [(0, z1), (0, z2)]) (st := []) rfl rfl js_o1 rfl) rfl rfl (by rw [ql_36]; exact Nat.le_of_ble_eq_true rfl) (Nat.le_of_ble_eq_true rfl) hd hz
theorem kt_41_249 {E : js_E} {d : Nat} {σ σ2 : js_S} {x1 x2 z1 z2 b : Int} {w : Int} (hd : 1 ≤ d) (hz : js_J E (d - 1) 36 0 [(2, 1), (0, z1), (0, z2)] [] σ = js_t E w σ2) : js_J E d 41 249 [(2, 21 + b), (0, x1), (0, x2), (9, 0), (9, 0)] [(0, z2), (0, z1), (2, 1)] σ = js_t E w σ2 :=
  j_callT (m := 0) (js_caV q_41_249 (js_Mo qy_41 qm_2_55)) (js_agV (av := [(0, z1), (0, z2)]) (st := []) rfl rfl js_o1 rfl) rfl rfl (by rw [ql_36]; exact Nat.le_of_ble_eq_true rfl) (Nat.le_of_ble_eq_true rfl) hd rfl hz
theorem b_41_252 {E : js_E} {d : Nat} {σ : js_S} {x1 x2 b : Int} {ux3 ux4 : js_v} (hb : b = 0 ∨ b = 25) : js_J E d 41 252 [(2, 21 + b), (0, x1), (0, x2), ux3, ux4] [] σ = (if js_w x2 = 0 then js_J E d 41 263 [(2, 21 + b), (0, x1), (0, x2), ux3, ux4] [] σ else (if js_w (σ (21 + b) 0) = 0 then js_J E d 41 263 [(2, 21 + b), (0, x1), (0, x2), ux3, ux4] [] σ else js_J E d 41 276 [(2, 21 + b), (0, x1), (0, x2), ux3, ux4] [] σ)) :=
  (j_iload_n q_41_252 rfl).trans <| (j_ifeq (t := 263) q_41_253 rfl).trans (js_ite (rfl) ((j_aload_n q_41_256 rfl).trans <| (j_get (ji := 0) (v := (0, σ (21 + b) 0)) q_41_257 (js_Fo qy_41 qf_2_34) (js_o21b hb) rfl rfl rfl rfl).trans <| (j_ifne (t := 276) q_41_260 rfl).trans (js_ite (rfl) (rfl))))
theorem b_41_263 {E : js_E} {d : Nat} {σ : js_S} {x1 x2 b : Int} {ux3 ux4 : js_v} (hb : b = 0 ∨ b = 25) : js_J E d 41 263 [(2, 21 + b), (0, x1), (0, x2), ux3, ux4] [] σ = (if js_w x1 = (-1) then js_J E d 41 288 [(2, 21 + b), (0, x1), (0, x2), ux3, ux4] [] σ else (if js_w (σ (21 + b) 0) = js_w x1 then js_J E d 41 288 [(2, 21 + b), (0, x1), (0, x2), ux3, ux4] [] σ else js_J E d 41 276 [(2, 21 + b), (0, x1), (0, x2), ux3, ux4] [] σ)) :=
  (j_iload_n q_41_263 rfl).trans <| (j_iconst q_41_264).trans <| (j_cmpeqB (t := 288) q_41_265 rfl ww_m1).trans (js_ite (rfl) ((j_aload_n q_41_268 rfl).trans <| (j_get (ji := 0) (v := (0, σ (21 + b) 0)) q_41_269 (js_Fo qy_41 qf_2_34) (js_o21b hb) rfl rfl rfl rfl).trans <| (j_iload_n q_41_272 rfl).trans <| (j_cmpeq (t := 288) q_41_273 rfl).trans (js_ite (rfl) (rfl))))
theorem b_41_276 {E : js_E} {d : Nat} {σ : js_S} {x1 x2 b : Int} {ux3 ux4 : js_v} (hb : b = 0 ∨ b = 25) : js_J E d 41 276 [(2, 21 + b), (0, x1), (0, x2), ux3, ux4] [] σ = js_J E d 41 285 [(2, 21 + b), (0, x1), (0, x2), ux3, ux4] [(0, σ (21 + b) 2), (0, 5), (2, 1)] σ :=
  (j_aload_n q_41_276 rfl).trans <| (j_get (ji := 3) (v := (2, 1)) q_41_277 (js_Fo qy_41 qf_2_9) (js_o21b hb) rfl rfl rfl rfl).trans <| (j_iconst q_41_280).trans <| (j_aload_n q_41_281 rfl).trans <| (j_get (ji := 2) (v := (0, σ (21 + b) 2)) q_41_282 (js_Fo qy_41 qf_2_25) (js_o21b hb) rfl rfl rfl rfl).trans <| rfl
theorem k_41_285 {E : js_E} {d : Nat} {σ σ2 : js_S} {x1 x2 z1 z2 b : Int} {ux3 ux4 : js_v} (hd : 1 ≤ d) (hz : js_J E (d - 1) 36 0 [(2, 1), (0, z1), (0, z2)] [] σ = js_r0 E σ2) : js_J E d 41 285 [(2, 21 + b), (0, x1), (0, x2), ux3, ux4] [(0, z2), (0, z1), (2, 1)] σ = js_J E d 41 288 [(2, 21 + b), (0, x1), (0, x2), ux3, ux4] [] σ2 :=
  j_call0 (m := 0) (js_caV q_41_285 (js_Mo qy_41 qm_2_55)) (js_agV (av := [(0, z1), (0, z2)]) (st := []) rfl rfl js_o1 rfl) rfl rfl (by rw [ql_36]; exact Nat.le_of_ble_eq_true rfl) (Nat.le_of_ble_eq_true rfl) hd hz
theorem kt_41_285 {E : js_E} {d : Nat} {σ σ2 : js_S} {x1 x2 z1 z2 b : Int} {ux3 ux4 : js_v} {w : Int} (hd : 1 ≤ d) (hz : js_J E (d - 1) 36 0 [(2, 1), (0, z1), (0, z2)] [] σ = js_t E w σ2) : js_J E d 41 285 [(2, 21 + b), (0, x1), (0, x2), ux3, ux4] [(0, z2), (0, z1), (2, 1)] σ = js_t E w σ2 :=
  j_callT (m := 0) (js_caV q_41_285 (js_Mo qy_41 qm_2_55)) (js_agV (av := [(0, z1), (0, z2)]) (st := []) rfl rfl js_o1 rfl) rfl rfl (by rw [ql_36]; exact Nat.le_of_ble_eq_true rfl) (Nat.le_of_ble_eq_true rfl) hd rfl hz
theorem b_41_288 {E : js_E} {d : Nat} {σ : js_S} {x1 x2 b : Int} {ux3 ux4 : js_v} (hb : b = 0 ∨ b = 25) : js_J E d 41 288 [(2, 21 + b), (0, x1), (0, x2), ux3, ux4] [] σ = (if js_w x2 = 0 then js_J E d 41 305 [(2, 21 + b), (0, x1), (0, x2), ux3, ux4] [(0, σ (21 + b) 1), (2, 21 + b)] σ else js_J E d 41 305 [(2, 21 + b), (0, x1), (0, x2), ux3, ux4] [(0, -(σ (21 + b) 1)), (2, 21 + b)] σ) :=
  (j_aload_n q_41_288 rfl).trans <| (j_iload_n q_41_289 rfl).trans <| (j_ifeq (t := 301) q_41_290 rfl).trans (js_ite ((j_aload_n q_41_301 rfl).trans <| (j_get (ji := 1) (v := (0, σ (21 + b) 1)) q_41_302 (js_Fo qy_41 qf_2_41) (js_o21b hb) rfl rfl rfl rfl).trans <| rfl) ((j_aload_n q_41_293 rfl).trans <| (j_get (ji := 1) (v := (0, σ (21 + b) 1)) q_41_294 (js_Fo qy_41 qf_2_41) (js_o21b hb) rfl rfl rfl rfl).trans <| (j_ineg q_41_297).trans <| (j_goto (t := 305) q_41_298 rfl).trans <| rfl))
theorem b_41_305 {E : js_E} {d : Nat} {σ : js_S} {x1 x2 z1 b : Int} {ux3 ux4 : js_v} (hb : b = 0 ∨ b = 25) : js_J E d 41 305 [(2, 21 + b), (0, x1), (0, x2), ux3, ux4] [(0, z1), (2, 21 + b)] σ = js_J E d 41 312 [(2, 21 + b), (0, x1), (0, x2), ux3, ux4] [(2, 1)] (js_up σ (21 + b) 1 z1) :=
  (j_putI (ji := 1) q_41_305 (js_Fo qy_41 qf_2_41) rfl (js_o21b hb) rfl rfl rfl).trans <| (j_aload_n q_41_308 rfl).trans <| (j_get (ji := 3) (v := (2, 1)) q_41_309 (js_Fo qy_41 qf_2_9) (js_o21b hb) rfl rfl rfl rfl).trans <| rfl
theorem k_41_312 {E : js_E} {d : Nat} {σ σ2 : js_S} {x1 x2 b : Int} {ux3 ux4 : js_v} (hd : 1 ≤ d) (hz : js_J E (d - 1) 33 0 [(2, 1), (9, 0)] [] σ = js_r0 E σ2) : js_J E d 41 312 [(2, 21 + b), (0, x1), (0, x2), ux3, ux4] [(2, 1)] σ = js_J E d 41 315 [(2, 21 + b), (0, x1), (0, x2), ux3, ux4] [] σ2 :=
  j_call0 (m := 1) (js_caV q_41_312 (js_Mo qy_41 qm_2_31)) (js_agV (av := []) (st := []) rfl rfl js_o1 rfl) rfl rfl (by rw [ql_33]; exact Nat.le_of_ble_eq_true rfl) (Nat.le_of_ble_eq_true rfl) hd hz
theorem kt_41_312 {E : js_E} {d : Nat} {σ σ2 : js_S} {x1 x2 b : Int} {ux3 ux4 : js_v} {w : Int} (hd : 1 ≤ d) (hz : js_J E (d - 1) 33 0 [(2, 1), (9, 0)] [] σ = js_t E w σ2) : js_J E d 41 312 [(2, 21 + b), (0, x1), (0, x2), ux3, ux4] [(2, 1)] σ = js_t E w σ2 :=
  j_callT (m := 1) (js_caV q_41_312 (js_Mo qy_41 qm_2_31)) (js_agV (av := []) (st := []) rfl rfl js_o1 rfl) rfl rfl (by rw [ql_33]; exact Nat.le_of_ble_eq_true rfl) (Nat.le_of_ble_eq_true rfl) hd rfl hz
theorem b_41_315 {E : js_E} {d : Nat} {σ : js_S} {x1 x2 b : Int} {ux3 ux4 : js_v} (hb : b = 0 ∨ b = 25) : js_J E d 41 315 [(2, 21 + b), (0, x1), (0, x2), ux3, ux4] [] σ = js_r E (0, σ (21 + b) 1) σ :=
  (j_aload_n q_41_315 rfl).trans <| (j_get (ji := 1) (v := (0, σ (21 + b) 1)) q_41_316 (js_Fo qy_41 qf_2_41) (js_o21b hb) rfl rfl rfl rfl).trans <| j_ireturn q_41_319 qr_41
-- 42: VitalTwin$Reader.number ()I
theorem b_42_0 {E : js_E} {d : Nat} {σ : js_S} : js_J E d 42 0 [(2, 1), (9, 0), (9, 0)] [] σ = js_J E d 42 4 [(2, 1), (0, 0), (0, 0)] [] σ :=
  (j_iconst q_42_0).trans <| (j_istore_n (l2 := [(2, 1), (0, 0), (9, 0)]) q_42_1 rfl (Nat.le_of_ble_eq_true rfl)).trans <| (j_iconst q_42_2).trans <| (j_istore_n (l2 := [(2, 1), (0, 0), (0, 0)]) q_42_3 rfl (Nat.le_of_ble_eq_true rfl)).trans <| rfl
theorem b_42_4 {E : js_E} {d : Nat} {σ : js_S} {x1 x2 : Int} : js_J E d 42 4 [(2, 1), (0, x1), (0, x2)] [] σ = (if js_w x2 < js_w (σ 1 3) then (if js_w x2 < 20 then (if 0 ≤ js_w x2 ∧ js_w x2 < 20 then js_J E d 42 4 [(2, 1), (0, ((10 * x1) + (σ 2 (js_w x2))) - 48), (0, x2 + 1)] [] σ else none) else js_r E (0, x1) σ) else js_r E (0, x1) σ) :=
  (j_iload_n q_42_4 rfl).trans <| (j_aload_n q_42_5 rfl).trans <| (j_get (ji := 3) (v := (0, σ 1 3)) q_42_6 (js_Fo qy_42 qf_8_128) js_o1 rfl rfl rfl rfl).trans <| (j_cmpge (t := 42) q_42_9 rfl).trans (js_ite ((j_iload_n q_42_12 rfl).trans <| (j_aload_n q_42_13 rfl).trans <| (j_get (ji := 4) (v := (2, 2)) q_42_14 (js_Fo qy_42 qf_8_9) js_o1 rfl rfl rfl rfl).trans <| (j_alen q_42_17 js_o2 (by decide) (by decide)).trans <| (j_cmpgeB (t := 42) q_42_18 rfl ww_20).trans (js_ite ((j_bi q_42_21 rfl).trans <| (j_iload_n q_42_23 rfl).trans <| (j_imul q_42_24).trans <| (j_aload_n q_42_25 rfl).trans <| (j_get (ji := 4) (v := (2, 2)) q_42_26 (js_Fo qy_42 qf_8_9) js_o1 rfl rfl rfl rfl).trans <| (j_iload_n q_42_29 rfl).trans <| (j_baload q_42_30 js_o2).trans <| js_itp fun g0 => (j_iadd q_42_31).trans <| (j_bi q_42_32 rfl).trans <| (j_isub q_42_34).trans <| (j_istore_n (l2 := [(2, 1), (0, ((10 * x1) + (σ 2 (js_w x2))) - 48), (0, x2)]) q_42_35 rfl (Nat.le_of_ble_eq_true rfl)).trans <| (j_iinc (l2 := [(2, 1), (0, ((10 * x1) + (σ 2 (js_w x2))) - 48), (0, x2 + 1)]) q_42_36 rfl rfl).trans <| (j_goto (t := 4) q_42_39 rfl).trans <| rfl) ((j_iload_n q_42_42 rfl).trans <| j_ireturn q_42_43 qr_42))) ((j_iload_n q_42_42 rfl).trans <| j_ireturn q_42_43 qr_42))
-- 43: VitalTwin$Symbol.setType (III)V
theorem b_43_0 {E : js_E} {d : Nat} {σ : js_S} {x0 x1 x2 x3 : Int} (hs_x0 : js_desc E.1 σ x0 = some (0, 11, js_sym)) : js_J E d 43 0 [(2, x0), (0, x1), (0, x2), (0, x3)] [] σ = js_r0 E (js_up (js_up (js_up σ x0 2 x1) x0 3 x2) x0 4 x3) :=
  (j_aload_n q_43_0 rfl).trans <| (j_iload_n q_43_1 rfl).trans <| (j_putI (ji := 2) q_43_2 (js_Fo qy_43 qf_11_18) rfl hs_x0 rfl rfl rfl).trans <| (j_aload_n q_43_5 rfl).trans <| (j_iload_n q_43_6 rfl).trans <| (j_putI (ji := 3) q_43_7 (js_Fo qy_43 qf_11_21) rfl (js_ds hs_x0 (js_desc_nn hs_x0) (fun _ => by decide)) rfl rfl rfl).trans <| (j_aload_n q_43_10 rfl).trans <| (j_iload_n q_43_11 rfl).trans <| (j_putI (ji := 4) q_43_12 (js_Fo qy_43 qf_11_24) rfl (js_ds (js_ds hs_x0 (js_desc_nn hs_x0) (fun _ => by decide)) (js_desc_nn hs_x0) (fun _ => by decide)) rfl rfl rfl).trans <| j_return q_43_15 qr_43
-- 44: VitalTwin$Declarations.type ()V
theorem b_44_0 {E : js_E} {d : Nat} {σ : js_S} {b : Int} (hb : b = 0 ∨ b = 25) : js_J E d 44 0 [(2, 6 + b), (9, 0), (9, 0), (9, 0), (9, 0), (9, 0)] [] σ = js_J E d 44 4 [(2, 6 + b), (9, 0), (9, 0), (9, 0), (9, 0), (9, 0)] [(2, 1)] σ :=
  (j_aload_n q_44_0 rfl).trans <| (j_get (ji := 1) (v := (2, 1)) q_44_1 (js_Fo qy_44 qf_4_17) (js_o6b hb) rfl rfl rfl rfl).trans <| rfl
theorem k_44_4 {E : js_E} {d : Nat} {σ σ2 : js_S} {b : Int} (hd : 1 ≤ d) (hz : js_J E (d - 1) 33 0 [(2, 1), (9, 0)] [] σ = js_r0 E σ2) : js_J E d 44 4 [(2, 6 + b), (9, 0), (9, 0), (9, 0), (9, 0), (9, 0)] [(2, 1)] σ = js_J E d 44 7 [(2, 6 + b), (9, 0), (9, 0), (9, 0), (9, 0), (9, 0)] [] σ2 :=
  j_call0 (m := 1) (js_caV q_44_4 (js_Mo qy_44 qm_4_120)) (js_agV (av := []) (st := []) rfl rfl js_o1 rfl) rfl rfl (by rw [ql_33]; exact Nat.le_of_ble_eq_true rfl) (Nat.le_of_ble_eq_true rfl) hd hz
theorem kt_44_4 {E : js_E} {d : Nat} {σ σ2 : js_S} {b : Int} {w : Int} (hd : 1 ≤ d) (hz : js_J E (d - 1) 33 0 [(2, 1), (9, 0)] [] σ = js_t E w σ2) : js_J E d 44 4 [(2, 6 + b), (9, 0), (9, 0), (9, 0), (9, 0), (9, 0)] [(2, 1)] σ = js_t E w σ2 :=
  j_callT (m := 1) (js_caV q_44_4 (js_Mo qy_44 qm_4_120)) (js_agV (av := []) (st := []) rfl rfl js_o1 rfl) rfl rfl (by rw [ql_33]; exact Nat.le_of_ble_eq_true rfl) (Nat.le_of_ble_eq_true rfl) hd rfl hz
theorem b_44_7 {E : js_E} {d : Nat} {σ : js_S} {b : Int} (hb : b = 0 ∨ b = 25) : js_J E d 44 7 [(2, 6 + b), (9, 0), (9, 0), (9, 0), (9, 0), (9, 0)] [] σ = js_J E d 44 18 [(2, 6 + b), (9, 0), (9, 0), (9, 0), (9, 0), (9, 0)] [(2, 1), (0, 0), (0, 8), (2, 7 + b)] σ :=
  (j_aload_n q_44_7 rfl).trans <| (j_get (ji := 0) (v := (2, 7 + b)) q_44_8 (js_Fo qy_44 qf_4_27) (js_o6b hb) rfl rfl rfl rfl).trans <| (j_bi q_44_11 rfl).trans <| (j_iconst q_44_13).trans <| (j_aload_n q_44_14 rfl).trans <| (j_get (ji := 1) (v := (2, 1)) q_44_15 (js_Fo qy_44 qf_4_17) (js_o6b hb) rfl rfl rfl rfl).trans <| rfl
theorem k_44_18 {E : js_E} {d : Nat} {σ σ2 : js_S} {z1 z2 b : Int} (hb : b = 0 ∨ b = 25) {v : Int} (hd : 1 ≤ d) (hz : js_J E (d - 1) 35 0 [(2, 7 + b), (0, z1), (0, z2), (2, 1), (9, 0), (9, 0)] [] σ = js_r E (2, v) σ2) : js_J E d 44 18 [(2, 6 + b), (9, 0), (9, 0), (9, 0), (9, 0), (9, 0)] [(2, 1), (0, z2), (0, z1), (2, 7 + b)] σ = js_J E d 44 21 [(2, 6 + b), (9, 0), (9, 0), (9, 0), (9, 0), (9, 0)] [(2, v)] σ2 :=
  j_call (m := 2) (js_caV q_44_18 (js_Mo qy_44 qm_4_123)) (js_agV (av := [(0, z1), (0, z2), (2, 1)]) (st := []) rfl rfl (js_o7b hb) rfl) rfl rfl (by rw [ql_35]; exact Nat.le_of_ble_eq_true rfl) (Nat.le_of_ble_eq_true rfl) hd hz
theorem kt_44_18 {E : js_E} {d : Nat} {σ σ2 : js_S} {z1 z2 b : Int} (hb : b = 0 ∨ b = 25) {w : Int} (hd : 1 ≤ d) (hz : js_J E (d - 1) 35 0 [(2, 7 + b), (0, z1), (0, z2), (2, 1), (9, 0), (9, 0)] [] σ = js_t E w σ2) : js_J E d 44 18 [(2, 6 + b), (9, 0), (9, 0), (9, 0), (9, 0), (9, 0)] [(2, 1), (0, z2), (0, z1), (2, 7 + b)] σ = js_t E w σ2 :=
  j_callT (m := 2) (js_caV q_44_18 (js_Mo qy_44 qm_4_123)) (js_agV (av := [(0, z1), (0, z2), (2, 1)]) (st := []) rfl rfl (js_o7b hb) rfl) rfl rfl (by rw [ql_35]; exact Nat.le_of_ble_eq_true rfl) (Nat.le_of_ble_eq_true rfl) hd rfl hz
theorem b_44_21 {E : js_E} {d : Nat} {σ : js_S} {z0 b : Int} (hs_z0 : js_desc E.1 σ z0 = some (0, 11, js_sym)) (hb : b = 0 ∨ b = 25) : js_J E d 44 21 [(2, 6 + b), (9, 0), (9, 0), (9, 0), (9, 0), (9, 0)] [(2, z0)] σ = js_J E d 44 45 [(2, 6 + b), (2, z0), (0, 3 + (σ z0 0)), (9, 0), (9, 0), (9, 0)] [(0, 61), (2, 1)] (js_up (js_up σ z0 13 1) z0 6 0) :=
  (j_astore_n (l2 := [(2, 6 + b), (2, z0), (9, 0), (9, 0), (9, 0), (9, 0)]) q_44_21 rfl (Nat.le_of_ble_eq_true rfl)).trans <| (j_aload_n q_44_22 rfl).trans <| (j_iconst q_44_23).trans <| (j_putB1 (ji := 13) q_44_24 (js_Fo qy_44 qf_4_142) rfl hs_z0 rfl rfl rfl).trans <| (j_aload_n q_44_27 rfl).trans <| (j_iconst q_44_28).trans <| (j_putI (ji := 6) q_44_29 (js_Fo qy_44 qf_4_146) rfl (js_ds hs_z0 (js_desc_nn hs_z0) (fun _ => by decide)) rfl rfl rfl).trans <| (j_iconst q_44_32).trans <| (j_aload_n q_44_33 rfl).trans <| (j_get (ji := 0) (v := (0, σ z0 0)) q_44_34 (js_Fo qy_44 qf_4_149) (js_ds (js_ds hs_z0 (js_desc_nn hs_z0) (fun _ => by decide)) (js_desc_nn hs_z0) (fun _ => by decide)) rfl rfl rfl (congrArg (Prod.mk 0) ((js_up_ne _ (by omega)).trans <| (js_up_ne _ (by omega))))).trans <| (j_iadd q_44_37).trans <| (j_istore_n (l2 := [(2, 6 + b), (2, z0), (0, 3 + (σ z0 0)), (9, 0), (9, 0), (9, 0)]) q_44_38 rfl (Nat.le_of_ble_eq_true rfl)).trans <| (j_aload_n q_44_39 rfl).trans <| (j_get (ji := 1) (v := (2, 1)) q_44_40 (js_Fo qy_44 qf_4_17) (js_o6b hb) rfl rfl rfl rfl).trans <| (j_bi q_44_43 rfl).trans <| rfl
theorem k_44_45 {E : js_E} {d : Nat} {σ σ2 : js_S} {x1 x2 z1 b : Int} (hd : 1 ≤ d) (hz : js_J E (d - 1) 40 0 [(2, 1), (0, z1)] [] σ = js_r0 E σ2) : js_J E d 44 45 [(2, 6 + b), (2, x1), (0, x2), (9, 0), (9, 0), (9, 0)] [(0, z1), (2, 1)] σ = js_J E d 44 48 [(2, 6 + b), (2, x1), (0, x2), (9, 0), (9, 0), (9, 0)] [] σ2 :=
  j_call0 (m := 0) (js_caV q_44_45 (js_Mo qy_44 qm_4_80)) (js_agV (av := [(0, z1)]) (st := []) rfl rfl js_o1 rfl) rfl rfl (by rw [ql_40]; exact Nat.le_of_ble_eq_true rfl) (Nat.le_of_ble_eq_true rfl) hd hz
theorem kt_44_45 {E : js_E} {d : Nat} {σ σ2 : js_S} {x1 x2 z1 b : Int} {w : Int} (hd : 1 ≤ d) (hz : js_J E (d - 1) 40 0 [(2, 1), (0, z1)] [] σ = js_t E w σ2) : js_J E d 44 45 [(2, 6 + b), (2, x1), (0, x2), (9, 0), (9, 0), (9, 0)] [(0, z1), (2, 1)] σ = js_t E w σ2 :=
  j_callT (m := 0) (js_caV q_44_45 (js_Mo qy_44 qm_4_80)) (js_agV (av := [(0, z1)]) (st := []) rfl rfl js_o1 rfl) rfl rfl (by rw [ql_40]; exact Nat.le_of_ble_eq_true rfl) (Nat.le_of_ble_eq_true rfl) hd rfl hz
theorem b_44_48 {E : js_E} {d : Nat} {σ : js_S} {x1 x2 b : Int} : js_J E d 44 48 [(2, 6 + b), (2, x1), (0, x2), (9, 0), (9, 0), (9, 0)] [] σ = js_J E d 44 53 [(2, 6 + b), (2, x1), (0, x2), (0, 1), (0, 0), (9, 0)] [] σ :=
  (j_iconst q_44_48).trans <| (j_istore_n (l2 := [(2, 6 + b), (2, x1), (0, x2), (0, 1), (9, 0), (9, 0)]) q_44_49 rfl (Nat.le_of_ble_eq_true rfl)).trans <| (j_iconst q_44_50).trans <| (j_istore (l2 := [(2, 6 + b), (2, x1), (0, x2), (0, 1), (0, 0), (9, 0)]) q_44_51 rfl (Nat.le_of_ble_eq_true rfl)).trans <| rfl
theorem b_44_53 {E : js_E} {d : Nat} {σ : js_S} {x1 x2 x3 x4 b : Int} {ux5 : js_v} (hb : b = 0 ∨ b = 25) (hs_x1 : js_desc E.1 σ x1 = some (0, 11, js_sym)) : js_J E d 44 53 [(2, 6 + b), (2, x1), (0, x2), (0, x3), (0, x4), ux5] [] σ = (if js_w x4 < 1000000 then (if js_w x3 = 0 then js_J E d 44 180 [(2, 6 + b), (2, x1), (0, x2), (0, x3), (0, x4), ux5] [] σ else (if js_w (σ x1 6) < 64 then js_J E d 44 84 [(2, 6 + b), (2, x1), (0, x2), (0, x3), (0, x4), ux5] [(0, 0), (0, 9), (2, 7 + b)] σ else js_J E d 44 84 [(2, 6 + b), (2, x1), (0, x2), (0, x3), (0, x4), ux5] [(0, 1), (0, 9), (2, 7 + b)] σ)) else js_J E d 44 180 [(2, 6 + b), (2, x1), (0, x2), (0, x3), (0, x4), ux5] [] σ) :=
  (j_iload q_44_53 rfl).trans <| (j_ldc (v := (0, 1000000)) q_44_55 (js_Co qy_44 qc_4_53)).trans <| (j_cmpgeB (t := 180) q_44_57 rfl ww_1000000).trans (js_ite ((j_iload_n q_44_60 rfl).trans <| (j_ifeq (t := 180) q_44_61 rfl).trans (js_ite (rfl) ((j_aload_n q_44_64 rfl).trans <| (j_get (ji := 0) (v := (2, 7 + b)) q_44_65 (js_Fo qy_44 qf_4_27) (js_o6b hb) rfl rfl rfl rfl).trans <| (j_bi q_44_68 rfl).trans <| (j_aload_n q_44_70 rfl).trans <| (j_get (ji := 6) (v := (0, σ x1 6)) q_44_71 (js_Fo qy_44 qf_4_146) hs_x1 rfl rfl rfl rfl).trans <| (j_bi q_44_74 rfl).trans <| (j_cmpltB (t := 83) q_44_76 rfl ww_64).trans (js_ite ((j_iconst q_44_83).trans <| rfl) ((j_iconst q_44_79).trans <| (j_goto (t := 84) q_44_80 rfl).trans <| rfl))))) (rfl))
theorem b_44_84 {E : js_E} {d : Nat} {σ : js_S} {x1 x2 x3 x4 z1 z2 b : Int} {ux5 : js_v} (hb : b = 0 ∨ b = 25) : js_J E d 44 84 [(2, 6 + b), (2, x1), (0, x2), (0, x3), (0, x4), ux5] [(0, z2), (0, z1), (2, 7 + b)] σ = js_J E d 44 88 [(2, 6 + b), (2, x1), (0, x2), (0, x3), (0, x4), ux5] [(2, 1), (0, z2), (0, z1), (2, 7 + b)] σ :=
  (j_aload_n q_44_84 rfl).trans <| (j_get (ji := 1) (v := (2, 1)) q_44_85 (js_Fo qy_44 qf_4_17) (js_o6b hb) rfl rfl rfl rfl).trans <| rfl
theorem k_44_88 {E : js_E} {d : Nat} {σ σ2 : js_S} {x1 x2 x3 x4 z1 z2 b : Int} {ux5 : js_v} (hb : b = 0 ∨ b = 25) {v : Int} (hd : 1 ≤ d) (hz : js_J E (d - 1) 35 0 [(2, 7 + b), (0, z1), (0, z2), (2, 1), (9, 0), (9, 0)] [] σ = js_r E (2, v) σ2) : js_J E d 44 88 [(2, 6 + b), (2, x1), (0, x2), (0, x3), (0, x4), ux5] [(2, 1), (0, z2), (0, z1), (2, 7 + b)] σ = js_J E d 44 91 [(2, 6 + b), (2, x1), (0, x2), (0, x3), (0, x4), ux5] [(2, v)] σ2 :=
  j_call (m := 2) (js_caV q_44_88 (js_Mo qy_44 qm_4_123)) (js_agV (av := [(0, z1), (0, z2), (2, 1)]) (st := []) rfl rfl (js_o7b hb) rfl) rfl rfl (by rw [ql_35]; exact Nat.le_of_ble_eq_true rfl) (Nat.le_of_ble_eq_true rfl) hd hz
theorem kt_44_88 {E : js_E} {d : Nat} {σ σ2 : js_S} {x1 x2 x3 x4 z1 z2 b : Int} {ux5 : js_v} (hb : b = 0 ∨ b = 25) {w : Int} (hd : 1 ≤ d) (hz : js_J E (d - 1) 35 0 [(2, 7 + b), (0, z1), (0, z2), (2, 1), (9, 0), (9, 0)] [] σ = js_t E w σ2) : js_J E d 44 88 [(2, 6 + b), (2, x1), (0, x2), (0, x3), (0, x4), ux5] [(2, 1), (0, z2), (0, z1), (2, 7 + b)] σ = js_t E w σ2 :=
  j_callT (m := 2) (js_caV q_44_88 (js_Mo qy_44 qm_4_123)) (js_agV (av := [(0, z1), (0, z2), (2, 1)]) (st := []) rfl rfl (js_o7b hb) rfl) rfl rfl (by rw [ql_35]; exact Nat.le_of_ble_eq_true rfl) (Nat.le_of_ble_eq_true rfl) hd rfl hz
theorem b_44_91 {E : js_E} {d : Nat} {σ : js_S} {x1 x2 x3 x4 z0 b : Int} {ux5 : js_v} (hs_x1 : js_desc E.1 σ x1 = some (0, 11, js_sym)) (hs_z0 : js_desc E.1 σ z0 = some (0, 11, js_sym)) : js_J E d 44 91 [(2, 6 + b), (2, x1), (0, x2), (0, x3), (0, x4), ux5] [(2, z0)] σ = js_J E d 44 115 [(2, 6 + b), (2, x1), (0, x2), (0, x3), (0, x4), (2, z0)] [(0, σ x1 6), (0, σ x1 6), (0, x2), (2, z0)] (js_up σ z0 8 (σ x1 6)) :=
  (j_astore (l2 := [(2, 6 + b), (2, x1), (0, x2), (0, x3), (0, x4), (2, z0)]) q_44_91 rfl (Nat.le_of_ble_eq_true rfl)).trans <| (j_aload q_44_93 rfl).trans <| (j_aload_n q_44_95 rfl).trans <| (j_get (ji := 6) (v := (0, σ x1 6)) q_44_96 (js_Fo qy_44 qf_4_146) hs_x1 rfl rfl rfl rfl).trans <| (j_putI (ji := 8) q_44_99 (js_Fo qy_44 qf_4_131) rfl hs_z0 rfl rfl rfl).trans <| (j_aload q_44_102 rfl).trans <| (j_iload_n q_44_104 rfl).trans <| (j_aload q_44_105 rfl).trans <| (j_get (ji := 8) (v := (0, σ x1 6)) q_44_107 (js_Fo qy_44 qf_4_131) (js_ds hs_z0 (js_desc_nn hs_z0) (fun _ => by decide)) rfl rfl rfl (congrArg (Prod.mk 0) ((js_up_same _ _ _ _)))).trans <| (j_aload q_44_110 rfl).trans <| (j_get (ji := 8) (v := (0, σ x1 6)) q_44_112 (js_Fo qy_44 qf_4_131) (js_ds hs_z0 (js_desc_nn hs_z0) (fun _ => by decide)) rfl rfl rfl (congrArg (Prod.mk 0) ((js_up_same _ _ _ _)))).trans <| rfl
theorem k_44_115 {E : js_E} {d : Nat} {σ σ2 : js_S} {x1 x2 x3 x4 x5 z0 z1 z2 z3 b : Int} (hs_z0 : js_desc E.1 σ z0 = some (0, 11, js_sym)) (hd : 1 ≤ d) (hz : js_J E (d - 1) 43 0 [(2, z0), (0, z1), (0, z2), (0, z3)] [] σ = js_r0 E σ2) : js_J E d 44 115 [(2, 6 + b), (2, x1), (0, x2), (0, x3), (0, x4), (2, x5)] [(0, z3), (0, z2), (0, z1), (2, z0)] σ = js_J E d 44 118 [(2, 6 + b), (2, x1), (0, x2), (0, x3), (0, x4), (2, x5)] [] σ2 :=
  j_call0 (m := 0) (js_caV q_44_115 (js_Mo qy_44 qm_4_138)) (js_agV (av := [(0, z1), (0, z2), (0, z3)]) (st := []) rfl rfl hs_z0 rfl) rfl rfl (by rw [ql_43]; exact Nat.le_of_ble_eq_true rfl) (Nat.le_of_ble_eq_true rfl) hd hz
theorem kt_44_115 {E : js_E} {d : Nat} {σ σ2 : js_S} {x1 x2 x3 x4 x5 z0 z1 z2 z3 b : Int} (hs_z0 : js_desc E.1 σ z0 = some (0, 11, js_sym)) {w : Int} (hd : 1 ≤ d) (hz : js_J E (d - 1) 43 0 [(2, z0), (0, z1), (0, z2), (0, z3)] [] σ = js_t E w σ2) : js_J E d 44 115 [(2, 6 + b), (2, x1), (0, x2), (0, x3), (0, x4), (2, x5)] [(0, z3), (0, z2), (0, z1), (2, z0)] σ = js_t E w σ2 :=
  j_callT (m := 0) (js_caV q_44_115 (js_Mo qy_44 qm_4_138)) (js_agV (av := [(0, z1), (0, z2), (0, z3)]) (st := []) rfl rfl hs_z0 rfl) rfl rfl (by rw [ql_43]; exact Nat.le_of_ble_eq_true rfl) (Nat.le_of_ble_eq_true rfl) hd rfl hz
theorem b_44_118 {E : js_E} {d : Nat} {σ : js_S} {x1 x2 x3 x4 x5 b : Int} (hs_x5 : js_desc E.1 σ x5 = some (0, 11, js_sym)) : js_J E d 44 118 [(2, 6 + b), (2, x1), (0, x2), (0, x3), (0, x4), (2, x5)] [] σ = js_J E d 44 132 [(2, 6 + b), (2, x1), (0, x2), (0, x3), (0, x4), (2, x5)] [(0, σ x5 8), (0, 0), (0, x2), (2, x1)] (js_up σ x5 13 1) :=
  (j_aload q_44_118 rfl).trans <| (j_iconst q_44_120).trans <| (j_putB1 (ji := 13) q_44_121 (js_Fo qy_44 qf_4_142) rfl hs_x5 rfl rfl rfl).trans <| (j_aload_n q_44_124 rfl).trans <| (j_iload_n q_44_125 rfl).trans <| (j_iconst q_44_126).trans <| (j_aload q_44_127 rfl).trans <| (j_get (ji := 8) (v := (0, σ x5 8)) q_44_129 (js_Fo qy_44 qf_4_131) (js_ds hs_x5 (js_desc_nn hs_x5) (fun _ => by decide)) rfl rfl rfl (congrArg (Prod.mk 0) ((js_up_ne _ (by omega))))).trans <| rfl
theorem k_44_132 {E : js_E} {d : Nat} {σ σ2 : js_S} {x1 x2 x3 x4 x5 z0 z1 z2 z3 b : Int} (hs_z0 : js_desc E.1 σ z0 = some (0, 11, js_sym)) (hd : 1 ≤ d) (hz : js_J E (d - 1) 43 0 [(2, z0), (0, z1), (0, z2), (0, z3)] [] σ = js_r0 E σ2) : js_J E d 44 132 [(2, 6 + b), (2, x1), (0, x2), (0, x3), (0, x4), (2, x5)] [(0, z3), (0, z2), (0, z1), (2, z0)] σ = js_J E d 44 135 [(2, 6 + b), (2, x1), (0, x2), (0, x3), (0, x4), (2, x5)] [] σ2 :=
  j_call0 (m := 0) (js_caV q_44_132 (js_Mo qy_44 qm_4_138)) (js_agV (av := [(0, z1), (0, z2), (0, z3)]) (st := []) rfl rfl hs_z0 rfl) rfl rfl (by rw [ql_43]; exact Nat.le_of_ble_eq_true rfl) (Nat.le_of_ble_eq_true rfl) hd hz
theorem kt_44_132 {E : js_E} {d : Nat} {σ σ2 : js_S} {x1 x2 x3 x4 x5 z0 z1 z2 z3 b : Int} (hs_z0 : js_desc E.1 σ z0 = some (0, 11, js_sym)) {w : Int} (hd : 1 ≤ d) (hz : js_J E (d - 1) 43 0 [(2, z0), (0, z1), (0, z2), (0, z3)] [] σ = js_t E w σ2) : js_J E d 44 132 [(2, 6 + b), (2, x1), (0, x2), (0, x3), (0, x4), (2, x5)] [(0, z3), (0, z2), (0, z1), (2, z0)] σ = js_t E w σ2 :=
  j_callT (m := 0) (js_caV q_44_132 (js_Mo qy_44 qm_4_138)) (js_agV (av := [(0, z1), (0, z2), (0, z3)]) (st := []) rfl rfl hs_z0 rfl) rfl rfl (by rw [ql_43]; exact Nat.le_of_ble_eq_true rfl) (Nat.le_of_ble_eq_true rfl) hd rfl hz
theorem b_44_135 {E : js_E} {d : Nat} {σ : js_S} {x1 x2 x3 x4 x5 b : Int} (hs_x1 : js_desc E.1 σ x1 = some (0, 11, js_sym)) (hb : b = 0 ∨ b = 25) : js_J E d 44 135 [(2, 6 + b), (2, x1), (0, x2), (0, x3), (0, x4), (2, x5)] [] σ = (if js_w (σ 1 1) = 44 then js_J E d 44 162 [(2, 6 + b), (2, x1), (0, x2), (0, x3), (0, x4), (2, x5)] [(0, 1)] (js_up σ x1 6 ((σ x1 6) + 1)) else js_J E d 44 162 [(2, 6 + b), (2, x1), (0, x2), (0, x3), (0, x4), (2, x5)] [(0, 0)] (js_up σ x1 6 ((σ x1 6) + 1))) :=
  (j_aload_n q_44_135 rfl).trans <| (j_dupr q_44_136).trans <| (j_get (ji := 6) (v := (0, σ x1 6)) q_44_137 (js_Fo qy_44 qf_4_146) hs_x1 rfl rfl rfl rfl).trans <| (j_iconst q_44_140).trans <| (j_iadd q_44_141).trans <| (j_putI (ji := 6) q_44_142 (js_Fo qy_44 qf_4_146) rfl hs_x1 rfl rfl rfl).trans <| (j_aload_n q_44_145 rfl).trans <| (j_get (ji := 1) (v := (2, 1)) q_44_146 (js_Fo qy_44 qf_4_17) (js_o6b hb) rfl rfl rfl rfl).trans <| (j_get (ji := 1) (v := (0, σ 1 1)) q_44_149 (js_Fo qy_44 qf_4_54) js_o1 rfl rfl rfl (congrArg (Prod.mk 0) ((js_up_ne _ (by have := js_sym_ge hs_x1; omega))))).trans <| (j_bi q_44_152 rfl).trans <| (j_cmpneB (t := 161) q_44_154 rfl ww_44).trans (js_ite ((j_iconst q_44_157).trans <| (j_goto (t := 162) q_44_158 rfl).trans <| rfl) ((j_iconst q_44_161).trans <| rfl))
theorem b_44_162 {E : js_E} {d : Nat} {σ : js_S} {x1 x2 x3 x4 x5 z0 b : Int} (hb : b = 0 ∨ b = 25) : js_J E d 44 162 [(2, 6 + b), (2, x1), (0, x2), (0, x3), (0, x4), (2, x5)] [(0, z0)] σ = (if js_w z0 = 0 then js_J E d 44 174 [(2, 6 + b), (2, x1), (0, x2), (0, z0), (0, x4), (2, x5)] [] σ else js_J E d 44 171 [(2, 6 + b), (2, x1), (0, x2), (0, z0), (0, x4), (2, x5)] [(2, 1)] σ) :=
  (j_istore_n (l2 := [(2, 6 + b), (2, x1), (0, x2), (0, z0), (0, x4), (2, x5)]) q_44_162 rfl (Nat.le_of_ble_eq_true rfl)).trans <| (j_iload_n q_44_163 rfl).trans <| (j_ifeq (t := 174) q_44_164 rfl).trans (js_ite (rfl) ((j_aload_n q_44_167 rfl).trans <| (j_get (ji := 1) (v := (2, 1)) q_44_168 (js_Fo qy_44 qf_4_17) (js_o6b hb) rfl rfl rfl rfl).trans <| rfl))
theorem k_44_171 {E : js_E} {d : Nat} {σ σ2 : js_S} {x1 x2 x3 x4 x5 b : Int} (hd : 1 ≤ d) (hz : js_J E (d - 1) 33 0 [(2, 1), (9, 0)] [] σ = js_r0 E σ2) : js_J E d 44 171 [(2, 6 + b), (2, x1), (0, x2), (0, x3), (0, x4), (2, x5)] [(2, 1)] σ = js_J E d 44 174 [(2, 6 + b), (2, x1), (0, x2), (0, x3), (0, x4), (2, x5)] [] σ2 :=
  j_call0 (m := 1) (js_caV q_44_171 (js_Mo qy_44 qm_4_120)) (js_agV (av := []) (st := []) rfl rfl js_o1 rfl) rfl rfl (by rw [ql_33]; exact Nat.le_of_ble_eq_true rfl) (Nat.le_of_ble_eq_true rfl) hd hz
theorem kt_44_171 {E : js_E} {d : Nat} {σ σ2 : js_S} {x1 x2 x3 x4 x5 b : Int} {w : Int} (hd : 1 ≤ d) (hz : js_J E (d - 1) 33 0 [(2, 1), (9, 0)] [] σ = js_t E w σ2) : js_J E d 44 171 [(2, 6 + b), (2, x1), (0, x2), (0, x3), (0, x4), (2, x5)] [(2, 1)] σ = js_t E w σ2 :=
  j_callT (m := 1) (js_caV q_44_171 (js_Mo qy_44 qm_4_120)) (js_agV (av := []) (st := []) rfl rfl js_o1 rfl) rfl rfl (by rw [ql_33]; exact Nat.le_of_ble_eq_true rfl) (Nat.le_of_ble_eq_true rfl) hd rfl hz
theorem b_44_174 {E : js_E} {d : Nat} {σ : js_S} {x1 x2 x3 x4 x5 b : Int} : js_J E d 44 174 [(2, 6 + b), (2, x1), (0, x2), (0, x3), (0, x4), (2, x5)] [] σ = js_J E d 44 53 [(2, 6 + b), (2, x1), (0, x2), (0, x3), (0, x4 + 1), (2, x5)] [] σ :=
  (j_iinc (l2 := [(2, 6 + b), (2, x1), (0, x2), (0, x3), (0, x4 + 1), (2, x5)]) q_44_174 rfl rfl).trans <| (j_goto (t := 53) q_44_177 rfl).trans <| rfl
theorem b_44_180 {E : js_E} {d : Nat} {σ : js_S} {x1 x2 x3 x4 b : Int} {ux5 : js_v} (hb : b = 0 ∨ b = 25) : js_J E d 44 180 [(2, 6 + b), (2, x1), (0, x2), (0, x3), (0, x4), ux5] [] σ = js_J E d 44 186 [(2, 6 + b), (2, x1), (0, x2), (0, x3), (0, x4), ux5] [(0, 59), (2, 1)] σ :=
  (j_aload_n q_44_180 rfl).trans <| (j_get (ji := 1) (v := (2, 1)) q_44_181 (js_Fo qy_44 qf_4_17) (js_o6b hb) rfl rfl rfl rfl).trans <| (j_bi q_44_184 rfl).trans <| rfl
theorem k_44_186 {E : js_E} {d : Nat} {σ σ2 : js_S} {x1 x2 x3 x4 z1 b : Int} {ux5 : js_v} (hd : 1 ≤ d) (hz : js_J E (d - 1) 40 0 [(2, 1), (0, z1)] [] σ = js_r0 E σ2) : js_J E d 44 186 [(2, 6 + b), (2, x1), (0, x2), (0, x3), (0, x4), ux5] [(0, z1), (2, 1)] σ = js_J E d 44 189 [(2, 6 + b), (2, x1), (0, x2), (0, x3), (0, x4), ux5] [] σ2 :=
  j_call0 (m := 0) (js_caV q_44_186 (js_Mo qy_44 qm_4_80)) (js_agV (av := [(0, z1)]) (st := []) rfl rfl js_o1 rfl) rfl rfl (by rw [ql_40]; exact Nat.le_of_ble_eq_true rfl) (Nat.le_of_ble_eq_true rfl) hd hz
theorem kt_44_186 {E : js_E} {d : Nat} {σ σ2 : js_S} {x1 x2 x3 x4 z1 b : Int} {ux5 : js_v} {w : Int} (hd : 1 ≤ d) (hz : js_J E (d - 1) 40 0 [(2, 1), (0, z1)] [] σ = js_t E w σ2) : js_J E d 44 186 [(2, 6 + b), (2, x1), (0, x2), (0, x3), (0, x4), ux5] [(0, z1), (2, 1)] σ = js_t E w σ2 :=
  j_callT (m := 0) (js_caV q_44_186 (js_Mo qy_44 qm_4_80)) (js_agV (av := [(0, z1)]) (st := []) rfl rfl js_o1 rfl) rfl rfl (by rw [ql_40]; exact Nat.le_of_ble_eq_true rfl) (Nat.le_of_ble_eq_true rfl) hd rfl hz
theorem b_44_189 {E : js_E} {d : Nat} {σ : js_S} {x1 x2 x3 x4 b : Int} {ux5 : js_v} : js_J E d 44 189 [(2, 6 + b), (2, x1), (0, x2), (0, x3), (0, x4), ux5] [] σ = js_r0 E σ :=
  j_return q_44_189 qr_44
-- 45: VitalTwin$Declarations.port (I)V
theorem b_45_0 {E : js_E} {d : Nat} {σ : js_S} {x1 b : Int} (hb : b = 0 ∨ b = 25) : js_J E d 45 0 [(2, 6 + b), (0, x1), (9, 0)] [] σ = js_J E d 45 4 [(2, 6 + b), (0, x1), (9, 0)] [(2, 1)] σ :=
  (j_aload_n q_45_0 rfl).trans <| (j_get (ji := 1) (v := (2, 1)) q_45_1 (js_Fo qy_45 qf_4_17) (js_o6b hb) rfl rfl rfl rfl).trans <| rfl
theorem k_45_4 {E : js_E} {d : Nat} {σ σ2 : js_S} {x1 b : Int} (hd : 1 ≤ d) (hz : js_J E (d - 1) 33 0 [(2, 1), (9, 0)] [] σ = js_r0 E σ2) : js_J E d 45 4 [(2, 6 + b), (0, x1), (9, 0)] [(2, 1)] σ = js_J E d 45 7 [(2, 6 + b), (0, x1), (9, 0)] [] σ2 :=
  j_call0 (m := 1) (js_caV q_45_4 (js_Mo qy_45 qm_4_120)) (js_agV (av := []) (st := []) rfl rfl js_o1 rfl) rfl rfl (by rw [ql_33]; exact Nat.le_of_ble_eq_true rfl) (Nat.le_of_ble_eq_true rfl) hd hz
theorem kt_45_4 {E : js_E} {d : Nat} {σ σ2 : js_S} {x1 b : Int} {w : Int} (hd : 1 ≤ d) (hz : js_J E (d - 1) 33 0 [(2, 1), (9, 0)] [] σ = js_t E w σ2) : js_J E d 45 4 [(2, 6 + b), (0, x1), (9, 0)] [(2, 1)] σ = js_t E w σ2 :=
  j_callT (m := 1) (js_caV q_45_4 (js_Mo qy_45 qm_4_120)) (js_agV (av := []) (st := []) rfl rfl js_o1 rfl) rfl rfl (by rw [ql_33]; exact Nat.le_of_ble_eq_true rfl) (Nat.le_of_ble_eq_true rfl) hd rfl hz
theorem b_45_7 {E : js_E} {d : Nat} {σ : js_S} {x1 b : Int} (hb : b = 0 ∨ b = 25) : js_J E d 45 7 [(2, 6 + b), (0, x1), (9, 0)] [] σ = js_J E d 45 17 [(2, 6 + b), (0, x1), (9, 0)] [(2, 1), (0, 0), (0, x1), (2, 7 + b)] σ :=
  (j_aload_n q_45_7 rfl).trans <| (j_get (ji := 0) (v := (2, 7 + b)) q_45_8 (js_Fo qy_45 qf_4_27) (js_o6b hb) rfl rfl rfl rfl).trans <| (j_iload_n q_45_11 rfl).trans <| (j_iconst q_45_12).trans <| (j_aload_n q_45_13 rfl).trans <| (j_get (ji := 1) (v := (2, 1)) q_45_14 (js_Fo qy_45 qf_4_17) (js_o6b hb) rfl rfl rfl rfl).trans <| rfl
theorem k_45_17 {E : js_E} {d : Nat} {σ σ2 : js_S} {x1 z1 z2 b : Int} (hb : b = 0 ∨ b = 25) {v : Int} (hd : 1 ≤ d) (hz : js_J E (d - 1) 35 0 [(2, 7 + b), (0, z1), (0, z2), (2, 1), (9, 0), (9, 0)] [] σ = js_r E (2, v) σ2) : js_J E d 45 17 [(2, 6 + b), (0, x1), (9, 0)] [(2, 1), (0, z2), (0, z1), (2, 7 + b)] σ = js_J E d 45 20 [(2, 6 + b), (0, x1), (9, 0)] [(2, v)] σ2 :=
  j_call (m := 2) (js_caV q_45_17 (js_Mo qy_45 qm_4_123)) (js_agV (av := [(0, z1), (0, z2), (2, 1)]) (st := []) rfl rfl (js_o7b hb) rfl) rfl rfl (by rw [ql_35]; exact Nat.le_of_ble_eq_true rfl) (Nat.le_of_ble_eq_true rfl) hd hz
theorem kt_45_17 {E : js_E} {d : Nat} {σ σ2 : js_S} {x1 z1 z2 b : Int} (hb : b = 0 ∨ b = 25) {w : Int} (hd : 1 ≤ d) (hz : js_J E (d - 1) 35 0 [(2, 7 + b), (0, z1), (0, z2), (2, 1), (9, 0), (9, 0)] [] σ = js_t E w σ2) : js_J E d 45 17 [(2, 6 + b), (0, x1), (9, 0)] [(2, 1), (0, z2), (0, z1), (2, 7 + b)] σ = js_t E w σ2 :=
  j_callT (m := 2) (js_caV q_45_17 (js_Mo qy_45 qm_4_123)) (js_agV (av := [(0, z1), (0, z2), (2, 1)]) (st := []) rfl rfl (js_o7b hb) rfl) rfl rfl (by rw [ql_35]; exact Nat.le_of_ble_eq_true rfl) (Nat.le_of_ble_eq_true rfl) hd rfl hz
theorem b_45_20 {E : js_E} {d : Nat} {σ : js_S} {x1 z0 b : Int} (hb : b = 0 ∨ b = 25) : js_J E d 45 20 [(2, 6 + b), (0, x1), (9, 0)] [(2, z0)] σ = js_J E d 45 26 [(2, 6 + b), (0, x1), (2, z0)] [(2, z0), (2, 21 + b)] σ :=
  (j_astore_n (l2 := [(2, 6 + b), (0, x1), (2, z0)]) q_45_20 rfl (Nat.le_of_ble_eq_true rfl)).trans <| (j_aload_n q_45_21 rfl).trans <| (j_get (ji := 3) (v := (2, 21 + b)) q_45_22 (js_Fo qy_45 qf_4_31) (js_o6b hb) rfl rfl rfl rfl).trans <| (j_aload_n q_45_25 rfl).trans <| rfl
theorem k_45_26 {E : js_E} {d : Nat} {σ σ2 : js_S} {x1 x2 z1 b : Int} (hb : b = 0 ∨ b = 25) (hd : 1 ≤ d) (hz : js_J E (d - 1) 46 0 [(2, 21 + b), (2, z1)] [] σ = js_r0 E σ2) : js_J E d 45 26 [(2, 6 + b), (0, x1), (2, x2)] [(2, z1), (2, 21 + b)] σ = js_J E d 45 29 [(2, 6 + b), (0, x1), (2, x2)] [] σ2 :=
  j_call0 (m := 0) (js_caV q_45_26 (js_Mo qy_45 qm_4_152)) (js_agV (av := [(2, z1)]) (st := []) rfl rfl (js_o21b hb) rfl) rfl rfl (by rw [ql_46]; exact Nat.le_of_ble_eq_true rfl) (Nat.le_of_ble_eq_true rfl) hd hz
theorem kt_45_26 {E : js_E} {d : Nat} {σ σ2 : js_S} {x1 x2 z1 b : Int} (hb : b = 0 ∨ b = 25) {w : Int} (hd : 1 ≤ d) (hz : js_J E (d - 1) 46 0 [(2, 21 + b), (2, z1)] [] σ = js_t E w σ2) : js_J E d 45 26 [(2, 6 + b), (0, x1), (2, x2)] [(2, z1), (2, 21 + b)] σ = js_t E w σ2 :=
  j_callT (m := 0) (js_caV q_45_26 (js_Mo qy_45 qm_4_152)) (js_agV (av := [(2, z1)]) (st := []) rfl rfl (js_o21b hb) rfl) rfl rfl (by rw [ql_46]; exact Nat.le_of_ble_eq_true rfl) (Nat.le_of_ble_eq_true rfl) hd rfl hz
theorem b_45_29 {E : js_E} {d : Nat} {σ : js_S} {x1 x2 b : Int} (hb : b = 0 ∨ b = 25) : js_J E d 45 29 [(2, 6 + b), (0, x1), (2, x2)] [] σ = js_J E d 45 35 [(2, 6 + b), (0, x1), (2, x2)] [(0, 58), (2, 1)] σ :=
  (j_aload_n q_45_29 rfl).trans <| (j_get (ji := 1) (v := (2, 1)) q_45_30 (js_Fo qy_45 qf_4_17) (js_o6b hb) rfl rfl rfl rfl).trans <| (j_bi q_45_33 rfl).trans <| rfl
theorem k_45_35 {E : js_E} {d : Nat} {σ σ2 : js_S} {x1 x2 z1 b : Int} (hd : 1 ≤ d) (hz : js_J E (d - 1) 40 0 [(2, 1), (0, z1)] [] σ = js_r0 E σ2) : js_J E d 45 35 [(2, 6 + b), (0, x1), (2, x2)] [(0, z1), (2, 1)] σ = js_J E d 45 38 [(2, 6 + b), (0, x1), (2, x2)] [] σ2 :=
  j_call0 (m := 0) (js_caV q_45_35 (js_Mo qy_45 qm_4_80)) (js_agV (av := [(0, z1)]) (st := []) rfl rfl js_o1 rfl) rfl rfl (by rw [ql_40]; exact Nat.le_of_ble_eq_true rfl) (Nat.le_of_ble_eq_true rfl) hd hz
theorem kt_45_35 {E : js_E} {d : Nat} {σ σ2 : js_S} {x1 x2 z1 b : Int} {w : Int} (hd : 1 ≤ d) (hz : js_J E (d - 1) 40 0 [(2, 1), (0, z1)] [] σ = js_t E w σ2) : js_J E d 45 35 [(2, 6 + b), (0, x1), (2, x2)] [(0, z1), (2, 1)] σ = js_t E w σ2 :=
  j_callT (m := 0) (js_caV q_45_35 (js_Mo qy_45 qm_4_80)) (js_agV (av := [(0, z1)]) (st := []) rfl rfl js_o1 rfl) rfl rfl (by rw [ql_40]; exact Nat.le_of_ble_eq_true rfl) (Nat.le_of_ble_eq_true rfl) hd rfl hz
theorem b_45_38 {E : js_E} {d : Nat} {σ : js_S} {x1 x2 b : Int} (hb : b = 0 ∨ b = 25) : js_J E d 45 38 [(2, 6 + b), (0, x1), (2, x2)] [] σ = js_J E d 45 43 [(2, 6 + b), (0, x1), (2, x2)] [(2, x2), (2, 21 + b)] σ :=
  (j_aload_n q_45_38 rfl).trans <| (j_get (ji := 3) (v := (2, 21 + b)) q_45_39 (js_Fo qy_45 qf_4_31) (js_o6b hb) rfl rfl rfl rfl).trans <| (j_aload_n q_45_42 rfl).trans <| rfl
theorem k_45_43 {E : js_E} {d : Nat} {σ σ2 : js_S} {x1 x2 z1 b : Int} (hb : b = 0 ∨ b = 25) (hd : 1 ≤ d) (hz : js_J E (d - 1) 49 0 [(2, 21 + b), (2, z1), (9, 0), (9, 0), (9, 0)] [] σ = js_r0 E σ2) : js_J E d 45 43 [(2, 6 + b), (0, x1), (2, x2)] [(2, z1), (2, 21 + b)] σ = js_J E d 45 46 [(2, 6 + b), (0, x1), (2, x2)] [] σ2 :=
  j_call0 (m := 3) (js_caV q_45_43 (js_Mo qy_45 qm_4_156)) (js_agV (av := [(2, z1)]) (st := []) rfl rfl (js_o21b hb) rfl) rfl rfl (by rw [ql_49]; exact Nat.le_of_ble_eq_true rfl) (Nat.le_of_ble_eq_true rfl) hd hz
theorem kt_45_43 {E : js_E} {d : Nat} {σ σ2 : js_S} {x1 x2 z1 b : Int} (hb : b = 0 ∨ b = 25) {w : Int} (hd : 1 ≤ d) (hz : js_J E (d - 1) 49 0 [(2, 21 + b), (2, z1), (9, 0), (9, 0), (9, 0)] [] σ = js_t E w σ2) : js_J E d 45 43 [(2, 6 + b), (0, x1), (2, x2)] [(2, z1), (2, 21 + b)] σ = js_t E w σ2 :=
  j_callT (m := 3) (js_caV q_45_43 (js_Mo qy_45 qm_4_156)) (js_agV (av := [(2, z1)]) (st := []) rfl rfl (js_o21b hb) rfl) rfl rfl (by rw [ql_49]; exact Nat.le_of_ble_eq_true rfl) (Nat.le_of_ble_eq_true rfl) hd rfl hz
theorem b_45_46 {E : js_E} {d : Nat} {σ : js_S} {x1 x2 b : Int} (hb : b = 0 ∨ b = 25) (hs_x2 : js_desc E.1 σ x2 = some (0, 11, js_sym)) : js_J E d 45 46 [(2, 6 + b), (0, x1), (2, x2)] [] σ = (if js_w x1 = 1 then js_J E d 45 118 [(2, 6 + b), (0, x1), (2, x2)] [] (js_up (js_up (js_up σ x2 5 (σ (7 + b) 2)) (7 + b) 2 ((σ (7 + b) 2) + (σ x2 6))) (7 + b) 5 ((σ (7 + b) 5) + (σ x2 6))) else js_J E d 45 103 [(2, 6 + b), (0, x1), (2, x2)] [(0, 61), (2, 1)] (js_up (js_up σ x2 5 (σ (7 + b) 2)) (7 + b) 2 ((σ (7 + b) 2) + (σ x2 6)))) :=
  (j_aload_n q_45_46 rfl).trans <| (j_aload_n q_45_47 rfl).trans <| (j_get (ji := 0) (v := (2, 7 + b)) q_45_48 (js_Fo qy_45 qf_4_27) (js_o6b hb) rfl rfl rfl rfl).trans <| (j_get (ji := 2) (v := (0, σ (7 + b) 2)) q_45_51 (js_Fo qy_45 qf_4_116) (js_o7b hb) rfl rfl rfl rfl).trans <| (j_putI (ji := 5) q_45_54 (js_Fo qy_45 qf_4_159) rfl hs_x2 rfl rfl rfl).trans <| (j_aload_n q_45_57 rfl).trans <| (j_get (ji := 0) (v := (2, 7 + b)) q_45_58 (js_Fo qy_45 qf_4_27) (js_o6b hb) rfl rfl rfl rfl).trans <| (j_dupr q_45_61).trans <| (j_get (ji := 2) (v := (0, σ (7 + b) 2)) q_45_62 (js_Fo qy_45 qf_4_116) (js_o7b hb) rfl rfl rfl (congrArg (Prod.mk 0) ((js_up_ne _ (by have := js_sym_ge hs_x2; omega))))).trans <| (j_aload_n q_45_65 rfl).trans <| (j_get (ji := 6) (v := (0, σ x2 6)) q_45_66 (js_Fo qy_45 qf_4_146) (js_ds hs_x2 (js_desc_nn hs_x2) (fun _ => by decide)) rfl rfl rfl (congrArg (Prod.mk 0) ((js_up_ne _ (by omega))))).trans <| (j_iadd q_45_69).trans <| (j_putI (ji := 2) q_45_70 (js_Fo qy_45 qf_4_116) rfl (js_o7b hb) rfl rfl rfl).trans <| (j_iload_n q_45_73 rfl).trans <| (j_iconst q_45_74).trans <| (j_cmpneB (t := 97) q_45_75 rfl ww_1).trans (js_ite ((j_aload_n q_45_78 rfl).trans <| (j_get (ji := 0) (v := (2, 7 + b)) q_45_79 (js_Fo qy_45 qf_4_27) (js_o6b hb) rfl rfl rfl rfl).trans <| (j_dupr q_45_82).trans <| (j_get (ji := 5) (v := (0, σ (7 + b) 5)) q_45_83 (js_Fo qy_45 qf_4_162) (js_o7b hb) rfl rfl rfl (congrArg (Prod.mk 0) ((js_up_ne _ (by omega)).trans <| (js_up_ne _ (by have := js_sym_ge hs_x2; omega))))).trans <| (j_aload_n q_45_86 rfl).trans <| (j_get (ji := 6) (v := (0, σ x2 6)) q_45_87 (js_Fo qy_45 qf_4_146) (js_ds (js_ds hs_x2 (js_desc_nn hs_x2) (fun _ => by decide)) (by omega) (fun h => by omega)) rfl rfl rfl (congrArg (Prod.mk 0) ((js_up_ne _ (by have := js_sym_ge hs_x2; omega)).trans <| (js_up_ne _ (by omega))))).trans <| (j_iadd q_45_90).trans <| (j_putI (ji := 5) q_45_91 (js_Fo qy_45 qf_4_162) rfl (js_o7b hb) rfl rfl rfl).trans <| (j_goto (t := 118) q_45_94 rfl).trans <| rfl) ((j_aload_n q_45_97 rfl).trans <| (j_get (ji := 1) (v := (2, 1)) q_45_98 (js_Fo qy_45 qf_4_17) (js_o6b hb) rfl rfl rfl rfl).trans <| (j_bi q_45_101 rfl).trans <| rfl))
theorem k_45_103 {E : js_E} {d : Nat} {σ σ2 : js_S} {x1 x2 z1 b : Int} (hd : 1 ≤ d) (hz : js_J E (d - 1) 40 0 [(2, 1), (0, z1)] [] σ = js_r0 E σ2) : js_J E d 45 103 [(2, 6 + b), (0, x1), (2, x2)] [(0, z1), (2, 1)] σ = js_J E d 45 106 [(2, 6 + b), (0, x1), (2, x2)] [] σ2 :=
  j_call0 (m := 0) (js_caV q_45_103 (js_Mo qy_45 qm_4_80)) (js_agV (av := [(0, z1)]) (st := []) rfl rfl js_o1 rfl) rfl rfl (by rw [ql_40]; exact Nat.le_of_ble_eq_true rfl) (Nat.le_of_ble_eq_true rfl) hd hz
theorem kt_45_103 {E : js_E} {d : Nat} {σ σ2 : js_S} {x1 x2 z1 b : Int} {w : Int} (hd : 1 ≤ d) (hz : js_J E (d - 1) 40 0 [(2, 1), (0, z1)] [] σ = js_t E w σ2) : js_J E d 45 103 [(2, 6 + b), (0, x1), (2, x2)] [(0, z1), (2, 1)] σ = js_t E w σ2 :=
  j_callT (m := 0) (js_caV q_45_103 (js_Mo qy_45 qm_4_80)) (js_agV (av := [(0, z1)]) (st := []) rfl rfl js_o1 rfl) rfl rfl (by rw [ql_40]; exact Nat.le_of_ble_eq_true rfl) (Nat.le_of_ble_eq_true rfl) hd rfl hz
theorem b_45_106 {E : js_E} {d : Nat} {σ : js_S} {x1 x2 b : Int} (hb : b = 0 ∨ b = 25) : js_J E d 45 106 [(2, 6 + b), (0, x1), (2, x2)] [] σ = js_J E d 45 112 [(2, 6 + b), (0, x1), (2, x2)] [(2, x2), (2, 21 + b), (2, x2)] σ :=
  (j_aload_n q_45_106 rfl).trans <| (j_aload_n q_45_107 rfl).trans <| (j_get (ji := 3) (v := (2, 21 + b)) q_45_108 (js_Fo qy_45 qf_4_31) (js_o6b hb) rfl rfl rfl rfl).trans <| (j_aload_n q_45_111 rfl).trans <| rfl
theorem k_45_112 {E : js_E} {d : Nat} {σ σ2 : js_S} {x1 x2 z0 z2 b : Int} (hb : b = 0 ∨ b = 25) {v : Int} (hd : 1 ≤ d) (hz : js_J E (d - 1) 51 0 [(2, 21 + b), (2, z2)] [] σ = js_r E (0, v) σ2) : js_J E d 45 112 [(2, 6 + b), (0, x1), (2, x2)] [(2, z2), (2, 21 + b), (2, z0)] σ = js_J E d 45 115 [(2, 6 + b), (0, x1), (2, x2)] [(0, v), (2, z0)] σ2 :=
  j_call (m := 0) (js_caV q_45_112 (js_Mo qy_45 qm_4_165)) (js_agV (av := [(2, z2)]) (st := [(2, z0)]) rfl rfl (js_o21b hb) rfl) rfl rfl (by rw [ql_51]; exact Nat.le_of_ble_eq_true rfl) (Nat.le_of_ble_eq_true rfl) hd hz
theorem kt_45_112 {E : js_E} {d : Nat} {σ σ2 : js_S} {x1 x2 z0 z2 b : Int} (hb : b = 0 ∨ b = 25) {w : Int} (hd : 1 ≤ d) (hz : js_J E (d - 1) 51 0 [(2, 21 + b), (2, z2)] [] σ = js_t E w σ2) : js_J E d 45 112 [(2, 6 + b), (0, x1), (2, x2)] [(2, z2), (2, 21 + b), (2, z0)] σ = js_t E w σ2 :=
  j_callT (m := 0) (js_caV q_45_112 (js_Mo qy_45 qm_4_165)) (js_agV (av := [(2, z2)]) (st := [(2, z0)]) rfl rfl (js_o21b hb) rfl) rfl rfl (by rw [ql_51]; exact Nat.le_of_ble_eq_true rfl) (Nat.le_of_ble_eq_true rfl) hd rfl hz
theorem b_45_115 {E : js_E} {d : Nat} {σ : js_S} {x1 x2 z0 z1 b : Int} (hs_z0 : js_desc E.1 σ z0 = some (0, 11, js_sym)) : js_J E d 45 115 [(2, 6 + b), (0, x1), (2, x2)] [(0, z1), (2, z0)] σ = js_J E d 45 118 [(2, 6 + b), (0, x1), (2, x2)] [] (js_up σ z0 8 z1) :=
  (j_putI (ji := 8) q_45_115 (js_Fo qy_45 qf_4_131) rfl hs_z0 rfl rfl rfl).trans <| rfl
theorem b_45_118 {E : js_E} {d : Nat} {σ : js_S} {x1 x2 b : Int} (hb : b = 0 ∨ b = 25) (hs_x2 : js_desc E.1 σ x2 = some (0, 11, js_sym)) : js_J E d 45 118 [(2, 6 + b), (0, x1), (2, x2)] [] σ = (if js_w x1 = 2 then js_J E d 45 139 [(2, 6 + b), (0, x1), (2, x2)] [] (js_up σ (7 + b) 6 ((σ (7 + b) 6) + (σ x2 6))) else js_J E d 45 139 [(2, 6 + b), (0, x1), (2, x2)] [] σ) :=
  (j_iload_n q_45_118 rfl).trans <| (j_iconst q_45_119).trans <| (j_cmpneB (t := 139) q_45_120 rfl ww_2).trans (js_ite ((j_aload_n q_45_123 rfl).trans <| (j_get (ji := 0) (v := (2, 7 + b)) q_45_124 (js_Fo qy_45 qf_4_27) (js_o6b hb) rfl rfl rfl rfl).trans <| (j_dupr q_45_127).trans <| (j_get (ji := 6) (v := (0, σ (7 + b) 6)) q_45_128 (js_Fo qy_45 qf_4_169) (js_o7b hb) rfl rfl rfl rfl).trans <| (j_aload_n q_45_131 rfl).trans <| (j_get (ji := 6) (v := (0, σ x2 6)) q_45_132 (js_Fo qy_45 qf_4_146) hs_x2 rfl rfl rfl rfl).trans <| (j_iadd q_45_135).trans <| (j_putI (ji := 6) q_45_136 (js_Fo qy_45 qf_4_169) rfl (js_o7b hb) rfl rfl rfl).trans <| rfl) (rfl))
theorem b_45_139 {E : js_E} {d : Nat} {σ : js_S} {x1 x2 b : Int} (hb : b = 0 ∨ b = 25) : js_J E d 45 139 [(2, 6 + b), (0, x1), (2, x2)] [] σ = js_J E d 45 145 [(2, 6 + b), (0, x1), (2, x2)] [(0, 59), (2, 1)] σ :=
  (j_aload_n q_45_139 rfl).trans <| (j_get (ji := 1) (v := (2, 1)) q_45_140 (js_Fo qy_45 qf_4_17) (js_o6b hb) rfl rfl rfl rfl).trans <| (j_bi q_45_143 rfl).trans <| rfl
theorem k_45_145 {E : js_E} {d : Nat} {σ σ2 : js_S} {x1 x2 z1 b : Int} (hd : 1 ≤ d) (hz : js_J E (d - 1) 40 0 [(2, 1), (0, z1)] [] σ = js_r0 E σ2) : js_J E d 45 145 [(2, 6 + b), (0, x1), (2, x2)] [(0, z1), (2, 1)] σ = js_J E d 45 148 [(2, 6 + b), (0, x1), (2, x2)] [] σ2 :=
  j_call0 (m := 0) (js_caV q_45_145 (js_Mo qy_45 qm_4_80)) (js_agV (av := [(0, z1)]) (st := []) rfl rfl js_o1 rfl) rfl rfl (by rw [ql_40]; exact Nat.le_of_ble_eq_true rfl) (Nat.le_of_ble_eq_true rfl) hd hz
theorem kt_45_145 {E : js_E} {d : Nat} {σ σ2 : js_S} {x1 x2 z1 b : Int} {w : Int} (hd : 1 ≤ d) (hz : js_J E (d - 1) 40 0 [(2, 1), (0, z1)] [] σ = js_t E w σ2) : js_J E d 45 145 [(2, 6 + b), (0, x1), (2, x2)] [(0, z1), (2, 1)] σ = js_t E w σ2 :=
  j_callT (m := 0) (js_caV q_45_145 (js_Mo qy_45 qm_4_80)) (js_agV (av := [(0, z1)]) (st := []) rfl rfl js_o1 rfl) rfl rfl (by rw [ql_40]; exact Nat.le_of_ble_eq_true rfl) (Nat.le_of_ble_eq_true rfl) hd rfl hz
theorem b_45_148 {E : js_E} {d : Nat} {σ : js_S} {x1 x2 b : Int} (hs_x2 : js_desc E.1 σ x2 = some (0, 11, js_sym)) : js_J E d 45 148 [(2, 6 + b), (0, x1), (2, x2)] [] σ = js_r0 E (js_up σ x2 13 1) :=
  (j_aload_n q_45_148 rfl).trans <| (j_iconst q_45_149).trans <| (j_putB1 (ji := 13) q_45_150 (js_Fo qy_45 qf_4_142) rfl hs_x2 rfl rfl rfl).trans <| j_return q_45_153 qr_45
