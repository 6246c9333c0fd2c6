/-! part 75.c02: block equations of the class's (and the law's helpers') methods 46 to 60 (printed by wip/whole/tools/gen71.py) -/
theorem qy_47 : vt_O 47 = 8 := by decide +kernel
theorem qr_47 : vt_rc.getD 47 0 = 0 := by decide +kernel
theorem ql_47 : vt_ml.getD 47 0 = 2 := by decide +kernel
theorem qy_48 : vt_O 48 = 8 := by decide +kernel
theorem qr_48 : vt_rc.getD 48 0 = 0 := by decide +kernel
theorem ql_48 : vt_ml.getD 48 0 = 2 := by decide +kernel
theorem qy_50 : vt_O 50 = 2 := by decide +kernel
theorem qr_50 : vt_rc.getD 50 0 = 0 := by decide +kernel
theorem ql_50 : vt_ml.getD 50 0 = 2 := by decide +kernel
theorem qy_53 : vt_O 53 = 4 := by decide +kernel
theorem qr_53 : vt_rc.getD 53 0 = 0 := by decide +kernel
theorem ql_53 : vt_ml.getD 53 0 = 3 := by decide +kernel
theorem qy_55 : vt_O 55 = 10 := by decide +kernel
theorem qr_55 : vt_rc.getD 55 0 = 0 := by decide +kernel
theorem ql_55 : vt_ml.getD 55 0 = 4 := by decide +kernel
theorem qy_95 : vt_O 95 = 1 := by decide +kernel
theorem qr_95 : vt_rc.getD 95 0 = 1 := by decide +kernel
theorem ql_95 : vt_ml.getD 95 0 = 3 := by decide +kernel
theorem qy_111 : vt_O 111 = 1 := by decide +kernel
theorem qr_111 : vt_rc.getD 111 0 = 0 := by decide +kernel
theorem ql_111 : vt_ml.getD 111 0 = 1 := by decide +kernel
theorem qy_54 : vt_O 54 = 10 := by decide +kernel
theorem qr_54 : vt_rc.getD 54 0 = 0 := by decide +kernel
theorem ql_54 : vt_ml.getD 54 0 = 2 := by decide +kernel
theorem qy_56 : vt_O 56 = 10 := by decide +kernel
theorem qr_56 : vt_rc.getD 56 0 = 0 := by decide +kernel
theorem ql_56 : vt_ml.getD 56 0 = 3 := by decide +kernel
theorem qy_61 : vt_O 61 = 5 := by decide +kernel
theorem qr_61 : vt_rc.getD 61 0 = 0 := by decide +kernel
theorem ql_61 : vt_ml.getD 61 0 = 7 := by decide +kernel
theorem qy_68 : vt_O 68 = 5 := by decide +kernel
theorem qr_68 : vt_rc.getD 68 0 = 0 := by decide +kernel
theorem ql_68 : vt_ml.getD 68 0 = 4 := by decide +kernel
theorem qy_110 : vt_O 110 = 7 := by decide +kernel
theorem qr_110 : vt_rc.getD 110 0 = 0 := by decide +kernel
theorem ql_110 : vt_ml.getD 110 0 = 4 := by decide +kernel
theorem qy_57 : vt_O 57 = 10 := by decide +kernel
theorem qr_57 : vt_rc.getD 57 0 = 0 := by decide +kernel
theorem ql_57 : vt_ml.getD 57 0 = 3 := by decide +kernel
theorem qy_98 : vt_O 98 = 10 := by decide +kernel
theorem qr_98 : vt_rc.getD 98 0 = 0 := by decide +kernel
theorem ql_98 : vt_ml.getD 98 0 = 1 := by decide +kernel
theorem qy_99 : vt_O 99 = 10 := by decide +kernel
theorem qr_99 : vt_rc.getD 99 0 = 0 := by decide +kernel
theorem ql_99 : vt_ml.getD 99 0 = 8 := by decide +kernel
theorem qy_104 : vt_O 104 = 10 := by decide +kernel
theorem qr_104 : vt_rc.getD 104 0 = 0 := by decide +kernel
theorem ql_104 : vt_ml.getD 104 0 = 8 := by decide +kernel
theorem qy_105 : vt_O 105 = 10 := by decide +kernel
theorem qr_105 : vt_rc.getD 105 0 = 0 := by decide +kernel
theorem ql_105 : vt_ml.getD 105 0 = 10 := by decide +kernel
theorem qy_106 : vt_O 106 = 10 := by decide +kernel
theorem qr_106 : vt_rc.getD 106 0 = 4 := by decide +kernel
theorem ql_106 : vt_ml.getD 106 0 = 3 := by decide +kernel
theorem qy_66 : vt_O 66 = 5 := by decide +kernel
theorem qr_66 : vt_rc.getD 66 0 = 0 := by decide +kernel
theorem ql_66 : vt_ml.getD 66 0 = 9 := by decide +kernel
theorem qy_108 : vt_O 108 = 10 := by decide +kernel
theorem qr_108 : vt_rc.getD 108 0 = 0 := by decide +kernel
theorem ql_108 : vt_ml.getD 108 0 = 3 := by decide +kernel
theorem qy_58 : vt_O 58 = 7 := by decide +kernel
theorem qr_58 : vt_rc.getD 58 0 = 1 := by decide +kernel
theorem ql_58 : vt_ml.getD 58 0 = 4 := by decide +kernel
theorem qy_59 : vt_O 59 = 1 := by decide +kernel
theorem qr_59 : vt_rc.getD 59 0 = 0 := by decide +kernel
theorem ql_59 : vt_ml.getD 59 0 = 5 := by decide +kernel
theorem qy_97 : vt_O 97 = 1 := by decide +kernel
theorem qr_97 : vt_rc.getD 97 0 = 0 := by decide +kernel
theorem ql_97 : vt_ml.getD 97 0 = 3 := by decide +kernel
theorem qy_60 : vt_O 60 = 1 := by decide +kernel
theorem qr_60 : vt_rc.getD 60 0 = 0 := by decide +kernel
theorem ql_60 : vt_ml.getD 60 0 = 8 := by decide +kernel
theorem q_46_0 : js_I 46 0 = some (.aload_n 0, 1) := by decide +kernel
theorem q_46_1 : js_I 46 1 = some (.getfield 9, 3) := by decide +kernel
theorem q_46_4 : js_I 46 4 = some (.getfield 28, 3) := by decide +kernel
theorem q_46_7 : js_I 46 7 = some (.bipush 91, 2) := by decide +kernel
theorem q_46_9 : js_I 46 9 = some (.if_icmp .eq 4, 3) := by decide +kernel
theorem q_46_13 : js_I 46 13 = some (.aload_n 0, 1) := by decide +kernel
theorem q_46_14 : js_I 46 14 = some (.getfield 9, 3) := by decide +kernel
theorem q_46_17 : js_I 46 17 = some (.bipush 91, 2) := by decide +kernel
theorem q_46_19 : js_I 46 19 = some (.invokevirtual 71, 3) := by decide +kernel
theorem q_46_12 : js_I 46 12 = some (.return_, 1) := by decide +kernel
theorem q_46_22 : js_I 46 22 = some (.aload_n 1, 1) := by decide +kernel
theorem q_46_23 : js_I 46 23 = some (.iconst 1, 1) := by decide +kernel
theorem q_46_24 : js_I 46 24 = some (.putfield 75, 3) := by decide +kernel
theorem q_46_27 : js_I 46 27 = some (.aload_n 1, 1) := by decide +kernel
theorem q_46_28 : js_I 46 28 = some (.aload_n 0, 1) := by decide +kernel
theorem q_46_29 : js_I 46 29 = some (.iconst 0, 1) := by decide +kernel
theorem q_46_30 : js_I 46 30 = some (.invokevirtual 61, 3) := by decide +kernel
theorem q_46_33 : js_I 46 33 = some (.putfield 79, 3) := by decide +kernel
theorem q_46_36 : js_I 46 36 = some (.aload_n 1, 1) := by decide +kernel
theorem q_46_37 : js_I 46 37 = some (.getfield 79, 3) := by decide +kernel
theorem q_46_40 : js_I 46 40 = some (.iconst 1, 1) := by decide +kernel
theorem q_46_41 : js_I 46 41 = some (.if_icmp .lt 13, 3) := by decide +kernel
theorem q_46_44 : js_I 46 44 = some (.aload_n 1, 1) := by decide +kernel
theorem q_46_45 : js_I 46 45 = some (.getfield 79, 3) := by decide +kernel
theorem q_46_48 : js_I 46 48 = some (.sipush 4096, 3) := by decide +kernel
theorem q_46_51 : js_I 46 51 = some (.if_icmp .le 15, 3) := by decide +kernel
theorem q_46_54 : js_I 46 54 = some (.aload_n 0, 1) := by decide +kernel
theorem q_46_55 : js_I 46 55 = some (.getfield 9, 3) := by decide +kernel
theorem q_46_58 : js_I 46 58 = some (.iconst 4, 1) := by decide +kernel
theorem q_46_59 : js_I 46 59 = some (.aload_n 0, 1) := by decide +kernel
theorem q_46_60 : js_I 46 60 = some (.getfield 25, 3) := by decide +kernel
theorem q_46_63 : js_I 46 63 = some (.invokevirtual 55, 3) := by decide +kernel
theorem q_46_66 : js_I 46 66 = some (.aload_n 0, 1) := by decide +kernel
theorem q_46_67 : js_I 46 67 = some (.getfield 9, 3) := by decide +kernel
theorem q_46_70 : js_I 46 70 = some (.bipush 93, 2) := by decide +kernel
theorem q_46_72 : js_I 46 72 = some (.invokevirtual 82, 3) := by decide +kernel
theorem q_46_75 : js_I 46 75 = some (.return_, 1) := by decide +kernel
theorem q_47_0 : js_I 47 0 = some (.aload_n 0, 1) := by decide +kernel
theorem q_47_1 : js_I 47 1 = some (.getfield 131, 3) := by decide +kernel
theorem q_47_4 : js_I 47 4 = some (.iload_n 1, 1) := by decide +kernel
theorem q_47_5 : js_I 47 5 = some (.if_icmp .eq 12, 3) := by decide +kernel
theorem q_47_8 : js_I 47 8 = some (.aload_n 0, 1) := by decide +kernel
theorem q_47_9 : js_I 47 9 = some (.iconst 1, 1) := by decide +kernel
theorem q_47_10 : js_I 47 10 = some (.aload_n 0, 1) := by decide +kernel
theorem q_47_11 : js_I 47 11 = some (.getfield 134, 3) := by decide +kernel
theorem q_47_14 : js_I 47 14 = some (.invokevirtual 144, 3) := by decide +kernel
theorem q_47_17 : js_I 47 17 = some (.aload_n 0, 1) := by decide +kernel
theorem q_47_18 : js_I 47 18 = some (.getfield 68, 3) := by decide +kernel
theorem q_47_21 : js_I 47 21 = some (.bipush 64, 2) := by decide +kernel
theorem q_47_23 : js_I 47 23 = some (.if_icmp .lt 13, 3) := by decide +kernel
theorem q_47_26 : js_I 47 26 = some (.aload_n 0, 1) := by decide +kernel
theorem q_47_27 : js_I 47 27 = some (.bipush 10, 2) := by decide +kernel
theorem q_47_29 : js_I 47 29 = some (.aload_n 0, 1) := by decide +kernel
theorem q_47_30 : js_I 47 30 = some (.getfield 134, 3) := by decide +kernel
theorem q_47_33 : js_I 47 33 = some (.invokevirtual 144, 3) := by decide +kernel
theorem q_47_36 : js_I 47 36 = some (.aload_n 0, 1) := by decide +kernel
theorem q_47_37 : js_I 47 37 = some (.dup, 1) := by decide +kernel
theorem q_47_38 : js_I 47 38 = some (.getfield 68, 3) := by decide +kernel
theorem q_47_41 : js_I 47 41 = some (.iconst 1, 1) := by decide +kernel
theorem q_47_42 : js_I 47 42 = some (.iadd, 1) := by decide +kernel
theorem q_47_43 : js_I 47 43 = some (.putfield 68, 3) := by decide +kernel
theorem q_47_46 : js_I 47 46 = some (.aload_n 0, 1) := by decide +kernel
theorem q_47_47 : js_I 47 47 = some (.invokevirtual 77, 3) := by decide +kernel
theorem q_47_50 : js_I 47 50 = some (.return_, 1) := by decide +kernel
theorem q_48_0 : js_I 48 0 = some (.aload_n 0, 1) := by decide +kernel
theorem q_48_1 : js_I 48 1 = some (.getfield 131, 3) := by decide +kernel
theorem q_48_4 : js_I 48 4 = some (.iload_n 1, 1) := by decide +kernel
theorem q_48_5 : js_I 48 5 = some (.if_icmp .eq 12, 3) := by decide +kernel
theorem q_48_8 : js_I 48 8 = some (.aload_n 0, 1) := by decide +kernel
theorem q_48_9 : js_I 48 9 = some (.iconst 1, 1) := by decide +kernel
theorem q_48_10 : js_I 48 10 = some (.aload_n 0, 1) := by decide +kernel
theorem q_48_11 : js_I 48 11 = some (.getfield 134, 3) := by decide +kernel
theorem q_48_14 : js_I 48 14 = some (.invokevirtual 144, 3) := by decide +kernel
theorem q_48_17 : js_I 48 17 = some (.aload_n 0, 1) := by decide +kernel
theorem q_48_18 : js_I 48 18 = some (.dup, 1) := by decide +kernel
theorem q_48_19 : js_I 48 19 = some (.getfield 68, 3) := by decide +kernel
theorem q_48_22 : js_I 48 22 = some (.iconst 1, 1) := by decide +kernel
theorem q_48_23 : js_I 48 23 = some (.isub, 1) := by decide +kernel
theorem q_48_24 : js_I 48 24 = some (.putfield 68, 3) := by decide +kernel
theorem q_48_27 : js_I 48 27 = some (.aload_n 0, 1) := by decide +kernel
theorem q_48_28 : js_I 48 28 = some (.invokevirtual 77, 3) := by decide +kernel
theorem q_48_31 : js_I 48 31 = some (.return_, 1) := by decide +kernel
theorem q_49_0 : js_I 49 0 = some (.aload_n 0, 1) := by decide +kernel
theorem q_49_1 : js_I 49 1 = some (.getfield 9, 3) := by decide +kernel
theorem q_49_4 : js_I 49 4 = some (.getfield 28, 3) := by decide +kernel
theorem q_49_7 : js_I 49 7 = some (.sipush 215, 3) := by decide +kernel
theorem q_49_10 : js_I 49 10 = some (.if_icmp .ne 18, 3) := by decide +kernel
theorem q_49_13 : js_I 49 13 = some (.aload_n 1, 1) := by decide +kernel
theorem q_49_14 : js_I 49 14 = some (.iconst 1, 1) := by decide +kernel
theorem q_49_15 : js_I 49 15 = some (.iconst 0, 1) := by decide +kernel
theorem q_49_16 : js_I 49 16 = some (.iconst 1, 1) := by decide +kernel
theorem q_49_17 : js_I 49 17 = some (.invokevirtual 85, 3) := by decide +kernel
theorem q_49_28 : js_I 49 28 = some (.aload_n 0, 1) := by decide +kernel
theorem q_49_29 : js_I 49 29 = some (.getfield 9, 3) := by decide +kernel
theorem q_49_32 : js_I 49 32 = some (.getfield 28, 3) := by decide +kernel
theorem q_49_35 : js_I 49 35 = some (.iconst 2, 1) := by decide +kernel
theorem q_49_36 : js_I 49 36 = some (.if_icmp .ne 17, 3) := by decide +kernel
theorem q_49_39 : js_I 49 39 = some (.aload_n 0, 1) := by decide +kernel
theorem q_49_40 : js_I 49 40 = some (.getfield 15, 3) := by decide +kernel
theorem q_49_43 : js_I 49 43 = some (.aload_n 0, 1) := by decide +kernel
theorem q_49_44 : js_I 49 44 = some (.getfield 9, 3) := by decide +kernel
theorem q_49_47 : js_I 49 47 = some (.invokevirtual 44, 3) := by decide +kernel
theorem q_49_53 : js_I 49 53 = some (.aconst_null, 1) := by decide +kernel
theorem q_49_20 : js_I 49 20 = some (.aload_n 0, 1) := by decide +kernel
theorem q_49_21 : js_I 49 21 = some (.getfield 9, 3) := by decide +kernel
theorem q_49_24 : js_I 49 24 = some (.invokevirtual 31, 3) := by decide +kernel
theorem q_49_27 : js_I 49 27 = some (.return_, 1) := by decide +kernel
theorem q_49_50 : js_I 49 50 = some (.goto 4, 3) := by decide +kernel
theorem q_49_54 : js_I 49 54 = some (.astore_n 2, 1) := by decide +kernel
theorem q_49_55 : js_I 49 55 = some (.aload_n 2, 1) := by decide +kernel
theorem q_49_56 : js_I 49 56 = some (.ifnull 33, 3) := by decide +kernel
theorem q_49_59 : js_I 49 59 = some (.aload_n 2, 1) := by decide +kernel
theorem q_49_60 : js_I 49 60 = some (.getfield 50, 3) := by decide +kernel
theorem q_49_63 : js_I 49 63 = some (.bipush 8, 2) := by decide +kernel
theorem q_49_65 : js_I 49 65 = some (.if_icmp .ne 24, 3) := by decide +kernel
theorem q_49_68 : js_I 49 68 = some (.aload_n 1, 1) := by decide +kernel
theorem q_49_69 : js_I 49 69 = some (.aload_n 2, 1) := by decide +kernel
theorem q_49_70 : js_I 49 70 = some (.getfield 59, 3) := by decide +kernel
theorem q_49_73 : js_I 49 73 = some (.iconst 0, 1) := by decide +kernel
theorem q_49_74 : js_I 49 74 = some (.aload_n 2, 1) := by decide +kernel
theorem q_49_75 : js_I 49 75 = some (.getfield 68, 3) := by decide +kernel
theorem q_49_78 : js_I 49 78 = some (.invokevirtual 85, 3) := by decide +kernel
theorem q_49_81 : js_I 49 81 = some (.aload_n 0, 1) := by decide +kernel
theorem q_49_82 : js_I 49 82 = some (.getfield 9, 3) := by decide +kernel
theorem q_49_85 : js_I 49 85 = some (.invokevirtual 31, 3) := by decide +kernel
theorem q_49_88 : js_I 49 88 = some (.return_, 1) := by decide +kernel
theorem q_49_89 : js_I 49 89 = some (.aload_n 0, 1) := by decide +kernel
theorem q_49_90 : js_I 49 90 = some (.iconst 0, 1) := by decide +kernel
theorem q_49_91 : js_I 49 91 = some (.invokevirtual 61, 3) := by decide +kernel
theorem q_49_94 : js_I 49 94 = some (.istore_n 3, 1) := by decide +kernel
theorem q_49_95 : js_I 49 95 = some (.aload_n 0, 1) := by decide +kernel
theorem q_49_96 : js_I 49 96 = some (.getfield 9, 3) := by decide +kernel
theorem q_49_99 : js_I 49 99 = some (.sipush 128, 3) := by decide +kernel
theorem q_49_102 : js_I 49 102 = some (.invokevirtual 89, 3) := by decide +kernel
theorem q_49_105 : js_I 49 105 = some (.aload_n 0, 1) := by decide +kernel
theorem q_49_106 : js_I 49 106 = some (.iconst 0, 1) := by decide +kernel
theorem q_49_107 : js_I 49 107 = some (.invokevirtual 61, 3) := by decide +kernel
theorem q_49_110 : js_I 49 110 = some (.istore 4, 2) := by decide +kernel
theorem q_49_112 : js_I 49 112 = some (.aload_n 0, 1) := by decide +kernel
theorem q_49_113 : js_I 49 113 = some (.iload_n 3, 1) := by decide +kernel
theorem q_49_114 : js_I 49 114 = some (.invokevirtual 92, 3) := by decide +kernel
theorem q_49_117 : js_I 49 117 = some (.aload_n 1, 1) := by decide +kernel
theorem q_49_118 : js_I 49 118 = some (.iconst 0, 1) := by decide +kernel
theorem q_49_119 : js_I 49 119 = some (.iload_n 3, 1) := by decide +kernel
theorem q_49_120 : js_I 49 120 = some (.iload 4, 2) := by decide +kernel
theorem q_49_122 : js_I 49 122 = some (.invokevirtual 85, 3) := by decide +kernel
theorem q_49_125 : js_I 49 125 = some (.return_, 1) := by decide +kernel
theorem q_50_0 : js_I 50 0 = some (.aload_n 0, 1) := by decide +kernel
theorem q_50_1 : js_I 50 1 = some (.getfield 41, 3) := by decide +kernel
theorem q_50_4 : js_I 50 4 = some (.iload_n 1, 1) := by decide +kernel
theorem q_50_5 : js_I 50 5 = some (.if_icmp .ge 15, 3) := by decide +kernel
theorem q_50_8 : js_I 50 8 = some (.aload_n 0, 1) := by decide +kernel
theorem q_50_9 : js_I 50 9 = some (.getfield 9, 3) := by decide +kernel
theorem q_50_12 : js_I 50 12 = some (.iconst 4, 1) := by decide +kernel
theorem q_50_13 : js_I 50 13 = some (.aload_n 0, 1) := by decide +kernel
theorem q_50_14 : js_I 50 14 = some (.getfield 25, 3) := by decide +kernel
theorem q_50_17 : js_I 50 17 = some (.invokevirtual 55, 3) := by decide +kernel
theorem q_50_20 : js_I 50 20 = some (.return_, 1) := by decide +kernel
theorem q_51_0 : js_I 51 0 = some (.aload_n 0, 1) := by decide +kernel
theorem q_51_1 : js_I 51 1 = some (.aload_n 1, 1) := by decide +kernel
theorem q_51_2 : js_I 51 2 = some (.getfield 59, 3) := by decide +kernel
theorem q_51_5 : js_I 51 5 = some (.invokevirtual 61, 3) := by decide +kernel
theorem q_51_8 : js_I 51 8 = some (.pop, 1) := by decide +kernel
theorem q_51_9 : js_I 51 9 = some (.aload_n 0, 1) := by decide +kernel
theorem q_51_10 : js_I 51 10 = some (.getfield 41, 3) := by decide +kernel
theorem q_51_13 : js_I 51 13 = some (.aload_n 1, 1) := by decide +kernel
theorem q_51_14 : js_I 51 14 = some (.getfield 65, 3) := by decide +kernel
theorem q_51_17 : js_I 51 17 = some (.if_icmp .lt 14, 3) := by decide +kernel
theorem q_51_20 : js_I 51 20 = some (.aload_n 0, 1) := by decide +kernel
theorem q_51_21 : js_I 51 21 = some (.getfield 41, 3) := by decide +kernel
theorem q_51_24 : js_I 51 24 = some (.aload_n 1, 1) := by decide +kernel
theorem q_51_25 : js_I 51 25 = some (.getfield 68, 3) := by decide +kernel
theorem q_51_28 : js_I 51 28 = some (.if_icmp .le 16, 3) := by decide +kernel
theorem q_51_31 : js_I 51 31 = some (.aload_n 0, 1) := by decide +kernel
theorem q_51_32 : js_I 51 32 = some (.getfield 9, 3) := by decide +kernel
theorem q_51_35 : js_I 51 35 = some (.bipush 6, 2) := by decide +kernel
theorem q_51_37 : js_I 51 37 = some (.aload_n 0, 1) := by decide +kernel
theorem q_51_38 : js_I 51 38 = some (.getfield 25, 3) := by decide +kernel
theorem q_51_41 : js_I 51 41 = some (.invokevirtual 55, 3) := by decide +kernel
theorem q_51_44 : js_I 51 44 = some (.aload_n 0, 1) := by decide +kernel
theorem q_51_45 : js_I 51 45 = some (.getfield 41, 3) := by decide +kernel
theorem q_51_48 : js_I 51 48 = some (.ireturn, 1) := by decide +kernel
theorem q_52_0 : js_I 52 0 = some (.aload_n 0, 1) := by decide +kernel
theorem q_52_1 : js_I 52 1 = some (.getfield 17, 3) := by decide +kernel
theorem q_52_4 : js_I 52 4 = some (.invokevirtual 120, 3) := by decide +kernel
theorem q_52_7 : js_I 52 7 = some (.aload_n 0, 1) := by decide +kernel
theorem q_52_8 : js_I 52 8 = some (.getfield 27, 3) := by decide +kernel
theorem q_52_11 : js_I 52 11 = some (.iconst 4, 1) := by decide +kernel
theorem q_52_12 : js_I 52 12 = some (.iconst 0, 1) := by decide +kernel
theorem q_52_13 : js_I 52 13 = some (.aload_n 0, 1) := by decide +kernel
theorem q_52_14 : js_I 52 14 = some (.getfield 17, 3) := by decide +kernel
theorem q_52_17 : js_I 52 17 = some (.invokevirtual 123, 3) := by decide +kernel
theorem q_52_20 : js_I 52 20 = some (.astore_n 1, 1) := by decide +kernel
theorem q_52_21 : js_I 52 21 = some (.aload_n 1, 1) := by decide +kernel
theorem q_52_22 : js_I 52 22 = some (.aload_n 0, 1) := by decide +kernel
theorem q_52_23 : js_I 52 23 = some (.getfield 27, 3) := by decide +kernel
theorem q_52_26 : js_I 52 26 = some (.getfield 83, 3) := by decide +kernel
theorem q_52_29 : js_I 52 29 = some (.getfield 87, 3) := by decide +kernel
theorem q_52_32 : js_I 52 32 = some (.putfield 159, 3) := by decide +kernel
theorem q_52_35 : js_I 52 35 = some (.aload_n 1, 1) := by decide +kernel
theorem q_52_36 : js_I 52 36 = some (.iconst 0, 1) := by decide +kernel
theorem q_52_37 : js_I 52 37 = some (.putfield 146, 3) := by decide +kernel
theorem q_52_40 : js_I 52 40 = some (.aload_n 0, 1) := by decide +kernel
theorem q_52_41 : js_I 52 41 = some (.getfield 40, 3) := by decide +kernel
theorem q_52_44 : js_I 52 44 = some (.aload_n 1, 1) := by decide +kernel
theorem q_52_45 : js_I 52 45 = some (.getfield 149, 3) := by decide +kernel
theorem q_52_48 : js_I 52 48 = some (.putfield 172, 3) := by decide +kernel
theorem q_52_51 : js_I 52 51 = some (.aload_n 0, 1) := by decide +kernel
theorem q_52_52 : js_I 52 52 = some (.getfield 17, 3) := by decide +kernel
theorem q_52_55 : js_I 52 55 = some (.bipush 40, 2) := by decide +kernel
theorem q_52_57 : js_I 52 57 = some (.invokevirtual 175, 3) := by decide +kernel
theorem q_52_60 : js_I 52 60 = some (.aload_n 0, 1) := by decide +kernel
theorem q_52_61 : js_I 52 61 = some (.getfield 17, 3) := by decide +kernel
theorem q_52_64 : js_I 52 64 = some (.getfield 54, 3) := by decide +kernel
theorem q_52_67 : js_I 52 67 = some (.bipush 41, 2) := by decide +kernel
theorem q_52_69 : js_I 52 69 = some (.if_icmp .eq 7, 3) := by decide +kernel
theorem q_52_76 : js_I 52 76 = some (.iconst 0, 1) := by decide +kernel
theorem q_52_72 : js_I 52 72 = some (.iconst 1, 1) := by decide +kernel
theorem q_52_73 : js_I 52 73 = some (.goto 4, 3) := by decide +kernel
theorem q_52_77 : js_I 52 77 = some (.istore_n 2, 1) := by decide +kernel
theorem q_52_78 : js_I 52 78 = some (.iconst 0, 1) := by decide +kernel
theorem q_52_79 : js_I 52 79 = some (.istore_n 3, 1) := by decide +kernel
theorem q_52_80 : js_I 52 80 = some (.iload_n 3, 1) := by decide +kernel
theorem q_52_81 : js_I 52 81 = some (.ldc 53, 2) := by decide +kernel
theorem q_52_83 : js_I 52 83 = some (.if_icmp .ge 47, 3) := by decide +kernel
theorem q_52_86 : js_I 52 86 = some (.iload_n 2, 1) := by decide +kernel
theorem q_52_87 : js_I 52 87 = some (.ifCond .eq 43, 3) := by decide +kernel
theorem q_52_90 : js_I 52 90 = some (.aload_n 0, 1) := by decide +kernel
theorem q_52_91 : js_I 52 91 = some (.aload_n 1, 1) := by decide +kernel
theorem q_52_92 : js_I 52 92 = some (.invokevirtual 178, 3) := by decide +kernel
theorem q_52_95 : js_I 52 95 = some (.aload_n 0, 1) := by decide +kernel
theorem q_52_96 : js_I 52 96 = some (.getfield 17, 3) := by decide +kernel
theorem q_52_99 : js_I 52 99 = some (.getfield 54, 3) := by decide +kernel
theorem q_52_102 : js_I 52 102 = some (.bipush 44, 2) := by decide +kernel
theorem q_52_104 : js_I 52 104 = some (.if_icmp .ne 7, 3) := by decide +kernel
theorem q_52_107 : js_I 52 107 = some (.iconst 1, 1) := by decide +kernel
theorem q_52_108 : js_I 52 108 = some (.goto 4, 3) := by decide +kernel
theorem q_52_111 : js_I 52 111 = some (.iconst 0, 1) := by decide +kernel
theorem q_52_112 : js_I 52 112 = some (.istore_n 2, 1) := by decide +kernel
theorem q_52_113 : js_I 52 113 = some (.iload_n 2, 1) := by decide +kernel
theorem q_52_114 : js_I 52 114 = some (.ifCond .eq 10, 3) := by decide +kernel
theorem q_52_117 : js_I 52 117 = some (.aload_n 0, 1) := by decide +kernel
theorem q_52_118 : js_I 52 118 = some (.getfield 17, 3) := by decide +kernel
theorem q_52_121 : js_I 52 121 = some (.invokevirtual 120, 3) := by decide +kernel
theorem q_52_124 : js_I 52 124 = some (.iinc 3 1, 3) := by decide +kernel
theorem q_52_127 : js_I 52 127 = some (.goto (-47), 3) := by decide +kernel
theorem q_52_130 : js_I 52 130 = some (.aload_n 0, 1) := by decide +kernel
theorem q_52_131 : js_I 52 131 = some (.getfield 17, 3) := by decide +kernel
theorem q_52_134 : js_I 52 134 = some (.bipush 41, 2) := by decide +kernel
theorem q_52_136 : js_I 52 136 = some (.invokevirtual 181, 3) := by decide +kernel
theorem q_52_139 : js_I 52 139 = some (.aload_n 0, 1) := by decide +kernel
theorem q_52_140 : js_I 52 140 = some (.getfield 17, 3) := by decide +kernel
theorem q_52_143 : js_I 52 143 = some (.getfield 54, 3) := by decide +kernel
theorem q_52_146 : js_I 52 146 = some (.bipush 58, 2) := by decide +kernel
theorem q_52_148 : js_I 52 148 = some (.if_icmp .ne 18, 3) := by decide +kernel
theorem q_52_151 : js_I 52 151 = some (.aload_n 0, 1) := by decide +kernel
theorem q_52_152 : js_I 52 152 = some (.getfield 17, 3) := by decide +kernel
theorem q_52_155 : js_I 52 155 = some (.invokevirtual 120, 3) := by decide +kernel
theorem q_52_158 : js_I 52 158 = some (.aload_n 0, 1) := by decide +kernel
theorem q_52_159 : js_I 52 159 = some (.getfield 31, 3) := by decide +kernel
theorem q_52_162 : js_I 52 162 = some (.aload_n 1, 1) := by decide +kernel
theorem q_52_163 : js_I 52 163 = some (.invokevirtual 156, 3) := by decide +kernel
theorem q_52_166 : js_I 52 166 = some (.aload_n 0, 1) := by decide +kernel
theorem q_52_167 : js_I 52 167 = some (.getfield 40, 3) := by decide +kernel
theorem q_52_170 : js_I 52 170 = some (.aload_n 1, 1) := by decide +kernel
theorem q_52_171 : js_I 52 171 = some (.getfield 149, 3) := by decide +kernel
theorem q_52_174 : js_I 52 174 = some (.aload_n 1, 1) := by decide +kernel
theorem q_52_175 : js_I 52 175 = some (.getfield 184, 3) := by decide +kernel
theorem q_52_178 : js_I 52 178 = some (.iconst 2, 1) := by decide +kernel
theorem q_52_179 : js_I 52 179 = some (.if_icmp .ne 7, 3) := by decide +kernel
theorem q_52_182 : js_I 52 182 = some (.aconst_null, 1) := by decide +kernel
theorem q_52_183 : js_I 52 183 = some (.goto 4, 3) := by decide +kernel
theorem q_52_186 : js_I 52 186 = some (.aload_n 1, 1) := by decide +kernel
theorem q_52_187 : js_I 52 187 = some (.invokevirtual 98, 3) := by decide +kernel
theorem q_52_190 : js_I 52 190 = some (.aload_n 0, 1) := by decide +kernel
theorem q_52_191 : js_I 52 191 = some (.getfield 27, 3) := by decide +kernel
theorem q_52_194 : js_I 52 194 = some (.getfield 83, 3) := by decide +kernel
theorem q_52_197 : js_I 52 197 = some (.bipush 28, 2) := by decide +kernel
theorem q_52_199 : js_I 52 199 = some (.iconst 0, 1) := by decide +kernel
theorem q_52_200 : js_I 52 200 = some (.invokevirtual 102, 3) := by decide +kernel
theorem q_52_203 : js_I 52 203 = some (.pop, 1) := by decide +kernel
theorem q_52_204 : js_I 52 204 = some (.aload_n 1, 1) := by decide +kernel
theorem q_52_205 : js_I 52 205 = some (.aload_n 0, 1) := by decide +kernel
theorem q_52_206 : js_I 52 206 = some (.getfield 27, 3) := by decide +kernel
theorem q_52_209 : js_I 52 209 = some (.getfield 83, 3) := by decide +kernel
theorem q_52_212 : js_I 52 212 = some (.getfield 106, 3) := by decide +kernel
theorem q_52_215 : js_I 52 215 = some (.putfield 185, 3) := by decide +kernel
theorem q_52_218 : js_I 52 218 = some (.aload_n 1, 1) := by decide +kernel
theorem q_52_219 : js_I 52 219 = some (.iconst 1, 1) := by decide +kernel
theorem q_52_220 : js_I 52 220 = some (.aload_n 0, 1) := by decide +kernel
theorem q_52_221 : js_I 52 221 = some (.getfield 27, 3) := by decide +kernel
theorem q_52_224 : js_I 52 224 = some (.getfield 83, 3) := by decide +kernel
theorem q_52_227 : js_I 52 227 = some (.getfield 186, 3) := by decide +kernel
theorem q_52_230 : js_I 52 230 = some (.iadd, 1) := by decide +kernel
theorem q_52_231 : js_I 52 231 = some (.putfield 189, 3) := by decide +kernel
theorem q_52_234 : js_I 52 234 = some (.aload_n 0, 1) := by decide +kernel
theorem q_52_235 : js_I 52 235 = some (.getfield 27, 3) := by decide +kernel
theorem q_52_238 : js_I 52 238 = some (.getfield 83, 3) := by decide +kernel
theorem q_52_241 : js_I 52 241 = some (.invokevirtual 110, 3) := by decide +kernel
theorem q_52_244 : js_I 52 244 = some (.aload_n 1, 1) := by decide +kernel
theorem q_52_245 : js_I 52 245 = some (.iconst 1, 1) := by decide +kernel
theorem q_52_246 : js_I 52 246 = some (.putfield 142, 3) := by decide +kernel
theorem q_52_249 : js_I 52 249 = some (.aload_n 0, 1) := by decide +kernel
theorem q_52_250 : js_I 52 250 = some (.getfield 40, 3) := by decide +kernel
theorem q_52_253 : js_I 52 253 = some (.iconst (-1), 1) := by decide +kernel
theorem q_52_254 : js_I 52 254 = some (.putfield 172, 3) := by decide +kernel
theorem q_52_257 : js_I 52 257 = some (.return_, 1) := by decide +kernel
theorem q_53_0 : js_I 53 0 = some (.aload_n 0, 1) := by decide +kernel
theorem q_53_1 : js_I 53 1 = some (.getfield 27, 3) := by decide +kernel
theorem q_53_4 : js_I 53 4 = some (.iconst 5, 1) := by decide +kernel
theorem q_53_5 : js_I 53 5 = some (.aload_n 1, 1) := by decide +kernel
theorem q_53_6 : js_I 53 6 = some (.getfield 146, 3) := by decide +kernel
theorem q_53_9 : js_I 53 9 = some (.bipush 8, 2) := by decide +kernel
theorem q_53_11 : js_I 53 11 = some (.if_icmp .lt 7, 3) := by decide +kernel
theorem q_53_18 : js_I 53 18 = some (.iconst 0, 1) := by decide +kernel
theorem q_53_14 : js_I 53 14 = some (.iconst 1, 1) := by decide +kernel
theorem q_53_15 : js_I 53 15 = some (.goto 4, 3) := by decide +kernel
theorem q_53_19 : js_I 53 19 = some (.aload_n 0, 1) := by decide +kernel
theorem q_53_20 : js_I 53 20 = some (.getfield 17, 3) := by decide +kernel
theorem q_53_23 : js_I 53 23 = some (.invokevirtual 123, 3) := by decide +kernel
theorem q_53_26 : js_I 53 26 = some (.astore_n 2, 1) := by decide +kernel
theorem q_53_27 : js_I 53 27 = some (.aload_n 0, 1) := by decide +kernel
theorem q_53_28 : js_I 53 28 = some (.getfield 17, 3) := by decide +kernel
theorem q_53_31 : js_I 53 31 = some (.bipush 58, 2) := by decide +kernel
theorem q_53_33 : js_I 53 33 = some (.invokevirtual 80, 3) := by decide +kernel
theorem q_53_36 : js_I 53 36 = some (.aload_n 0, 1) := by decide +kernel
theorem q_53_37 : js_I 53 37 = some (.getfield 31, 3) := by decide +kernel
theorem q_53_40 : js_I 53 40 = some (.aload_n 2, 1) := by decide +kernel
theorem q_53_41 : js_I 53 41 = some (.invokevirtual 156, 3) := by decide +kernel
theorem q_53_44 : js_I 53 44 = some (.aload_n 0, 1) := by decide +kernel
theorem q_53_45 : js_I 53 45 = some (.getfield 40, 3) := by decide +kernel
theorem q_53_48 : js_I 53 48 = some (.aload_n 2, 1) := by decide +kernel
theorem q_53_49 : js_I 53 49 = some (.invokevirtual 192, 3) := by decide +kernel
theorem q_53_52 : js_I 53 52 = some (.aload_n 2, 1) := by decide +kernel
theorem q_53_53 : js_I 53 53 = some (.iconst 1, 1) := by decide +kernel
theorem q_53_54 : js_I 53 54 = some (.putfield 142, 3) := by decide +kernel
theorem q_53_57 : js_I 53 57 = some (.aload_n 1, 1) := by decide +kernel
theorem q_53_58 : js_I 53 58 = some (.dup, 1) := by decide +kernel
theorem q_53_59 : js_I 53 59 = some (.getfield 146, 3) := by decide +kernel
theorem q_53_62 : js_I 53 62 = some (.iconst 1, 1) := by decide +kernel
theorem q_53_63 : js_I 53 63 = some (.iadd, 1) := by decide +kernel
theorem q_53_64 : js_I 53 64 = some (.putfield 146, 3) := by decide +kernel
theorem q_53_67 : js_I 53 67 = some (.return_, 1) := by decide +kernel
theorem q_54_0 : js_I 54 0 = some (.aload_n 1, 1) := by decide +kernel
theorem q_54_1 : js_I 54 1 = some (.aload_n 0, 1) := by decide +kernel
theorem q_54_2 : js_I 54 2 = some (.getfield 39, 3) := by decide +kernel
theorem q_54_5 : js_I 54 5 = some (.putfield 132, 3) := by decide +kernel
theorem q_54_8 : js_I 54 8 = some (.aload_n 1, 1) := by decide +kernel
theorem q_54_9 : js_I 54 9 = some (.aload_n 0, 1) := by decide +kernel
theorem q_54_10 : js_I 54 10 = some (.getfield 25, 3) := by decide +kernel
theorem q_54_13 : js_I 54 13 = some (.getfield 133, 3) := by decide +kernel
theorem q_54_16 : js_I 54 16 = some (.putfield 136, 3) := by decide +kernel
theorem q_54_19 : js_I 54 19 = some (.aload_n 1, 1) := by decide +kernel
theorem q_54_20 : js_I 54 20 = some (.aload_n 0, 1) := by decide +kernel
theorem q_54_21 : js_I 54 21 = some (.getfield 25, 3) := by decide +kernel
theorem q_54_24 : js_I 54 24 = some (.getfield 137, 3) := by decide +kernel
theorem q_54_27 : js_I 54 27 = some (.putfield 140, 3) := by decide +kernel
theorem q_54_30 : js_I 54 30 = some (.aload_n 0, 1) := by decide +kernel
theorem q_54_31 : js_I 54 31 = some (.getfield 25, 3) := by decide +kernel
theorem q_54_34 : js_I 54 34 = some (.dup, 1) := by decide +kernel
theorem q_54_35 : js_I 54 35 = some (.getfield 137, 3) := by decide +kernel
theorem q_54_38 : js_I 54 38 = some (.aload_n 1, 1) := by decide +kernel
theorem q_54_39 : js_I 54 39 = some (.getfield 143, 3) := by decide +kernel
theorem q_54_42 : js_I 54 42 = some (.iadd, 1) := by decide +kernel
theorem q_54_43 : js_I 54 43 = some (.putfield 137, 3) := by decide +kernel
theorem q_54_46 : js_I 54 46 = some (.return_, 1) := by decide +kernel
theorem q_55_0 : js_I 55 0 = some (.aload_n 0, 1) := by decide +kernel
theorem q_55_1 : js_I 55 1 = some (.getfield 9, 3) := by decide +kernel
theorem q_55_4 : js_I 55 4 = some (.bipush 123, 2) := by decide +kernel
theorem q_55_6 : js_I 55 6 = some (.invokevirtual 46, 3) := by decide +kernel
theorem q_55_9 : js_I 55 9 = some (.iconst 0, 1) := by decide +kernel
theorem q_55_10 : js_I 55 10 = some (.istore_n 3, 1) := by decide +kernel
theorem q_55_11 : js_I 55 11 = some (.iload_n 3, 1) := by decide +kernel
theorem q_55_12 : js_I 55 12 = some (.ldc 52, 2) := by decide +kernel
theorem q_55_14 : js_I 55 14 = some (.if_icmp .ge 42, 3) := by decide +kernel
theorem q_55_17 : js_I 55 17 = some (.aload_n 0, 1) := by decide +kernel
theorem q_55_18 : js_I 55 18 = some (.getfield 9, 3) := by decide +kernel
theorem q_55_21 : js_I 55 21 = some (.getfield 53, 3) := by decide +kernel
theorem q_55_24 : js_I 55 24 = some (.bipush 125, 2) := by decide +kernel
theorem q_55_26 : js_I 55 26 = some (.if_icmp .eq 30, 3) := by decide +kernel
theorem q_55_29 : js_I 55 29 = some (.aload_n 2, 1) := by decide +kernel
theorem q_55_30 : js_I 55 30 = some (.ifnull 16, 3) := by decide +kernel
theorem q_55_33 : js_I 55 33 = some (.aload_n 0, 1) := by decide +kernel
theorem q_55_34 : js_I 55 34 = some (.getfield 9, 3) := by decide +kernel
theorem q_55_37 : js_I 55 37 = some (.getfield 53, 3) := by decide +kernel
theorem q_55_40 : js_I 55 40 = some (.sipush 213, 3) := by decide +kernel
theorem q_55_43 : js_I 55 43 = some (.if_icmp .eq 13, 3) := by decide +kernel
theorem q_55_46 : js_I 55 46 = some (.aload_n 0, 1) := by decide +kernel
theorem q_55_47 : js_I 55 47 = some (.invokevirtual 56, 3) := by decide +kernel
theorem q_55_50 : js_I 55 50 = some (.iinc 3 1, 3) := by decide +kernel
theorem q_55_53 : js_I 55 53 = some (.goto (-42), 3) := by decide +kernel
theorem q_55_56 : js_I 55 56 = some (.aload_n 2, 1) := by decide +kernel
theorem q_55_57 : js_I 55 57 = some (.ifnull 48, 3) := by decide +kernel
theorem q_55_60 : js_I 55 60 = some (.aload_n 0, 1) := by decide +kernel
theorem q_55_61 : js_I 55 61 = some (.getfield 9, 3) := by decide +kernel
theorem q_55_64 : js_I 55 64 = some (.sipush 213, 3) := by decide +kernel
theorem q_55_67 : js_I 55 67 = some (.invokevirtual 59, 3) := by decide +kernel
theorem q_55_70 : js_I 55 70 = some (.aload_n 0, 1) := by decide +kernel
theorem q_55_71 : js_I 55 71 = some (.getfield 35, 3) := by decide +kernel
theorem q_55_74 : js_I 55 74 = some (.invokevirtual 62, 3) := by decide +kernel
theorem q_55_77 : js_I 55 77 = some (.aload_n 0, 1) := by decide +kernel
theorem q_55_78 : js_I 55 78 = some (.getfield 35, 3) := by decide +kernel
theorem q_55_81 : js_I 55 81 = some (.aload_n 2, 1) := by decide +kernel
theorem q_55_82 : js_I 55 82 = some (.getfield 65, 3) := by decide +kernel
theorem q_55_85 : js_I 55 85 = some (.aload_n 2, 1) := by decide +kernel
theorem q_55_86 : js_I 55 86 = some (.getfield 70, 3) := by decide +kernel
theorem q_55_89 : js_I 55 89 = some (.aload_n 2, 1) := by decide +kernel
theorem q_55_90 : js_I 55 90 = some (.getfield 73, 3) := by decide +kernel
theorem q_55_93 : js_I 55 93 = some (.invokevirtual 76, 3) := by decide +kernel
theorem q_55_96 : js_I 55 96 = some (.aload_n 0, 1) := by decide +kernel
theorem q_55_97 : js_I 55 97 = some (.getfield 9, 3) := by decide +kernel
theorem q_55_100 : js_I 55 100 = some (.bipush 59, 2) := by decide +kernel
theorem q_55_102 : js_I 55 102 = some (.invokevirtual 59, 3) := by decide +kernel
theorem q_55_105 : js_I 55 105 = some (.aload_n 0, 1) := by decide +kernel
theorem q_55_106 : js_I 55 106 = some (.getfield 9, 3) := by decide +kernel
theorem q_55_109 : js_I 55 109 = some (.bipush 125, 2) := by decide +kernel
theorem q_55_111 : js_I 55 111 = some (.invokevirtual 80, 3) := by decide +kernel
theorem q_55_114 : js_I 55 114 = some (.aload_n 0, 1) := by decide +kernel
theorem q_55_115 : js_I 55 115 = some (.getfield 15, 3) := by decide +kernel
theorem q_55_118 : js_I 55 118 = some (.iload_n 1, 1) := by decide +kernel
theorem q_55_119 : js_I 55 119 = some (.invokevirtual 83, 3) := by decide +kernel
theorem q_55_122 : js_I 55 122 = some (.return_, 1) := by decide +kernel
theorem q_56_0 : js_I 56 0 = some (.aload_n 0, 1) := by decide +kernel
theorem q_56_1 : js_I 56 1 = some (.getfield 9, 3) := by decide +kernel
theorem q_56_4 : js_I 56 4 = some (.getfield 53, 3) := by decide +kernel
theorem q_56_7 : js_I 56 7 = some (.lookupswitch 177 #[(2, 119), (205, 57), (207, 105), (209, 98), (210, 112), (212, 64)], 57) := by decide +kernel
theorem q_56_64 : js_I 56 64 = some (.aload_n 0, 1) := by decide +kernel
theorem q_56_65 : js_I 56 65 = some (.invokevirtual 86, 3) := by decide +kernel
theorem q_56_68 : js_I 56 68 = some (.goto 131, 3) := by decide +kernel
theorem q_56_71 : js_I 56 71 = some (.aload_n 0, 1) := by decide +kernel
theorem q_56_72 : js_I 56 72 = some (.getfield 9, 3) := by decide +kernel
theorem q_56_75 : js_I 56 75 = some (.invokevirtual 89, 3) := by decide +kernel
theorem q_56_78 : js_I 56 78 = some (.aload_n 0, 1) := by decide +kernel
theorem q_56_79 : js_I 56 79 = some (.invokevirtual 92, 3) := by decide +kernel
theorem q_56_82 : js_I 56 82 = some (.aload_n 0, 1) := by decide +kernel
theorem q_56_83 : js_I 56 83 = some (.getfield 25, 3) := by decide +kernel
theorem q_56_86 : js_I 56 86 = some (.bipush 30, 2) := by decide +kernel
theorem q_56_88 : js_I 56 88 = some (.iconst 0, 1) := by decide +kernel
theorem q_56_89 : js_I 56 89 = some (.invokevirtual 95, 3) := by decide +kernel
theorem q_56_92 : js_I 56 92 = some (.pop, 1) := by decide +kernel
theorem q_56_93 : js_I 56 93 = some (.aload_n 0, 1) := by decide +kernel
theorem q_56_94 : js_I 56 94 = some (.getfield 9, 3) := by decide +kernel
theorem q_56_97 : js_I 56 97 = some (.bipush 59, 2) := by decide +kernel
theorem q_56_99 : js_I 56 99 = some (.invokevirtual 59, 3) := by decide +kernel
theorem q_56_102 : js_I 56 102 = some (.goto 97, 3) := by decide +kernel
theorem q_56_105 : js_I 56 105 = some (.aload_n 0, 1) := by decide +kernel
theorem q_56_106 : js_I 56 106 = some (.invokevirtual 101, 3) := by decide +kernel
theorem q_56_109 : js_I 56 109 = some (.goto 90, 3) := by decide +kernel
theorem q_56_112 : js_I 56 112 = some (.aload_n 0, 1) := by decide +kernel
theorem q_56_113 : js_I 56 113 = some (.invokevirtual 104, 3) := by decide +kernel
theorem q_56_116 : js_I 56 116 = some (.goto 83, 3) := by decide +kernel
theorem q_56_119 : js_I 56 119 = some (.aload_n 0, 1) := by decide +kernel
theorem q_56_120 : js_I 56 120 = some (.invokevirtual 107, 3) := by decide +kernel
theorem q_56_123 : js_I 56 123 = some (.goto 76, 3) := by decide +kernel
theorem q_56_126 : js_I 56 126 = some (.aload_n 0, 1) := by decide +kernel
theorem q_56_127 : js_I 56 127 = some (.getfield 9, 3) := by decide +kernel
theorem q_56_130 : js_I 56 130 = some (.getfield 110, 3) := by decide +kernel
theorem q_56_133 : js_I 56 133 = some (.istore_n 1, 1) := by decide +kernel
theorem q_56_134 : js_I 56 134 = some (.aload_n 0, 1) := by decide +kernel
theorem q_56_135 : js_I 56 135 = some (.invokevirtual 113, 3) := by decide +kernel
theorem q_56_138 : js_I 56 138 = some (.astore_n 2, 1) := by decide +kernel
theorem q_56_139 : js_I 56 139 = some (.aload_n 2, 1) := by decide +kernel
theorem q_56_140 : js_I 56 140 = some (.ifnull 23, 3) := by decide +kernel
theorem q_56_143 : js_I 56 143 = some (.aload_n 2, 1) := by decide +kernel
theorem q_56_144 : js_I 56 144 = some (.getfield 117, 3) := by decide +kernel
theorem q_56_147 : js_I 56 147 = some (.iconst 4, 1) := by decide +kernel
theorem q_56_148 : js_I 56 148 = some (.if_icmp .ne 15, 3) := by decide +kernel
theorem q_56_151 : js_I 56 151 = some (.aload_n 0, 1) := by decide +kernel
theorem q_56_152 : js_I 56 152 = some (.getfield 35, 3) := by decide +kernel
theorem q_56_155 : js_I 56 155 = some (.aload_n 2, 1) := by decide +kernel
theorem q_56_156 : js_I 56 156 = some (.iload_n 1, 1) := by decide +kernel
theorem q_56_157 : js_I 56 157 = some (.invokevirtual 120, 3) := by decide +kernel
theorem q_56_160 : js_I 56 160 = some (.goto 12, 3) := by decide +kernel
theorem q_56_163 : js_I 56 163 = some (.aload_n 2, 1) := by decide +kernel
theorem q_56_164 : js_I 56 164 = some (.ifnull 8, 3) := by decide +kernel
theorem q_56_167 : js_I 56 167 = some (.aload_n 0, 1) := by decide +kernel
theorem q_56_168 : js_I 56 168 = some (.aload_n 2, 1) := by decide +kernel
theorem q_56_169 : js_I 56 169 = some (.invokevirtual 124, 3) := by decide +kernel
theorem q_56_172 : js_I 56 172 = some (.aload_n 0, 1) := by decide +kernel
theorem q_56_173 : js_I 56 173 = some (.getfield 9, 3) := by decide +kernel
theorem q_56_176 : js_I 56 176 = some (.bipush 59, 2) := by decide +kernel
theorem q_56_178 : js_I 56 178 = some (.invokevirtual 59, 3) := by decide +kernel
theorem q_56_181 : js_I 56 181 = some (.goto 18, 3) := by decide +kernel
theorem q_56_184 : js_I 56 184 = some (.aload_n 0, 1) := by decide +kernel
theorem q_56_185 : js_I 56 185 = some (.getfield 9, 3) := by decide +kernel
theorem q_56_188 : js_I 56 188 = some (.iconst 1, 1) := by decide +kernel
theorem q_56_189 : js_I 56 189 = some (.aload_n 0, 1) := by decide +kernel
theorem q_56_190 : js_I 56 190 = some (.getfield 9, 3) := by decide +kernel
theorem q_56_193 : js_I 56 193 = some (.getfield 110, 3) := by decide +kernel
theorem q_56_196 : js_I 56 196 = some (.invokevirtual 128, 3) := by decide +kernel
theorem q_56_199 : js_I 56 199 = some (.return_, 1) := by decide +kernel
theorem q_57_0 : js_I 57 0 = some (.aload_n 0, 1) := by decide +kernel
theorem q_57_1 : js_I 57 1 = some (.getfield 9, 3) := by decide +kernel
theorem q_57_4 : js_I 57 4 = some (.invokevirtual 89, 3) := by decide +kernel
theorem q_57_7 : js_I 57 7 = some (.aload_n 0, 1) := by decide +kernel
theorem q_57_8 : js_I 57 8 = some (.getfield 15, 3) := by decide +kernel
theorem q_57_11 : js_I 57 11 = some (.bipush 6, 2) := by decide +kernel
theorem q_57_13 : js_I 57 13 = some (.iconst 0, 1) := by decide +kernel
theorem q_57_14 : js_I 57 14 = some (.aload_n 0, 1) := by decide +kernel
theorem q_57_15 : js_I 57 15 = some (.getfield 9, 3) := by decide +kernel
theorem q_57_18 : js_I 57 18 = some (.invokevirtual 146, 3) := by decide +kernel
theorem q_57_21 : js_I 57 21 = some (.astore_n 1, 1) := by decide +kernel
theorem q_57_22 : js_I 57 22 = some (.aload_n 0, 1) := by decide +kernel
theorem q_57_23 : js_I 57 23 = some (.getfield 26, 3) := by decide +kernel
theorem q_57_26 : js_I 57 26 = some (.aload_n 1, 1) := by decide +kernel
theorem q_57_27 : js_I 57 27 = some (.invokevirtual 150, 3) := by decide +kernel
theorem q_57_30 : js_I 57 30 = some (.aload_n 0, 1) := by decide +kernel
theorem q_57_31 : js_I 57 31 = some (.getfield 9, 3) := by decide +kernel
theorem q_57_34 : js_I 57 34 = some (.bipush 58, 2) := by decide +kernel
theorem q_57_36 : js_I 57 36 = some (.invokevirtual 59, 3) := by decide +kernel
theorem q_57_39 : js_I 57 39 = some (.aload_n 0, 1) := by decide +kernel
theorem q_57_40 : js_I 57 40 = some (.getfield 26, 3) := by decide +kernel
theorem q_57_43 : js_I 57 43 = some (.aload_n 1, 1) := by decide +kernel
theorem q_57_44 : js_I 57 44 = some (.invokevirtual 155, 3) := by decide +kernel
theorem q_57_47 : js_I 57 47 = some (.aload_n 0, 1) := by decide +kernel
theorem q_57_48 : js_I 57 48 = some (.aload_n 1, 1) := by decide +kernel
theorem q_57_49 : js_I 57 49 = some (.invokevirtual 158, 3) := by decide +kernel
theorem q_57_52 : js_I 57 52 = some (.aload_n 0, 1) := by decide +kernel
theorem q_57_53 : js_I 57 53 = some (.getfield 9, 3) := by decide +kernel
theorem q_57_56 : js_I 57 56 = some (.bipush 61, 2) := by decide +kernel
theorem q_57_58 : js_I 57 58 = some (.invokevirtual 59, 3) := by decide +kernel
theorem q_57_61 : js_I 57 61 = some (.aload_n 1, 1) := by decide +kernel
theorem q_57_62 : js_I 57 62 = some (.getfield 160, 3) := by decide +kernel
theorem q_57_65 : js_I 57 65 = some (.ifCond .eq 48, 3) := by decide +kernel
theorem q_57_113 : js_I 57 113 = some (.aload_n 0, 1) := by decide +kernel
theorem q_57_114 : js_I 57 114 = some (.getfield 35, 3) := by decide +kernel
theorem q_57_117 : js_I 57 117 = some (.invokevirtual 62, 3) := by decide +kernel
theorem q_57_68 : js_I 57 68 = some (.aload_n 0, 1) := by decide +kernel
theorem q_57_69 : js_I 57 69 = some (.getfield 26, 3) := by decide +kernel
theorem q_57_72 : js_I 57 72 = some (.aload_n 1, 1) := by decide +kernel
theorem q_57_73 : js_I 57 73 = some (.invokevirtual 164, 3) := by decide +kernel
theorem q_57_76 : js_I 57 76 = some (.istore_n 2, 1) := by decide +kernel
theorem q_57_77 : js_I 57 77 = some (.aload_n 0, 1) := by decide +kernel
theorem q_57_78 : js_I 57 78 = some (.getfield 25, 3) := by decide +kernel
theorem q_57_81 : js_I 57 81 = some (.iconst 0, 1) := by decide +kernel
theorem q_57_82 : js_I 57 82 = some (.iload_n 2, 1) := by decide +kernel
theorem q_57_83 : js_I 57 83 = some (.aload_n 1, 1) := by decide +kernel
theorem q_57_84 : js_I 57 84 = some (.getfield 65, 3) := by decide +kernel
theorem q_57_87 : js_I 57 87 = some (.ifCond .ne 7, 3) := by decide +kernel
theorem q_57_90 : js_I 57 90 = some (.iload_n 2, 1) := by decide +kernel
theorem q_57_91 : js_I 57 91 = some (.goto 4, 3) := by decide +kernel
theorem q_57_94 : js_I 57 94 = some (.iconst 0, 1) := by decide +kernel
theorem q_57_95 : js_I 57 95 = some (.aload_n 0, 1) := by decide +kernel
theorem q_57_96 : js_I 57 96 = some (.getfield 15, 3) := by decide +kernel
theorem q_57_99 : js_I 57 99 = some (.aload_n 1, 1) := by decide +kernel
theorem q_57_100 : js_I 57 100 = some (.getfield 65, 3) := by decide +kernel
theorem q_57_103 : js_I 57 103 = some (.iload_n 2, 1) := by decide +kernel
theorem q_57_104 : js_I 57 104 = some (.invokevirtual 168, 3) := by decide +kernel
theorem q_57_107 : js_I 57 107 = some (.invokevirtual 171, 3) := by decide +kernel
theorem q_57_110 : js_I 57 110 = some (.goto 29, 3) := by decide +kernel
theorem q_57_120 : js_I 57 120 = some (.aload_n 0, 1) := by decide +kernel
theorem q_57_121 : js_I 57 121 = some (.getfield 35, 3) := by decide +kernel
theorem q_57_124 : js_I 57 124 = some (.aload_n 1, 1) := by decide +kernel
theorem q_57_125 : js_I 57 125 = some (.getfield 65, 3) := by decide +kernel
theorem q_57_128 : js_I 57 128 = some (.aload_n 1, 1) := by decide +kernel
theorem q_57_129 : js_I 57 129 = some (.getfield 70, 3) := by decide +kernel
theorem q_57_132 : js_I 57 132 = some (.aload_n 1, 1) := by decide +kernel
theorem q_57_133 : js_I 57 133 = some (.getfield 73, 3) := by decide +kernel
theorem q_57_136 : js_I 57 136 = some (.invokevirtual 76, 3) := by decide +kernel
theorem q_57_139 : js_I 57 139 = some (.iconst 0, 1) := by decide +kernel
theorem q_57_140 : js_I 57 140 = some (.istore_n 2, 1) := by decide +kernel
theorem q_57_141 : js_I 57 141 = some (.iload_n 2, 1) := by decide +kernel
theorem q_57_142 : js_I 57 142 = some (.aload_n 1, 1) := by decide +kernel
theorem q_57_143 : js_I 57 143 = some (.getfield 143, 3) := by decide +kernel
theorem q_57_146 : js_I 57 146 = some (.if_icmp .ge 18, 3) := by decide +kernel
theorem q_57_149 : js_I 57 149 = some (.aload_n 0, 1) := by decide +kernel
theorem q_57_150 : js_I 57 150 = some (.getfield 25, 3) := by decide +kernel
theorem q_57_153 : js_I 57 153 = some (.aload_n 1, 1) := by decide +kernel
theorem q_57_154 : js_I 57 154 = some (.iload_n 2, 1) := by decide +kernel
theorem q_57_155 : js_I 57 155 = some (.invokevirtual 175, 3) := by decide +kernel
theorem q_57_164 : js_I 57 164 = some (.aload_n 0, 1) := by decide +kernel
theorem q_57_165 : js_I 57 165 = some (.getfield 9, 3) := by decide +kernel
theorem q_57_168 : js_I 57 168 = some (.bipush 59, 2) := by decide +kernel
theorem q_57_170 : js_I 57 170 = some (.invokevirtual 59, 3) := by decide +kernel
theorem q_57_158 : js_I 57 158 = some (.iinc 2 1, 3) := by decide +kernel
theorem q_57_161 : js_I 57 161 = some (.goto (-20), 3) := by decide +kernel
theorem q_57_173 : js_I 57 173 = some (.aload_n 1, 1) := by decide +kernel
theorem q_57_174 : js_I 57 174 = some (.iconst 1, 1) := by decide +kernel
theorem q_57_175 : js_I 57 175 = some (.putfield 178, 3) := by decide +kernel
theorem q_57_178 : js_I 57 178 = some (.return_, 1) := by decide +kernel
theorem q_58_0 : js_I 58 0 = some (.iload_n 1, 1) := by decide +kernel
theorem q_58_1 : js_I 58 1 = some (.ifCond .ne 5, 3) := by decide +kernel
theorem q_58_4 : js_I 58 4 = some (.iload_n 2, 1) := by decide +kernel
theorem q_58_5 : js_I 58 5 = some (.ireturn, 1) := by decide +kernel
theorem q_58_6 : js_I 58 6 = some (.iload_n 1, 1) := by decide +kernel
theorem q_58_7 : js_I 58 7 = some (.iconst 3, 1) := by decide +kernel
theorem q_58_8 : js_I 58 8 = some (.isub, 1) := by decide +kernel
theorem q_58_9 : js_I 58 9 = some (.istore_n 3, 1) := by decide +kernel
theorem q_58_10 : js_I 58 10 = some (.iload_n 3, 1) := by decide +kernel
theorem q_58_11 : js_I 58 11 = some (.ifCond .lt 32, 3) := by decide +kernel
theorem q_58_43 : js_I 58 43 = some (.iconst 1, 1) := by decide +kernel
theorem q_58_44 : js_I 58 44 = some (.ireturn, 1) := by decide +kernel
theorem q_58_14 : js_I 58 14 = some (.iload_n 3, 1) := by decide +kernel
theorem q_58_15 : js_I 58 15 = some (.aload_n 0, 1) := by decide +kernel
theorem q_58_16 : js_I 58 16 = some (.getfield 31, 3) := by decide +kernel
theorem q_58_19 : js_I 58 19 = some (.if_icmp .ge 24, 3) := by decide +kernel
theorem q_58_22 : js_I 58 22 = some (.aload_n 0, 1) := by decide +kernel
theorem q_58_23 : js_I 58 23 = some (.getfield 20, 3) := by decide +kernel
theorem q_58_26 : js_I 58 26 = some (.iload_n 3, 1) := by decide +kernel
theorem q_58_27 : js_I 58 27 = some (.aaload, 1) := by decide +kernel
theorem q_58_28 : js_I 58 28 = some (.ifnull 15, 3) := by decide +kernel
theorem q_58_31 : js_I 58 31 = some (.aload_n 0, 1) := by decide +kernel
theorem q_58_32 : js_I 58 32 = some (.getfield 20, 3) := by decide +kernel
theorem q_58_35 : js_I 58 35 = some (.iload_n 3, 1) := by decide +kernel
theorem q_58_36 : js_I 58 36 = some (.aaload, 1) := by decide +kernel
theorem q_58_37 : js_I 58 37 = some (.getfield 72, 3) := by decide +kernel
theorem q_58_40 : js_I 58 40 = some (.goto 4, 3) := by decide +kernel
theorem q_59_0 : js_I 59 0 = some (.aload_n 0, 1) := by decide +kernel
theorem q_59_1 : js_I 59 1 = some (.iload_n 1, 1) := by decide +kernel
theorem q_59_2 : js_I 59 2 = some (.iload_n 2, 1) := by decide +kernel
theorem q_59_3 : js_I 59 3 = some (.iconst 0, 1) := by decide +kernel
theorem q_59_4 : js_I 59 4 = some (.iload_n 3, 1) := by decide +kernel
theorem q_59_5 : js_I 59 5 = some (.iload 4, 2) := by decide +kernel
theorem q_59_7 : js_I 59 7 = some (.iconst 0, 1) := by decide +kernel
theorem q_59_8 : js_I 59 8 = some (.invokevirtual 74, 3) := by decide +kernel
theorem q_59_11 : js_I 59 11 = some (.return_, 1) := by decide +kernel
theorem q_60_0 : js_I 60 0 = some (.aload_n 0, 1) := by decide +kernel
theorem q_60_1 : js_I 60 1 = some (.getfield 42, 3) := by decide +kernel
theorem q_60_4 : js_I 60 4 = some (.istore 7, 2) := by decide +kernel
theorem q_60_6 : js_I 60 6 = some (.iload 7, 2) := by decide +kernel
theorem q_60_8 : js_I 60 8 = some (.aload_n 0, 1) := by decide +kernel
theorem q_60_9 : js_I 60 9 = some (.getfield 9, 3) := by decide +kernel
theorem q_60_12 : js_I 60 12 = some (.arraylength, 1) := by decide +kernel
theorem q_60_13 : js_I 60 13 = some (.if_icmp .ge 54, 3) := by decide +kernel
theorem q_60_16 : js_I 60 16 = some (.aload_n 0, 1) := by decide +kernel
theorem q_60_17 : js_I 60 17 = some (.getfield 9, 3) := by decide +kernel
theorem q_60_20 : js_I 60 20 = some (.iload 7, 2) := by decide +kernel
theorem q_60_22 : js_I 60 22 = some (.iload_n 1, 1) := by decide +kernel
theorem q_60_23 : js_I 60 23 = some (.iastore, 1) := by decide +kernel
theorem q_60_24 : js_I 60 24 = some (.aload_n 0, 1) := by decide +kernel
theorem q_60_25 : js_I 60 25 = some (.getfield 15, 3) := by decide +kernel
theorem q_60_28 : js_I 60 28 = some (.iload 7, 2) := by decide +kernel
theorem q_60_30 : js_I 60 30 = some (.iload_n 2, 1) := by decide +kernel
theorem q_60_31 : js_I 60 31 = some (.iastore, 1) := by decide +kernel
theorem q_60_32 : js_I 60 32 = some (.aload_n 0, 1) := by decide +kernel
theorem q_60_33 : js_I 60 33 = some (.getfield 18, 3) := by decide +kernel
theorem q_60_36 : js_I 60 36 = some (.iload 7, 2) := by decide +kernel
theorem q_60_38 : js_I 60 38 = some (.iload_n 3, 1) := by decide +kernel
theorem q_60_39 : js_I 60 39 = some (.iastore, 1) := by decide +kernel
theorem q_60_40 : js_I 60 40 = some (.aload_n 0, 1) := by decide +kernel
theorem q_60_41 : js_I 60 41 = some (.getfield 21, 3) := by decide +kernel
theorem q_60_44 : js_I 60 44 = some (.iload 7, 2) := by decide +kernel
theorem q_60_46 : js_I 60 46 = some (.iload 4, 2) := by decide +kernel
theorem q_60_48 : js_I 60 48 = some (.iastore, 1) := by decide +kernel
theorem q_60_49 : js_I 60 49 = some (.aload_n 0, 1) := by decide +kernel
theorem q_60_50 : js_I 60 50 = some (.getfield 24, 3) := by decide +kernel
theorem q_60_53 : js_I 60 53 = some (.iload 7, 2) := by decide +kernel
theorem q_60_55 : js_I 60 55 = some (.iload 5, 2) := by decide +kernel
theorem q_60_57 : js_I 60 57 = some (.iastore, 1) := by decide +kernel
theorem q_60_58 : js_I 60 58 = some (.aload_n 0, 1) := by decide +kernel
theorem q_60_59 : js_I 60 59 = some (.getfield 27, 3) := by decide +kernel
theorem q_60_62 : js_I 60 62 = some (.iload 7, 2) := by decide +kernel
theorem q_60_64 : js_I 60 64 = some (.iload 6, 2) := by decide +kernel
theorem q_60_66 : js_I 60 66 = some (.iastore, 1) := by decide +kernel
theorem q_60_67 : js_I 60 67 = some (.aload_n 0, 1) := by decide +kernel
theorem q_60_68 : js_I 60 68 = some (.dup, 1) := by decide +kernel
theorem q_60_69 : js_I 60 69 = some (.getfield 42, 3) := by decide +kernel
theorem q_60_72 : js_I 60 72 = some (.iconst 1, 1) := by decide +kernel
theorem q_60_73 : js_I 60 73 = some (.iadd, 1) := by decide +kernel
theorem q_60_74 : js_I 60 74 = some (.putfield 42, 3) := by decide +kernel
theorem q_60_77 : js_I 60 77 = some (.aload_n 0, 1) := by decide +kernel
theorem q_60_78 : js_I 60 78 = some (.ldc 67, 2) := by decide +kernel
theorem q_60_80 : js_I 60 80 = some (.aload_n 0, 1) := by decide +kernel
theorem q_60_81 : js_I 60 81 = some (.getfield 52, 3) := by decide +kernel
theorem q_60_84 : js_I 60 84 = some (.iconst 1, 1) := by decide +kernel
theorem q_60_85 : js_I 60 85 = some (.iadd, 1) := by decide +kernel
theorem q_60_86 : js_I 60 86 = some (.invokestatic 68, 3) := by decide +kernel
theorem q_60_89 : js_I 60 89 = some (.putfield 52, 3) := by decide +kernel
theorem q_60_92 : js_I 60 92 = some (.return_, 1) := by decide +kernel
theorem qf_2_75 : ip_lk (vt_FL.getD 2 []) 75 = some (11, 12) := by decide +kernel
theorem qf_2_79 : ip_lk (vt_FL.getD 2 []) 79 = some (11, 6) := by decide +kernel
theorem qf_2_68 : ip_lk (vt_FL.getD 2 []) 68 = some (11, 4) := by decide +kernel
theorem qf_2_65 : ip_lk (vt_FL.getD 2 []) 65 = some (11, 3) := by decide +kernel
theorem qf_4_83 : ip_lk (vt_FL.getD 4 []) 83 = some (7, 0) := by decide +kernel
theorem qf_4_87 : ip_lk (vt_FL.getD 4 []) 87 = some (1, 6) := by decide +kernel
theorem qf_4_172 : ip_lk (vt_FL.getD 4 []) 172 = some (10, 0) := by decide +kernel
theorem qf_4_184 : ip_lk (vt_FL.getD 4 []) 184 = some (11, 2) := by decide +kernel
theorem qf_4_106 : ip_lk (vt_FL.getD 4 []) 106 = some (1, 7) := by decide +kernel
theorem qf_4_185 : ip_lk (vt_FL.getD 4 []) 185 = some (11, 9) := by decide +kernel
theorem qf_4_186 : ip_lk (vt_FL.getD 4 []) 186 = some (1, 12) := by decide +kernel
theorem qf_4_189 : ip_lk (vt_FL.getD 4 []) 189 = some (11, 10) := by decide +kernel
theorem qf_10_132 : ip_lk (vt_FL.getD 10 []) 132 = some (11, 7) := by decide +kernel
theorem qf_10_25 : ip_lk (vt_FL.getD 10 []) 25 = some (10, 3) := by decide +kernel
theorem qf_10_133 : ip_lk (vt_FL.getD 10 []) 133 = some (1, 8) := by decide +kernel
theorem qf_10_136 : ip_lk (vt_FL.getD 10 []) 136 = some (11, 11) := by decide +kernel
theorem qf_10_137 : ip_lk (vt_FL.getD 10 []) 137 = some (1, 9) := by decide +kernel
theorem qf_10_140 : ip_lk (vt_FL.getD 10 []) 140 = some (11, 5) := by decide +kernel
theorem qf_10_143 : ip_lk (vt_FL.getD 10 []) 143 = some (11, 6) := by decide +kernel
theorem qf_10_9 : ip_lk (vt_FL.getD 10 []) 9 = some (10, 1) := by decide +kernel
theorem qf_10_53 : ip_lk (vt_FL.getD 10 []) 53 = some (8, 1) := by decide +kernel
theorem qf_10_65 : ip_lk (vt_FL.getD 10 []) 65 = some (11, 2) := by decide +kernel
theorem qf_10_70 : ip_lk (vt_FL.getD 10 []) 70 = some (11, 3) := by decide +kernel
theorem qf_10_73 : ip_lk (vt_FL.getD 10 []) 73 = some (11, 4) := by decide +kernel
theorem qf_10_15 : ip_lk (vt_FL.getD 10 []) 15 = some (10, 2) := by decide +kernel
theorem qf_10_110 : ip_lk (vt_FL.getD 10 []) 110 = some (8, 2) := by decide +kernel
theorem qf_10_117 : ip_lk (vt_FL.getD 10 []) 117 = some (11, 1) := by decide +kernel
theorem qf_10_26 : ip_lk (vt_FL.getD 10 []) 26 = some (10, 4) := by decide +kernel
theorem qf_10_160 : ip_lk (vt_FL.getD 10 []) 160 = some (11, 12) := by decide +kernel
theorem qf_10_178 : ip_lk (vt_FL.getD 10 []) 178 = some (11, 13) := by decide +kernel
theorem qf_7_72 : ip_lk (vt_FL.getD 7 []) 72 = some (11, 4) := by decide +kernel
theorem qf_1_9 : ip_lk (vt_FL.getD 1 []) 9 = some (1, 0) := by decide +kernel
theorem qf_1_15 : ip_lk (vt_FL.getD 1 []) 15 = some (1, 1) := by decide +kernel
theorem qf_1_18 : ip_lk (vt_FL.getD 1 []) 18 = some (1, 2) := by decide +kernel
theorem qf_1_21 : ip_lk (vt_FL.getD 1 []) 21 = some (1, 3) := by decide +kernel
theorem qf_1_24 : ip_lk (vt_FL.getD 1 []) 24 = some (1, 4) := by decide +kernel
theorem qf_1_27 : ip_lk (vt_FL.getD 1 []) 27 = some (1, 5) := by decide +kernel
theorem qm_2_71 : ip_lk (vt_ML.getD 2 []) 71 = some (47, 1, 1, 8) := by decide +kernel
theorem qm_2_61 : ip_lk (vt_ML.getD 2 []) 61 = some (41, 1, 1, 2) := by decide +kernel
theorem qm_2_82 : ip_lk (vt_ML.getD 2 []) 82 = some (48, 1, 1, 8) := by decide +kernel
theorem qm_2_85 : ip_lk (vt_ML.getD 2 []) 85 = some (43, 3, 1, 11) := by decide +kernel
theorem qm_2_89 : ip_lk (vt_ML.getD 2 []) 89 = some (40, 1, 1, 8) := by decide +kernel
theorem qm_2_92 : ip_lk (vt_ML.getD 2 []) 92 = some (50, 1, 1, 2) := by decide +kernel
theorem qm_4_175 : ip_lk (vt_ML.getD 4 []) 175 = some (47, 1, 1, 8) := by decide +kernel
theorem qm_4_178 : ip_lk (vt_ML.getD 4 []) 178 = some (53, 1, 1, 4) := by decide +kernel
theorem qm_4_181 : ip_lk (vt_ML.getD 4 []) 181 = some (48, 1, 1, 8) := by decide +kernel
theorem qm_4_98 : ip_lk (vt_ML.getD 4 []) 98 = some (55, 2, 1, 10) := by decide +kernel
theorem qm_4_102 : ip_lk (vt_ML.getD 4 []) 102 = some (95, 2, 1, 1) := by decide +kernel
theorem qm_4_110 : ip_lk (vt_ML.getD 4 []) 110 = some (111, 0, 1, 1) := by decide +kernel
theorem qm_4_192 : ip_lk (vt_ML.getD 4 []) 192 = some (54, 1, 1, 10) := by decide +kernel
theorem qm_10_46 : ip_lk (vt_ML.getD 10 []) 46 = some (47, 1, 1, 8) := by decide +kernel
theorem qm_10_56 : ip_lk (vt_ML.getD 10 []) 56 = some (56, 0, 1, 10) := by decide +kernel
theorem qm_10_59 : ip_lk (vt_ML.getD 10 []) 59 = some (40, 1, 1, 8) := by decide +kernel
theorem qm_10_62 : ip_lk (vt_ML.getD 10 []) 62 = some (61, 0, 1, 5) := by decide +kernel
theorem qm_10_76 : ip_lk (vt_ML.getD 10 []) 76 = some (68, 3, 1, 5) := by decide +kernel
theorem qm_10_80 : ip_lk (vt_ML.getD 10 []) 80 = some (48, 1, 1, 8) := by decide +kernel
theorem qm_10_83 : ip_lk (vt_ML.getD 10 []) 83 = some (110, 1, 1, 7) := by decide +kernel
theorem qm_10_86 : ip_lk (vt_ML.getD 10 []) 86 = some (57, 0, 1, 10) := by decide +kernel
theorem qm_10_89 : ip_lk (vt_ML.getD 10 []) 89 = some (33, 0, 1, 8) := by decide +kernel
theorem qm_10_92 : ip_lk (vt_ML.getD 10 []) 92 = some (98, 0, 1, 10) := by decide +kernel
theorem qm_10_95 : ip_lk (vt_ML.getD 10 []) 95 = some (95, 2, 1, 1) := by decide +kernel
theorem qm_10_101 : ip_lk (vt_ML.getD 10 []) 101 = some (99, 0, 1, 10) := by decide +kernel
theorem qm_10_104 : ip_lk (vt_ML.getD 10 []) 104 = some (104, 0, 1, 10) := by decide +kernel
theorem qm_10_107 : ip_lk (vt_ML.getD 10 []) 107 = some (105, 0, 1, 10) := by decide +kernel
theorem qm_10_113 : ip_lk (vt_ML.getD 10 []) 113 = some (106, 0, 1, 10) := by decide +kernel
theorem qm_10_120 : ip_lk (vt_ML.getD 10 []) 120 = some (66, 2, 1, 5) := by decide +kernel
theorem qm_10_124 : ip_lk (vt_ML.getD 10 []) 124 = some (108, 1, 1, 10) := by decide +kernel
theorem qm_10_128 : ip_lk (vt_ML.getD 10 []) 128 = some (36, 2, 1, 8) := by decide +kernel
theorem qm_10_146 : ip_lk (vt_ML.getD 10 []) 146 = some (35, 3, 1, 7) := by decide +kernel
theorem qm_10_150 : ip_lk (vt_ML.getD 10 []) 150 = some (46, 1, 1, 2) := by decide +kernel
theorem qm_10_155 : ip_lk (vt_ML.getD 10 []) 155 = some (49, 1, 1, 2) := by decide +kernel
theorem qm_10_158 : ip_lk (vt_ML.getD 10 []) 158 = some (54, 1, 1, 10) := by decide +kernel
theorem qm_10_164 : ip_lk (vt_ML.getD 10 []) 164 = some (51, 1, 1, 2) := by decide +kernel
theorem qm_10_168 : ip_lk (vt_ML.getD 10 []) 168 = some (58, 2, 1, 7) := by decide +kernel
theorem qm_10_171 : ip_lk (vt_ML.getD 10 []) 171 = some (59, 4, 1, 1) := by decide +kernel
theorem qm_10_175 : ip_lk (vt_ML.getD 10 []) 175 = some (97, 2, 1, 1) := by decide +kernel
theorem qm_1_74 : ip_lk (vt_ML.getD 1 []) 74 = some (60, 6, 1, 1) := by decide +kernel
theorem qm_1_68 : ip_lk (vt_ML.getD 1 []) 68 = some (0, 2, 4, 0) := by decide +kernel
theorem qc_10_52 : ip_lk (vt_CL.getD 10 []) 52 = some (js_V (0, 1000000)) := by decide +kernel
theorem qc_1_67 : ip_lk (vt_CL.getD 1 []) 67 = some (js_V (0, 400000)) := by decide +kernel
theorem ww_215 : js_w 215 = 215 := by decide +kernel
theorem ww_213 : js_w 213 = 213 := by decide +kernel
-- 46: VitalTwin$Constants.readLength (LVitalTwin$Symbol;)V
theorem b_46_0 {E : js_E} {d : Nat} {σ : js_S} {x1 b : Int} (hb : b = 0 ∨ b = 25) : js_J E d 46 0 [(2, 21 + b), (2, x1)] [] σ = (if js_w (σ 1 1) = 91 then js_J E d 46 19 [(2, 21 + b), (2, x1)] [(0, 91), (2, 1)] σ else js_r0 E σ) :=
  (j_aload_n q_46_0 rfl).trans <| (j_get (ji := 3) (v := (2, 1)) q_46_1 (js_Fo qy_46 qf_2_9) (js_o21b hb) rfl rfl rfl rfl).trans <| (j_get (ji := 1) (v := (0, σ 1 1)) q_46_4 (js_Fo qy_46 qf_2_28) js_o1 rfl rfl rfl rfl).trans <| (j_bi q_46_7 rfl).trans <| (j_cmpeqB (t := 13) q_46_9 rfl ww_91).trans (js_ite ((j_aload_n q_46_13 rfl).trans <| (j_get (ji := 3) (v := (2, 1)) q_46_14 (js_Fo qy_46 qf_2_9) (js_o21b hb) rfl rfl rfl rfl).trans <| (j_bi q_46_17 rfl).trans <| rfl) (j_return q_46_12 qr_46))
theorem k_46_19 {E : js_E} {d : Nat} {σ σ2 : js_S} {x1 z1 b : Int} (hd : 1 ≤ d) (hz : js_J E (d - 1) 47 0 [(2, 1), (0, z1)] [] σ = js_r0 E σ2) : js_J E d 46 19 [(2, 21 + b), (2, x1)] [(0, z1), (2, 1)] σ = js_J E d 46 22 [(2, 21 + b), (2, x1)] [] σ2 :=
  j_call0 (m := 0) (js_caV q_46_19 (js_Mo qy_46 qm_2_71)) (js_agV (av := [(0, z1)]) (st := []) rfl rfl js_o1 rfl) rfl rfl (by rw [ql_47]; exact Nat.le_of_ble_eq_true rfl) (Nat.le_of_ble_eq_true rfl) hd hz
theorem kt_46_19 {E : js_E} {d : Nat} {σ σ2 : js_S} {x1 z1 b : Int} {w : Int} (hd : 1 ≤ d) (hz : js_J E (d - 1) 47 0 [(2, 1), (0, z1)] [] σ = js_t E w σ2) : js_J E d 46 19 [(2, 21 + b), (2, x1)] [(0, z1), (2, 1)] σ = js_t E w σ2 :=
  j_callT (m := 0) (js_caV q_46_19 (js_Mo qy_46 qm_2_71)) (js_agV (av := [(0, z1)]) (st := []) rfl rfl js_o1 rfl) rfl rfl (by rw [ql_47]; exact Nat.le_of_ble_eq_true rfl) (Nat.le_of_ble_eq_true rfl) hd rfl hz
theorem b_46_22 {E : js_E} {d : Nat} {σ : js_S} {x1 b : Int} (hs_x1 : js_desc E.1 σ x1 = some (0, 11, js_sym)) : js_J E d 46 22 [(2, 21 + b), (2, x1)] [] σ = js_J E d 46 30 [(2, 21 + b), (2, x1)] [(0, 0), (2, 21 + b), (2, x1)] (js_up σ x1 12 1) :=
  (j_aload_n q_46_22 rfl).trans <| (j_iconst q_46_23).trans <| (j_putB1 (ji := 12) q_46_24 (js_Fo qy_46 qf_2_75) rfl hs_x1 rfl rfl rfl).trans <| (j_aload_n q_46_27 rfl).trans <| (j_aload_n q_46_28 rfl).trans <| (j_iconst q_46_29).trans <| rfl
theorem k_46_30 {E : js_E} {d : Nat} {σ σ2 : js_S} {x1 z0 z2 b : Int} (hb : b = 0 ∨ b = 25) {v : Int} (hd : 1 ≤ d) (hz : js_J E (d - 1) 41 0 [(2, 21 + b), (0, z2), (9, 0), (9, 0), (9, 0)] [] σ = js_r E (0, v) σ2) : js_J E d 46 30 [(2, 21 + b), (2, x1)] [(0, z2), (2, 21 + b), (2, z0)] σ = js_J E d 46 33 [(2, 21 + b), (2, x1)] [(0, v), (2, z0)] σ2 :=
  j_call (m := 3) (js_caV q_46_30 (js_Mo qy_46 qm_2_61)) (js_agV (av := [(0, z2)]) (st := [(2, z0)]) rfl rfl (js_o21b hb) rfl) rfl rfl (by rw [ql_41]; exact Nat.le_of_ble_eq_true rfl) (Nat.le_of_ble_eq_true rfl) hd hz
theorem kt_46_30 {E : js_E} {d : Nat} {σ σ2 : js_S} {x1 z0 z2 b : Int} (hb : b = 0 ∨ b = 25) {w : Int} (hd : 1 ≤ d) (hz : js_J E (d - 1) 41 0 [(2, 21 + b), (0, z2), (9, 0), (9, 0), (9, 0)] [] σ = js_t E w σ2) : js_J E d 46 30 [(2, 21 + b), (2, x1)] [(0, z2), (2, 21 + b), (2, z0)] σ = js_t E w σ2 :=
  j_callT (m := 3) (js_caV q_46_30 (js_Mo qy_46 qm_2_61)) (js_agV (av := [(0, z2)]) (st := [(2, z0)]) rfl rfl (js_o21b hb) rfl) rfl rfl (by rw [ql_41]; exact Nat.le_of_ble_eq_true rfl) (Nat.le_of_ble_eq_true rfl) hd rfl hz
theorem b_46_33 {E : js_E} {d : Nat} {σ : js_S} {x1 z0 z1 b : Int} (hs_z0 : js_desc E.1 σ z0 = some (0, 11, js_sym)) (hs_x1 : js_desc E.1 σ x1 = some (0, 11, js_sym)) : js_J E d 46 33 [(2, 21 + b), (2, x1)] [(0, z1), (2, z0)] σ = (if js_w ((js_up σ z0 6 z1) x1 6) < 1 then js_J E d 46 54 [(2, 21 + b), (2, x1)] [] (js_up σ z0 6 z1) else (if 4096 < js_w ((js_up σ z0 6 z1) x1 6) then js_J E d 46 54 [(2, 21 + b), (2, x1)] [] (js_up σ z0 6 z1) else js_J E d 46 66 [(2, 21 + b), (2, x1)] [] (js_up σ z0 6 z1))) :=
  (j_putI (ji := 6) q_46_33 (js_Fo qy_46 qf_2_79) rfl hs_z0 rfl rfl rfl).trans <| (j_aload_n q_46_36 rfl).trans <| (j_get (ji := 6) (v := (0, (js_up σ z0 6 z1) x1 6)) q_46_37 (js_Fo qy_46 qf_2_79) (js_ds hs_x1 (js_desc_nn hs_z0) (fun _ => by decide)) rfl rfl rfl rfl).trans <| (j_iconst q_46_40).trans <| (j_cmpltB (t := 54) q_46_41 rfl ww_1).trans (js_ite (rfl) ((j_aload_n q_46_44 rfl).trans <| (j_get (ji := 6) (v := (0, (js_up σ z0 6 z1) x1 6)) q_46_45 (js_Fo qy_46 qf_2_79) (js_ds hs_x1 (js_desc_nn hs_z0) (fun _ => by decide)) rfl rfl rfl rfl).trans <| (j_si q_46_48 rfl).trans <| (j_cmpleB (t := 66) q_46_51 rfl ww_4096).trans (js_ite (rfl) (rfl))))
theorem b_46_54 {E : js_E} {d : Nat} {σ : js_S} {x1 b : Int} (hb : b = 0 ∨ b = 25) : js_J E d 46 54 [(2, 21 + b), (2, x1)] [] σ = js_J E d 46 63 [(2, 21 + b), (2, x1)] [(0, σ (21 + b) 2), (0, 4), (2, 1)] σ :=
  (j_aload_n q_46_54 rfl).trans <| (j_get (ji := 3) (v := (2, 1)) q_46_55 (js_Fo qy_46 qf_2_9) (js_o21b hb) rfl rfl rfl rfl).trans <| (j_iconst q_46_58).trans <| (j_aload_n q_46_59 rfl).trans <| (j_get (ji := 2) (v := (0, σ (21 + b) 2)) q_46_60 (js_Fo qy_46 qf_2_25) (js_o21b hb) rfl rfl rfl rfl).trans <| rfl
theorem k_46_63 {E : js_E} {d : Nat} {σ σ2 : js_S} {x1 z1 z2 b : Int} (hd : 1 ≤ d) (hz : js_J E (d - 1) 36 0 [(2, 1), (0, z1), (0, z2)] [] σ = js_r0 E σ2) : js_J E d 46 63 [(2, 21 + b), (2, x1)] [(0, z2), (0, z1), (2, 1)] σ = js_J E d 46 66 [(2, 21 + b), (2, x1)] [] σ2 :=
  j_call0 (m := 0) (js_caV q_46_63 (js_Mo qy_46 qm_2_55)) (js_agV (av := [(0, z1), (0, z2)]) (st := []) rfl rfl js_o1 rfl) rfl rfl (by rw [ql_36]; exact Nat.le_of_ble_eq_true rfl) (Nat.le_of_ble_eq_true rfl) hd hz
theorem kt_46_63 {E : js_E} {d : Nat} {σ σ2 : js_S} {x1 z1 z2 b : Int} {w : Int} (hd : 1 ≤ d) (hz : js_J E (d - 1) 36 0 [(2, 1), (0, z1), (0, z2)] [] σ = js_t E w σ2) : js_J E d 46 63 [(2, 21 + b), (2, x1)] [(0, z2), (0, z1), (2, 1)] σ = js_t E w σ2 :=
  j_callT (m := 0) (js_caV q_46_63 (js_Mo qy_46 qm_2_55)) (js_agV (av := [(0, z1), (0, z2)]) (st := []) rfl rfl js_o1 rfl) rfl rfl (by rw [ql_36]; exact Nat.le_of_ble_eq_true rfl) (Nat.le_of_ble_eq_true rfl) hd rfl hz
theorem b_46_66 {E : js_E} {d : Nat} {σ : js_S} {x1 b : Int} (hb : b = 0 ∨ b = 25) : js_J E d 46 66 [(2, 21 + b), (2, x1)] [] σ = js_J E d 46 72 [(2, 21 + b), (2, x1)] [(0, 93), (2, 1)] σ :=
  (j_aload_n q_46_66 rfl).trans <| (j_get (ji := 3) (v := (2, 1)) q_46_67 (js_Fo qy_46 qf_2_9) (js_o21b hb) rfl rfl rfl rfl).trans <| (j_bi q_46_70 rfl).trans <| rfl
theorem k_46_72 {E : js_E} {d : Nat} {σ σ2 : js_S} {x1 z1 b : Int} (hd : 1 ≤ d) (hz : js_J E (d - 1) 48 0 [(2, 1), (0, z1)] [] σ = js_r0 E σ2) : js_J E d 46 72 [(2, 21 + b), (2, x1)] [(0, z1), (2, 1)] σ = js_J E d 46 75 [(2, 21 + b), (2, x1)] [] σ2 :=
  j_call0 (m := 0) (js_caV q_46_72 (js_Mo qy_46 qm_2_82)) (js_agV (av := [(0, z1)]) (st := []) rfl rfl js_o1 rfl) rfl rfl (by rw [ql_48]; exact Nat.le_of_ble_eq_true rfl) (Nat.le_of_ble_eq_true rfl) hd hz
theorem kt_46_72 {E : js_E} {d : Nat} {σ σ2 : js_S} {x1 z1 b : Int} {w : Int} (hd : 1 ≤ d) (hz : js_J E (d - 1) 48 0 [(2, 1), (0, z1)] [] σ = js_t E w σ2) : js_J E d 46 72 [(2, 21 + b), (2, x1)] [(0, z1), (2, 1)] σ = js_t E w σ2 :=
  j_callT (m := 0) (js_caV q_46_72 (js_Mo qy_46 qm_2_82)) (js_agV (av := [(0, z1)]) (st := []) rfl rfl js_o1 rfl) rfl rfl (by rw [ql_48]; exact Nat.le_of_ble_eq_true rfl) (Nat.le_of_ble_eq_true rfl) hd rfl hz
theorem b_46_75 {E : js_E} {d : Nat} {σ : js_S} {x1 b : Int} : js_J E d 46 75 [(2, 21 + b), (2, x1)] [] σ = js_r0 E σ :=
  j_return q_46_75 qr_46
-- 47: VitalTwin$Reader.open (I)V
theorem b_47_0 {E : js_E} {d : Nat} {σ : js_S} {x1 : Int} : js_J E d 47 0 [(2, 1), (0, x1)] [] σ = (if js_w (σ 1 1) = js_w x1 then js_J E d 47 17 [(2, 1), (0, x1)] [] σ else js_J E d 47 14 [(2, 1), (0, x1)] [(0, σ 1 2), (0, 1), (2, 1)] σ) :=
  (j_aload_n q_47_0 rfl).trans <| (j_get (ji := 1) (v := (0, σ 1 1)) q_47_1 (js_Fo qy_47 qf_8_131) js_o1 rfl rfl rfl rfl).trans <| (j_iload_n q_47_4 rfl).trans <| (j_cmpeq (t := 17) q_47_5 rfl).trans (js_ite (rfl) ((j_aload_n q_47_8 rfl).trans <| (j_iconst q_47_9).trans <| (j_aload_n q_47_10 rfl).trans <| (j_get (ji := 2) (v := (0, σ 1 2)) q_47_11 (js_Fo qy_47 qf_8_134) js_o1 rfl rfl rfl rfl).trans <| rfl))
theorem k_47_14 {E : js_E} {d : Nat} {σ σ2 : js_S} {x1 z1 z2 : Int} (hd : 1 ≤ d) (hz : js_J E (d - 1) 36 0 [(2, 1), (0, z1), (0, z2)] [] σ = js_r0 E σ2) : js_J E d 47 14 [(2, 1), (0, x1)] [(0, z2), (0, z1), (2, 1)] σ = js_J E d 47 17 [(2, 1), (0, x1)] [] σ2 :=
  j_call0 (m := 0) (js_caV q_47_14 (js_Mo qy_47 qm_8_144)) (js_agV (av := [(0, z1), (0, z2)]) (st := []) rfl rfl js_o1 rfl) rfl rfl (by rw [ql_36]; exact Nat.le_of_ble_eq_true rfl) (Nat.le_of_ble_eq_true rfl) hd hz
theorem kt_47_14 {E : js_E} {d : Nat} {σ σ2 : js_S} {x1 z1 z2 : Int} {w : Int} (hd : 1 ≤ d) (hz : js_J E (d - 1) 36 0 [(2, 1), (0, z1), (0, z2)] [] σ = js_t E w σ2) : js_J E d 47 14 [(2, 1), (0, x1)] [(0, z2), (0, z1), (2, 1)] σ = js_t E w σ2 :=
  j_callT (m := 0) (js_caV q_47_14 (js_Mo qy_47 qm_8_144)) (js_agV (av := [(0, z1), (0, z2)]) (st := []) rfl rfl js_o1 rfl) rfl rfl (by rw [ql_36]; exact Nat.le_of_ble_eq_true rfl) (Nat.le_of_ble_eq_true rfl) hd rfl hz
theorem b_47_17 {E : js_E} {d : Nat} {σ : js_S} {x1 : Int} : js_J E d 47 17 [(2, 1), (0, x1)] [] σ = (if js_w (σ 1 5) < 64 then js_J E d 47 36 [(2, 1), (0, x1)] [] σ else js_J E d 47 33 [(2, 1), (0, x1)] [(0, σ 1 2), (0, 10), (2, 1)] σ) :=
  (j_aload_n q_47_17 rfl).trans <| (j_get (ji := 5) (v := (0, σ 1 5)) q_47_18 (js_Fo qy_47 qf_8_68) js_o1 rfl rfl rfl rfl).trans <| (j_bi q_47_21 rfl).trans <| (j_cmpltB (t := 36) q_47_23 rfl ww_64).trans (js_ite (rfl) ((j_aload_n q_47_26 rfl).trans <| (j_bi q_47_27 rfl).trans <| (j_aload_n q_47_29 rfl).trans <| (j_get (ji := 2) (v := (0, σ 1 2)) q_47_30 (js_Fo qy_47 qf_8_134) js_o1 rfl rfl rfl rfl).trans <| rfl))
theorem k_47_33 {E : js_E} {d : Nat} {σ σ2 : js_S} {x1 z1 z2 : Int} (hd : 1 ≤ d) (hz : js_J E (d - 1) 36 0 [(2, 1), (0, z1), (0, z2)] [] σ = js_r0 E σ2) : js_J E d 47 33 [(2, 1), (0, x1)] [(0, z2), (0, z1), (2, 1)] σ = js_J E d 47 36 [(2, 1), (0, x1)] [] σ2 :=
  j_call0 (m := 0) (js_caV q_47_33 (js_Mo qy_47 qm_8_144)) (js_agV (av := [(0, z1), (0, z2)]) (st := []) rfl rfl js_o1 rfl) rfl rfl (by rw [ql_36]; exact Nat.le_of_ble_eq_true rfl) (Nat.le_of_ble_eq_true rfl) hd hz
theorem kt_47_33 {E : js_E} {d : Nat} {σ σ2 : js_S} {x1 z1 z2 : Int} {w : Int} (hd : 1 ≤ d) (hz : js_J E (d - 1) 36 0 [(2, 1), (0, z1), (0, z2)] [] σ = js_t E w σ2) : js_J E d 47 33 [(2, 1), (0, x1)] [(0, z2), (0, z1), (2, 1)] σ = js_t E w σ2 :=
  j_callT (m := 0) (js_caV q_47_33 (js_Mo qy_47 qm_8_144)) (js_agV (av := [(0, z1), (0, z2)]) (st := []) rfl rfl js_o1 rfl) rfl rfl (by rw [ql_36]; exact Nat.le_of_ble_eq_true rfl) (Nat.le_of_ble_eq_true rfl) hd rfl hz
theorem b_47_36 {E : js_E} {d : Nat} {σ : js_S} {x1 : Int} : js_J E d 47 36 [(2, 1), (0, x1)] [] σ = js_J E d 47 47 [(2, 1), (0, x1)] [(2, 1)] (js_up σ 1 5 ((σ 1 5) + 1)) :=
  (j_aload_n q_47_36 rfl).trans <| (j_dupr q_47_37).trans <| (j_get (ji := 5) (v := (0, σ 1 5)) q_47_38 (js_Fo qy_47 qf_8_68) js_o1 rfl rfl rfl rfl).trans <| (j_iconst q_47_41).trans <| (j_iadd q_47_42).trans <| (j_putI (ji := 5) q_47_43 (js_Fo qy_47 qf_8_68) rfl js_o1 rfl rfl rfl).trans <| (j_aload_n q_47_46 rfl).trans <| rfl
theorem k_47_47 {E : js_E} {d : Nat} {σ σ2 : js_S} {x1 : Int} (hd : 1 ≤ d) (hz : js_J E (d - 1) 33 0 [(2, 1), (9, 0)] [] σ = js_r0 E σ2) : js_J E d 47 47 [(2, 1), (0, x1)] [(2, 1)] σ = js_J E d 47 50 [(2, 1), (0, x1)] [] σ2 :=
  j_call0 (m := 1) (js_caV q_47_47 (js_Mo qy_47 qm_8_77)) (js_agV (av := []) (st := []) rfl rfl js_o1 rfl) rfl rfl (by rw [ql_33]; exact Nat.le_of_ble_eq_true rfl) (Nat.le_of_ble_eq_true rfl) hd hz
theorem kt_47_47 {E : js_E} {d : Nat} {σ σ2 : js_S} {x1 : Int} {w : Int} (hd : 1 ≤ d) (hz : js_J E (d - 1) 33 0 [(2, 1), (9, 0)] [] σ = js_t E w σ2) : js_J E d 47 47 [(2, 1), (0, x1)] [(2, 1)] σ = js_t E w σ2 :=
  j_callT (m := 1) (js_caV q_47_47 (js_Mo qy_47 qm_8_77)) (js_agV (av := []) (st := []) rfl rfl js_o1 rfl) rfl rfl (by rw [ql_33]; exact Nat.le_of_ble_eq_true rfl) (Nat.le_of_ble_eq_true rfl) hd rfl hz
theorem b_47_50 {E : js_E} {d : Nat} {σ : js_S} {x1 : Int} : js_J E d 47 50 [(2, 1), (0, x1)] [] σ = js_r0 E σ :=
  j_return q_47_50 qr_47
-- 48: VitalTwin$Reader.close (I)V
theorem b_48_0 {E : js_E} {d : Nat} {σ : js_S} {x1 : Int} : js_J E d 48 0 [(2, 1), (0, x1)] [] σ = (if js_w (σ 1 1) = js_w x1 then js_J E d 48 17 [(2, 1), (0, x1)] [] σ else js_J E d 48 14 [(2, 1), (0, x1)] [(0, σ 1 2), (0, 1), (2, 1)] σ) :=
  (j_aload_n q_48_0 rfl).trans <| (j_get (ji := 1) (v := (0, σ 1 1)) q_48_1 (js_Fo qy_48 qf_8_131) js_o1 rfl rfl rfl rfl).trans <| (j_iload_n q_48_4 rfl).trans <| (j_cmpeq (t := 17) q_48_5 rfl).trans (js_ite (rfl) ((j_aload_n q_48_8 rfl).trans <| (j_iconst q_48_9).trans <| (j_aload_n q_48_10 rfl).trans <| (j_get (ji := 2) (v := (0, σ 1 2)) q_48_11 (js_Fo qy_48 qf_8_134) js_o1 rfl rfl rfl rfl).trans <| rfl))
theorem k_48_14 {E : js_E} {d : Nat} {σ σ2 : js_S} {x1 z1 z2 : Int} (hd : 1 ≤ d) (hz : js_J E (d - 1) 36 0 [(2, 1), (0, z1), (0, z2)] [] σ = js_r0 E σ2) : js_J E d 48 14 [(2, 1), (0, x1)] [(0, z2), (0, z1), (2, 1)] σ = js_J E d 48 17 [(2, 1), (0, x1)] [] σ2 :=
  j_call0 (m := 0) (js_caV q_48_14 (js_Mo qy_48 qm_8_144)) (js_agV (av := [(0, z1), (0, z2)]) (st := []) rfl rfl js_o1 rfl) rfl rfl (by rw [ql_36]; exact Nat.le_of_ble_eq_true rfl) (Nat.le_of_ble_eq_true rfl) hd hz
theorem kt_48_14 {E : js_E} {d : Nat} {σ σ2 : js_S} {x1 z1 z2 : Int} {w : Int} (hd : 1 ≤ d) (hz : js_J E (d - 1) 36 0 [(2, 1), (0, z1), (0, z2)] [] σ = js_t E w σ2) : js_J E d 48 14 [(2, 1), (0, x1)] [(0, z2), (0, z1), (2, 1)] σ = js_t E w σ2 :=
  j_callT (m := 0) (js_caV q_48_14 (js_Mo qy_48 qm_8_144)) (js_agV (av := [(0, z1), (0, z2)]) (st := []) rfl rfl js_o1 rfl) rfl rfl (by rw [ql_36]; exact Nat.le_of_ble_eq_true rfl) (Nat.le_of_ble_eq_true rfl) hd rfl hz
theorem b_48_17 {E : js_E} {d : Nat} {σ : js_S} {x1 : Int} : js_J E d 48 17 [(2, 1), (0, x1)] [] σ = js_J E d 48 28 [(2, 1), (0, x1)] [(2, 1)] (js_up σ 1 5 ((σ 1 5) - 1)) :=
  (j_aload_n q_48_17 rfl).trans <| (j_dupr q_48_18).trans <| (j_get (ji := 5) (v := (0, σ 1 5)) q_48_19 (js_Fo qy_48 qf_8_68) js_o1 rfl rfl rfl rfl).trans <| (j_iconst q_48_22).trans <| (j_isub q_48_23).trans <| (j_putI (ji := 5) q_48_24 (js_Fo qy_48 qf_8_68) rfl js_o1 rfl rfl rfl).trans <| (j_aload_n q_48_27 rfl).trans <| rfl
theorem k_48_28 {E : js_E} {d : Nat} {σ σ2 : js_S} {x1 : Int} (hd : 1 ≤ d) (hz : js_J E (d - 1) 33 0 [(2, 1), (9, 0)] [] σ = js_r0 E σ2) : js_J E d 48 28 [(2, 1), (0, x1)] [(2, 1)] σ = js_J E d 48 31 [(2, 1), (0, x1)] [] σ2 :=
  j_call0 (m := 1) (js_caV q_48_28 (js_Mo qy_48 qm_8_77)) (js_agV (av := []) (st := []) rfl rfl js_o1 rfl) rfl rfl (by rw [ql_33]; exact Nat.le_of_ble_eq_true rfl) (Nat.le_of_ble_eq_true rfl) hd hz
theorem kt_48_28 {E : js_E} {d : Nat} {σ σ2 : js_S} {x1 : Int} {w : Int} (hd : 1 ≤ d) (hz : js_J E (d - 1) 33 0 [(2, 1), (9, 0)] [] σ = js_t E w σ2) : js_J E d 48 28 [(2, 1), (0, x1)] [(2, 1)] σ = js_t E w σ2 :=
  j_callT (m := 1) (js_caV q_48_28 (js_Mo qy_48 qm_8_77)) (js_agV (av := []) (st := []) rfl rfl js_o1 rfl) rfl rfl (by rw [ql_33]; exact Nat.le_of_ble_eq_true rfl) (Nat.le_of_ble_eq_true rfl) hd rfl hz
theorem b_48_31 {E : js_E} {d : Nat} {σ : js_S} {x1 : Int} : js_J E d 48 31 [(2, 1), (0, x1)] [] σ = js_r0 E σ :=
  j_return q_48_31 qr_48
-- 49: VitalTwin$Constants.readType (LVitalTwin$Symbol;)V
theorem b_49_0 {E : js_E} {d : Nat} {σ : js_S} {x1 b : Int} (hb : b = 0 ∨ b = 25) : js_J E d 49 0 [(2, 21 + b), (2, x1), (9, 0), (9, 0), (9, 0)] [] σ = (if js_w (σ 1 1) = 215 then js_J E d 49 17 [(2, 21 + b), (2, x1), (9, 0), (9, 0), (9, 0)] [(0, 1), (0, 0), (0, 1), (2, x1)] σ else (if js_w (σ 1 1) = 2 then js_J E d 49 47 [(2, 21 + b), (2, x1), (9, 0), (9, 0), (9, 0)] [(2, 1), (2, 7 + b)] σ else js_J E d 49 54 [(2, 21 + b), (2, x1), (9, 0), (9, 0), (9, 0)] [(2, (-1))] σ)) :=
  (j_aload_n q_49_0 rfl).trans <| (j_get (ji := 3) (v := (2, 1)) q_49_1 (js_Fo qy_49 qf_2_9) (js_o21b hb) rfl rfl rfl rfl).trans <| (j_get (ji := 1) (v := (0, σ 1 1)) q_49_4 (js_Fo qy_49 qf_2_28) js_o1 rfl rfl rfl rfl).trans <| (j_si q_49_7 rfl).trans <| (j_cmpneB (t := 28) q_49_10 rfl ww_215).trans (js_ite ((j_aload_n q_49_13 rfl).trans <| (j_iconst q_49_14).trans <| (j_iconst q_49_15).trans <| (j_iconst q_49_16).trans <| rfl) ((j_aload_n q_49_28 rfl).trans <| (j_get (ji := 3) (v := (2, 1)) q_49_29 (js_Fo qy_49 qf_2_9) (js_o21b hb) rfl rfl rfl rfl).trans <| (j_get (ji := 1) (v := (0, σ 1 1)) q_49_32 (js_Fo qy_49 qf_2_28) js_o1 rfl rfl rfl rfl).trans <| (j_iconst q_49_35).trans <| (j_cmpneB (t := 53) q_49_36 rfl ww_2).trans (js_ite ((j_aload_n q_49_39 rfl).trans <| (j_get (ji := 4) (v := (2, 7 + b)) q_49_40 (js_Fo qy_49 qf_2_15) (js_o21b hb) rfl rfl rfl rfl).trans <| (j_aload_n q_49_43 rfl).trans <| (j_get (ji := 3) (v := (2, 1)) q_49_44 (js_Fo qy_49 qf_2_9) (js_o21b hb) rfl rfl rfl rfl).trans <| rfl) ((j_null q_49_53).trans <| rfl))))
theorem k_49_17 {E : js_E} {d : Nat} {σ σ2 : js_S} {x1 z0 z1 z2 z3 b : Int} (hs_z0 : js_desc E.1 σ z0 = some (0, 11, js_sym)) (hd : 1 ≤ d) (hz : js_J E (d - 1) 43 0 [(2, z0), (0, z1), (0, z2), (0, z3)] [] σ = js_r0 E σ2) : js_J E d 49 17 [(2, 21 + b), (2, x1), (9, 0), (9, 0), (9, 0)] [(0, z3), (0, z2), (0, z1), (2, z0)] σ = js_J E d 49 20 [(2, 21 + b), (2, x1), (9, 0), (9, 0), (9, 0)] [] σ2 :=
  j_call0 (m := 0) (js_caV q_49_17 (js_Mo qy_49 qm_2_85)) (js_agV (av := [(0, z1), (0, z2), (0, z3)]) (st := []) rfl rfl hs_z0 rfl) rfl rfl (by rw [ql_43]; exact Nat.le_of_ble_eq_true rfl) (Nat.le_of_ble_eq_true rfl) hd hz
theorem kt_49_17 {E : js_E} {d : Nat} {σ σ2 : js_S} {x1 z0 z1 z2 z3 b : Int} (hs_z0 : js_desc E.1 σ z0 = some (0, 11, js_sym)) {w : Int} (hd : 1 ≤ d) (hz : js_J E (d - 1) 43 0 [(2, z0), (0, z1), (0, z2), (0, z3)] [] σ = js_t E w σ2) : js_J E d 49 17 [(2, 21 + b), (2, x1), (9, 0), (9, 0), (9, 0)] [(0, z3), (0, z2), (0, z1), (2, z0)] σ = js_t E w σ2 :=
  j_callT (m := 0) (js_caV q_49_17 (js_Mo qy_49 qm_2_85)) (js_agV (av := [(0, z1), (0, z2), (0, z3)]) (st := []) rfl rfl hs_z0 rfl) rfl rfl (by rw [ql_43]; exact Nat.le_of_ble_eq_true rfl) (Nat.le_of_ble_eq_true rfl) hd rfl hz
theorem b_49_20 {E : js_E} {d : Nat} {σ : js_S} {x1 b : Int} (hb : b = 0 ∨ b = 25) : js_J E d 49 20 [(2, 21 + b), (2, x1), (9, 0), (9, 0), (9, 0)] [] σ = js_J E d 49 24 [(2, 21 + b), (2, x1), (9, 0), (9, 0), (9, 0)] [(2, 1)] σ :=
  (j_aload_n q_49_20 rfl).trans <| (j_get (ji := 3) (v := (2, 1)) q_49_21 (js_Fo qy_49 qf_2_9) (js_o21b hb) rfl rfl rfl rfl).trans <| rfl
theorem k_49_24 {E : js_E} {d : Nat} {σ σ2 : js_S} {x1 b : Int} (hd : 1 ≤ d) (hz : js_J E (d - 1) 33 0 [(2, 1), (9, 0)] [] σ = js_r0 E σ2) : js_J E d 49 24 [(2, 21 + b), (2, x1), (9, 0), (9, 0), (9, 0)] [(2, 1)] σ = js_J E d 49 27 [(2, 21 + b), (2, x1), (9, 0), (9, 0), (9, 0)] [] σ2 :=
  j_call0 (m := 1) (js_caV q_49_24 (js_Mo qy_49 qm_2_31)) (js_agV (av := []) (st := []) rfl rfl js_o1 rfl) rfl rfl (by rw [ql_33]; exact Nat.le_of_ble_eq_true rfl) (Nat.le_of_ble_eq_true rfl) hd hz
theorem kt_49_24 {E : js_E} {d : Nat} {σ σ2 : js_S} {x1 b : Int} {w : Int} (hd : 1 ≤ d) (hz : js_J E (d - 1) 33 0 [(2, 1), (9, 0)] [] σ = js_t E w σ2) : js_J E d 49 24 [(2, 21 + b), (2, x1), (9, 0), (9, 0), (9, 0)] [(2, 1)] σ = js_t E w σ2 :=
  j_callT (m := 1) (js_caV q_49_24 (js_Mo qy_49 qm_2_31)) (js_agV (av := []) (st := []) rfl rfl js_o1 rfl) rfl rfl (by rw [ql_33]; exact Nat.le_of_ble_eq_true rfl) (Nat.le_of_ble_eq_true rfl) hd rfl hz
theorem b_49_27 {E : js_E} {d : Nat} {σ : js_S} {x1 b : Int} : js_J E d 49 27 [(2, 21 + b), (2, x1), (9, 0), (9, 0), (9, 0)] [] σ = js_r0 E σ :=
  j_return q_49_27 qr_49
theorem k_49_47 {E : js_E} {d : Nat} {σ σ2 : js_S} {x1 b : Int} (hb : b = 0 ∨ b = 25) {v : Int} (hd : 1 ≤ d) (hz : js_J E (d - 1) 37 0 [(2, 7 + b), (2, 1), (9, 0), (9, 0), (9, 0)] [] σ = js_r E (2, v) σ2) : js_J E d 49 47 [(2, 21 + b), (2, x1), (9, 0), (9, 0), (9, 0)] [(2, 1), (2, 7 + b)] σ = js_J E d 49 50 [(2, 21 + b), (2, x1), (9, 0), (9, 0), (9, 0)] [(2, v)] σ2 :=
  j_call (m := 3) (js_caV q_49_47 (js_Mo qy_49 qm_2_44)) (js_agV (av := [(2, 1)]) (st := []) rfl rfl (js_o7b hb) rfl) rfl rfl (by rw [ql_37]; exact Nat.le_of_ble_eq_true rfl) (Nat.le_of_ble_eq_true rfl) hd hz
theorem kt_49_47 {E : js_E} {d : Nat} {σ σ2 : js_S} {x1 b : Int} (hb : b = 0 ∨ b = 25) {w : Int} (hd : 1 ≤ d) (hz : js_J E (d - 1) 37 0 [(2, 7 + b), (2, 1), (9, 0), (9, 0), (9, 0)] [] σ = js_t E w σ2) : js_J E d 49 47 [(2, 21 + b), (2, x1), (9, 0), (9, 0), (9, 0)] [(2, 1), (2, 7 + b)] σ = js_t E w σ2 :=
  j_callT (m := 3) (js_caV q_49_47 (js_Mo qy_49 qm_2_44)) (js_agV (av := [(2, 1)]) (st := []) rfl rfl (js_o7b hb) rfl) rfl rfl (by rw [ql_37]; exact Nat.le_of_ble_eq_true rfl) (Nat.le_of_ble_eq_true rfl) hd rfl hz
theorem b_49_50 {E : js_E} {d : Nat} {σ : js_S} {x1 z0 b : Int} : js_J E d 49 50 [(2, 21 + b), (2, x1), (9, 0), (9, 0), (9, 0)] [(2, z0)] σ = js_J E d 49 54 [(2, 21 + b), (2, x1), (9, 0), (9, 0), (9, 0)] [(2, z0)] σ :=
  (j_goto (t := 54) q_49_50 rfl).trans <| rfl
theorem b_49_54 {E : js_E} {d : Nat} {σ : js_S} {x1 z0 b : Int} : js_J E d 49 54 [(2, 21 + b), (2, x1), (9, 0), (9, 0), (9, 0)] [(2, z0)] σ = (if z0 < 0 then js_J E d 49 89 [(2, 21 + b), (2, x1), (2, z0), (9, 0), (9, 0)] [] σ else js_J E d 49 59 [(2, 21 + b), (2, x1), (2, z0), (9, 0), (9, 0)] [] σ) :=
  (j_astore_n (l2 := [(2, 21 + b), (2, x1), (2, z0), (9, 0), (9, 0)]) q_49_54 rfl (Nat.le_of_ble_eq_true rfl)).trans <| (j_aload_n q_49_55 rfl).trans <| (j_ifnull (t := 89) q_49_56 rfl).trans (js_ite (rfl) (rfl))
theorem b_49_59 {E : js_E} {d : Nat} {σ : js_S} {x1 x2 b : Int} (hs_x2 : js_desc E.1 σ x2 = some (0, 11, js_sym)) : js_J E d 49 59 [(2, 21 + b), (2, x1), (2, x2), (9, 0), (9, 0)] [] σ = (if js_w (σ x2 1) = 8 then js_J E d 49 78 [(2, 21 + b), (2, x1), (2, x2), (9, 0), (9, 0)] [(0, σ x2 4), (0, 0), (0, σ x2 2), (2, x1)] σ else js_J E d 49 89 [(2, 21 + b), (2, x1), (2, x2), (9, 0), (9, 0)] [] σ) :=
  (j_aload_n q_49_59 rfl).trans <| (j_get (ji := 1) (v := (0, σ x2 1)) q_49_60 (js_Fo qy_49 qf_2_50) hs_x2 rfl rfl rfl rfl).trans <| (j_bi q_49_63 rfl).trans <| (j_cmpneB (t := 89) q_49_65 rfl ww_8).trans (js_ite ((j_aload_n q_49_68 rfl).trans <| (j_aload_n q_49_69 rfl).trans <| (j_get (ji := 2) (v := (0, σ x2 2)) q_49_70 (js_Fo qy_49 qf_2_59) hs_x2 rfl rfl rfl rfl).trans <| (j_iconst q_49_73).trans <| (j_aload_n q_49_74 rfl).trans <| (j_get (ji := 4) (v := (0, σ x2 4)) q_49_75 (js_Fo qy_49 qf_2_68) hs_x2 rfl rfl rfl rfl).trans <| rfl) (rfl))
theorem k_49_78 {E : js_E} {d : Nat} {σ σ2 : js_S} {x1 x2 z0 z1 z2 z3 b : Int} (hs_z0 : js_desc E.1 σ z0 = some (0, 11, js_sym)) (hd : 1 ≤ d) (hz : js_J E (d - 1) 43 0 [(2, z0), (0, z1), (0, z2), (0, z3)] [] σ = js_r0 E σ2) : js_J E d 49 78 [(2, 21 + b), (2, x1), (2, x2), (9, 0), (9, 0)] [(0, z3), (0, z2), (0, z1), (2, z0)] σ = js_J E d 49 81 [(2, 21 + b), (2, x1), (2, x2), (9, 0), (9, 0)] [] σ2 :=
  j_call0 (m := 0) (js_caV q_49_78 (js_Mo qy_49 qm_2_85)) (js_agV (av := [(0, z1), (0, z2), (0, z3)]) (st := []) rfl rfl hs_z0 rfl) rfl rfl (by rw [ql_43]; exact Nat.le_of_ble_eq_true rfl) (Nat.le_of_ble_eq_true rfl) hd hz
theorem kt_49_78 {E : js_E} {d : Nat} {σ σ2 : js_S} {x1 x2 z0 z1 z2 z3 b : Int} (hs_z0 : js_desc E.1 σ z0 = some (0, 11, js_sym)) {w : Int} (hd : 1 ≤ d) (hz : js_J E (d - 1) 43 0 [(2, z0), (0, z1), (0, z2), (0, z3)] [] σ = js_t E w σ2) : js_J E d 49 78 [(2, 21 + b), (2, x1), (2, x2), (9, 0), (9, 0)] [(0, z3), (0, z2), (0, z1), (2, z0)] σ = js_t E w σ2 :=
  j_callT (m := 0) (js_caV q_49_78 (js_Mo qy_49 qm_2_85)) (js_agV (av := [(0, z1), (0, z2), (0, z3)]) (st := []) rfl rfl hs_z0 rfl) rfl rfl (by rw [ql_43]; exact Nat.le_of_ble_eq_true rfl) (Nat.le_of_ble_eq_true rfl) hd rfl hz
theorem b_49_81 {E : js_E} {d : Nat} {σ : js_S} {x1 x2 b : Int} (hb : b = 0 ∨ b = 25) : js_J E d 49 81 [(2, 21 + b), (2, x1), (2, x2), (9, 0), (9, 0)] [] σ = js_J E d 49 85 [(2, 21 + b), (2, x1), (2, x2), (9, 0), (9, 0)] [(2, 1)] σ :=
  (j_aload_n q_49_81 rfl).trans <| (j_get (ji := 3) (v := (2, 1)) q_49_82 (js_Fo qy_49 qf_2_9) (js_o21b hb) rfl rfl rfl rfl).trans <| rfl
theorem k_49_85 {E : js_E} {d : Nat} {σ σ2 : js_S} {x1 x2 b : Int} (hd : 1 ≤ d) (hz : js_J E (d - 1) 33 0 [(2, 1), (9, 0)] [] σ = js_r0 E σ2) : js_J E d 49 85 [(2, 21 + b), (2, x1), (2, x2), (9, 0), (9, 0)] [(2, 1)] σ = js_J E d 49 88 [(2, 21 + b), (2, x1), (2, x2), (9, 0), (9, 0)] [] σ2 :=
  j_call0 (m := 1) (js_caV q_49_85 (js_Mo qy_49 qm_2_31)) (js_agV (av := []) (st := []) rfl rfl js_o1 rfl) rfl rfl (by rw [ql_33]; exact Nat.le_of_ble_eq_true rfl) (Nat.le_of_ble_eq_true rfl) hd hz
theorem kt_49_85 {E : js_E} {d : Nat} {σ σ2 : js_S} {x1 x2 b : Int} {w : Int} (hd : 1 ≤ d) (hz : js_J E (d - 1) 33 0 [(2, 1), (9, 0)] [] σ = js_t E w σ2) : js_J E d 49 85 [(2, 21 + b), (2, x1), (2, x2), (9, 0), (9, 0)] [(2, 1)] σ = js_t E w σ2 :=
  j_callT (m := 1) (js_caV q_49_85 (js_Mo qy_49 qm_2_31)) (js_agV (av := []) (st := []) rfl rfl js_o1 rfl) rfl rfl (by rw [ql_33]; exact Nat.le_of_ble_eq_true rfl) (Nat.le_of_ble_eq_true rfl) hd rfl hz
theorem b_49_88 {E : js_E} {d : Nat} {σ : js_S} {x1 x2 b : Int} : js_J E d 49 88 [(2, 21 + b), (2, x1), (2, x2), (9, 0), (9, 0)] [] σ = js_r0 E σ :=
  j_return q_49_88 qr_49
theorem b_49_89 {E : js_E} {d : Nat} {σ : js_S} {x1 x2 b : Int} : js_J E d 49 89 [(2, 21 + b), (2, x1), (2, x2), (9, 0), (9, 0)] [] σ = js_J E d 49 91 [(2, 21 + b), (2, x1), (2, x2), (9, 0), (9, 0)] [(0, 0), (2, 21 + b)] σ :=
  (j_aload_n q_49_89 rfl).trans <| (j_iconst q_49_90).trans <| rfl
theorem k_49_91 {E : js_E} {d : Nat} {σ σ2 : js_S} {x1 x2 z1 b : Int} (hb : b = 0 ∨ b = 25) {v : Int} (hd : 1 ≤ d) (hz : js_J E (d - 1) 41 0 [(2, 21 + b), (0, z1), (9, 0), (9, 0), (9, 0)] [] σ = js_r E (0, v) σ2) : js_J E d 49 91 [(2, 21 + b), (2, x1), (2, x2), (9, 0), (9, 0)] [(0, z1), (2, 21 + b)] σ = js_J E d 49 94 [(2, 21 + b), (2, x1), (2, x2), (9, 0), (9, 0)] [(0, v)] σ2 :=
  j_call (m := 3) (js_caV q_49_91 (js_Mo qy_49 qm_2_61)) (js_agV (av := [(0, z1)]) (st := []) rfl rfl (js_o21b hb) rfl) rfl rfl (by rw [ql_41]; exact Nat.le_of_ble_eq_true rfl) (Nat.le_of_ble_eq_true rfl) hd hz
theorem kt_49_91 {E : js_E} {d : Nat} {σ σ2 : js_S} {x1 x2 z1 b : Int} (hb : b = 0 ∨ b = 25) {w : Int} (hd : 1 ≤ d) (hz : js_J E (d - 1) 41 0 [(2, 21 + b), (0, z1), (9, 0), (9, 0), (9, 0)] [] σ = js_t E w σ2) : js_J E d 49 91 [(2, 21 + b), (2, x1), (2, x2), (9, 0), (9, 0)] [(0, z1), (2, 21 + b)] σ = js_t E w σ2 :=
  j_callT (m := 3) (js_caV q_49_91 (js_Mo qy_49 qm_2_61)) (js_agV (av := [(0, z1)]) (st := []) rfl rfl (js_o21b hb) rfl) rfl rfl (by rw [ql_41]; exact Nat.le_of_ble_eq_true rfl) (Nat.le_of_ble_eq_true rfl) hd rfl hz
theorem b_49_94 {E : js_E} {d : Nat} {σ : js_S} {x1 x2 z0 b : Int} (hb : b = 0 ∨ b = 25) : js_J E d 49 94 [(2, 21 + b), (2, x1), (2, x2), (9, 0), (9, 0)] [(0, z0)] σ = js_J E d 49 102 [(2, 21 + b), (2, x1), (2, x2), (0, z0), (9, 0)] [(0, 128), (2, 1)] σ :=
  (j_istore_n (l2 := [(2, 21 + b), (2, x1), (2, x2), (0, z0), (9, 0)]) q_49_94 rfl (Nat.le_of_ble_eq_true rfl)).trans <| (j_aload_n q_49_95 rfl).trans <| (j_get (ji := 3) (v := (2, 1)) q_49_96 (js_Fo qy_49 qf_2_9) (js_o21b hb) rfl rfl rfl rfl).trans <| (j_si q_49_99 rfl).trans <| rfl
theorem k_49_102 {E : js_E} {d : Nat} {σ σ2 : js_S} {x1 x2 x3 z1 b : Int} (hd : 1 ≤ d) (hz : js_J E (d - 1) 40 0 [(2, 1), (0, z1)] [] σ = js_r0 E σ2) : js_J E d 49 102 [(2, 21 + b), (2, x1), (2, x2), (0, x3), (9, 0)] [(0, z1), (2, 1)] σ = js_J E d 49 105 [(2, 21 + b), (2, x1), (2, x2), (0, x3), (9, 0)] [] σ2 :=
  j_call0 (m := 0) (js_caV q_49_102 (js_Mo qy_49 qm_2_89)) (js_agV (av := [(0, z1)]) (st := []) rfl rfl js_o1 rfl) rfl rfl (by rw [ql_40]; exact Nat.le_of_ble_eq_true rfl) (Nat.le_of_ble_eq_true rfl) hd hz
theorem kt_49_102 {E : js_E} {d : Nat} {σ σ2 : js_S} {x1 x2 x3 z1 b : Int} {w : Int} (hd : 1 ≤ d) (hz : js_J E (d - 1) 40 0 [(2, 1), (0, z1)] [] σ = js_t E w σ2) : js_J E d 49 102 [(2, 21 + b), (2, x1), (2, x2), (0, x3), (9, 0)] [(0, z1), (2, 1)] σ = js_t E w σ2 :=
  j_callT (m := 0) (js_caV q_49_102 (js_Mo qy_49 qm_2_89)) (js_agV (av := [(0, z1)]) (st := []) rfl rfl js_o1 rfl) rfl rfl (by rw [ql_40]; exact Nat.le_of_ble_eq_true rfl) (Nat.le_of_ble_eq_true rfl) hd rfl hz
theorem b_49_105 {E : js_E} {d : Nat} {σ : js_S} {x1 x2 x3 b : Int} : js_J E d 49 105 [(2, 21 + b), (2, x1), (2, x2), (0, x3), (9, 0)] [] σ = js_J E d 49 107 [(2, 21 + b), (2, x1), (2, x2), (0, x3), (9, 0)] [(0, 0), (2, 21 + b)] σ :=
  (j_aload_n q_49_105 rfl).trans <| (j_iconst q_49_106).trans <| rfl
theorem k_49_107 {E : js_E} {d : Nat} {σ σ2 : js_S} {x1 x2 x3 z1 b : Int} (hb : b = 0 ∨ b = 25) {v : Int} (hd : 1 ≤ d) (hz : js_J E (d - 1) 41 0 [(2, 21 + b), (0, z1), (9, 0), (9, 0), (9, 0)] [] σ = js_r E (0, v) σ2) : js_J E d 49 107 [(2, 21 + b), (2, x1), (2, x2), (0, x3), (9, 0)] [(0, z1), (2, 21 + b)] σ = js_J E d 49 110 [(2, 21 + b), (2, x1), (2, x2), (0, x3), (9, 0)] [(0, v)] σ2 :=
  j_call (m := 3) (js_caV q_49_107 (js_Mo qy_49 qm_2_61)) (js_agV (av := [(0, z1)]) (st := []) rfl rfl (js_o21b hb) rfl) rfl rfl (by rw [ql_41]; exact Nat.le_of_ble_eq_true rfl) (Nat.le_of_ble_eq_true rfl) hd hz
theorem kt_49_107 {E : js_E} {d : Nat} {σ σ2 : js_S} {x1 x2 x3 z1 b : Int} (hb : b = 0 ∨ b = 25) {w : Int} (hd : 1 ≤ d) (hz : js_J E (d - 1) 41 0 [(2, 21 + b), (0, z1), (9, 0), (9, 0), (9, 0)] [] σ = js_t E w σ2) : js_J E d 49 107 [(2, 21 + b), (2, x1), (2, x2), (0, x3), (9, 0)] [(0, z1), (2, 21 + b)] σ = js_t E w σ2 :=
  j_callT (m := 3) (js_caV q_49_107 (js_Mo qy_49 qm_2_61)) (js_agV (av := [(0, z1)]) (st := []) rfl rfl (js_o21b hb) rfl) rfl rfl (by rw [ql_41]; exact Nat.le_of_ble_eq_true rfl) (Nat.le_of_ble_eq_true rfl) hd rfl hz
theorem b_49_110 {E : js_E} {d : Nat} {σ : js_S} {x1 x2 x3 z0 b : Int} : js_J E d 49 110 [(2, 21 + b), (2, x1), (2, x2), (0, x3), (9, 0)] [(0, z0)] σ = js_J E d 49 114 [(2, 21 + b), (2, x1), (2, x2), (0, x3), (0, z0)] [(0, x3), (2, 21 + b)] σ :=
  (j_istore (l2 := [(2, 21 + b), (2, x1), (2, x2), (0, x3), (0, z0)]) q_49_110 rfl (Nat.le_of_ble_eq_true rfl)).trans <| (j_aload_n q_49_112 rfl).trans <| (j_iload_n q_49_113 rfl).trans <| rfl
theorem k_49_114 {E : js_E} {d : Nat} {σ σ2 : js_S} {x1 x2 x3 x4 z1 b : Int} (hb : b = 0 ∨ b = 25) (hd : 1 ≤ d) (hz : js_J E (d - 1) 50 0 [(2, 21 + b), (0, z1)] [] σ = js_r0 E σ2) : js_J E d 49 114 [(2, 21 + b), (2, x1), (2, x2), (0, x3), (0, x4)] [(0, z1), (2, 21 + b)] σ = js_J E d 49 117 [(2, 21 + b), (2, x1), (2, x2), (0, x3), (0, x4)] [] σ2 :=
  j_call0 (m := 0) (js_caV q_49_114 (js_Mo qy_49 qm_2_92)) (js_agV (av := [(0, z1)]) (st := []) rfl rfl (js_o21b hb) rfl) rfl rfl (by rw [ql_50]; exact Nat.le_of_ble_eq_true rfl) (Nat.le_of_ble_eq_true rfl) hd hz
theorem kt_49_114 {E : js_E} {d : Nat} {σ σ2 : js_S} {x1 x2 x3 x4 z1 b : Int} (hb : b = 0 ∨ b = 25) {w : Int} (hd : 1 ≤ d) (hz : js_J E (d - 1) 50 0 [(2, 21 + b), (0, z1)] [] σ = js_t E w σ2) : js_J E d 49 114 [(2, 21 + b), (2, x1), (2, x2), (0, x3), (0, x4)] [(0, z1), (2, 21 + b)] σ = js_t E w σ2 :=
  j_callT (m := 0) (js_caV q_49_114 (js_Mo qy_49 qm_2_92)) (js_agV (av := [(0, z1)]) (st := []) rfl rfl (js_o21b hb) rfl) rfl rfl (by rw [ql_50]; exact Nat.le_of_ble_eq_true rfl) (Nat.le_of_ble_eq_true rfl) hd rfl hz
theorem b_49_117 {E : js_E} {d : Nat} {σ : js_S} {x1 x2 x3 x4 b : Int} : js_J E d 49 117 [(2, 21 + b), (2, x1), (2, x2), (0, x3), (0, x4)] [] σ = js_J E d 49 122 [(2, 21 + b), (2, x1), (2, x2), (0, x3), (0, x4)] [(0, x4), (0, x3), (0, 0), (2, x1)] σ :=
  (j_aload_n q_49_117 rfl).trans <| (j_iconst q_49_118).trans <| (j_iload_n q_49_119 rfl).trans <| (j_iload q_49_120 rfl).trans <| rfl
theorem k_49_122 {E : js_E} {d : Nat} {σ σ2 : js_S} {x1 x2 x3 x4 z0 z1 z2 z3 b : Int} (hs_z0 : js_desc E.1 σ z0 = some (0, 11, js_sym)) (hd : 1 ≤ d) (hz : js_J E (d - 1) 43 0 [(2, z0), (0, z1), (0, z2), (0, z3)] [] σ = js_r0 E σ2) : js_J E d 49 122 [(2, 21 + b), (2, x1), (2, x2), (0, x3), (0, x4)] [(0, z3), (0, z2), (0, z1), (2, z0)] σ = js_J E d 49 125 [(2, 21 + b), (2, x1), (2, x2), (0, x3), (0, x4)] [] σ2 :=
  j_call0 (m := 0) (js_caV q_49_122 (js_Mo qy_49 qm_2_85)) (js_agV (av := [(0, z1), (0, z2), (0, z3)]) (st := []) rfl rfl hs_z0 rfl) rfl rfl (by rw [ql_43]; exact Nat.le_of_ble_eq_true rfl) (Nat.le_of_ble_eq_true rfl) hd hz
theorem kt_49_122 {E : js_E} {d : Nat} {σ σ2 : js_S} {x1 x2 x3 x4 z0 z1 z2 z3 b : Int} (hs_z0 : js_desc E.1 σ z0 = some (0, 11, js_sym)) {w : Int} (hd : 1 ≤ d) (hz : js_J E (d - 1) 43 0 [(2, z0), (0, z1), (0, z2), (0, z3)] [] σ = js_t E w σ2) : js_J E d 49 122 [(2, 21 + b), (2, x1), (2, x2), (0, x3), (0, x4)] [(0, z3), (0, z2), (0, z1), (2, z0)] σ = js_t E w σ2 :=
  j_callT (m := 0) (js_caV q_49_122 (js_Mo qy_49 qm_2_85)) (js_agV (av := [(0, z1), (0, z2), (0, z3)]) (st := []) rfl rfl hs_z0 rfl) rfl rfl (by rw [ql_43]; exact Nat.le_of_ble_eq_true rfl) (Nat.le_of_ble_eq_true rfl) hd rfl hz
theorem b_49_125 {E : js_E} {d : Nat} {σ : js_S} {x1 x2 x3 x4 b : Int} : js_J E d 49 125 [(2, 21 + b), (2, x1), (2, x2), (0, x3), (0, x4)] [] σ = js_r0 E σ :=
  j_return q_49_125 qr_49
-- 50: VitalTwin$Constants.askNotBelow (I)V
theorem b_50_0 {E : js_E} {d : Nat} {σ : js_S} {x1 b : Int} (hb : b = 0 ∨ b = 25) : js_J E d 50 0 [(2, 21 + b), (0, x1)] [] σ = (if js_w (σ (21 + b) 1) < js_w x1 then js_J E d 50 17 [(2, 21 + b), (0, x1)] [(0, σ (21 + b) 2), (0, 4), (2, 1)] σ else js_J E d 50 20 [(2, 21 + b), (0, x1)] [] σ) :=
  (j_aload_n q_50_0 rfl).trans <| (j_get (ji := 1) (v := (0, σ (21 + b) 1)) q_50_1 (js_Fo qy_50 qf_2_41) (js_o21b hb) rfl rfl rfl rfl).trans <| (j_iload_n q_50_4 rfl).trans <| (j_cmpge (t := 20) q_50_5 rfl).trans (js_ite ((j_aload_n q_50_8 rfl).trans <| (j_get (ji := 3) (v := (2, 1)) q_50_9 (js_Fo qy_50 qf_2_9) (js_o21b hb) rfl rfl rfl rfl).trans <| (j_iconst q_50_12).trans <| (j_aload_n q_50_13 rfl).trans <| (j_get (ji := 2) (v := (0, σ (21 + b) 2)) q_50_14 (js_Fo qy_50 qf_2_25) (js_o21b hb) rfl rfl rfl rfl).trans <| rfl) (rfl))
theorem k_50_17 {E : js_E} {d : Nat} {σ σ2 : js_S} {x1 z1 z2 b : Int} (hd : 1 ≤ d) (hz : js_J E (d - 1) 36 0 [(2, 1), (0, z1), (0, z2)] [] σ = js_r0 E σ2) : js_J E d 50 17 [(2, 21 + b), (0, x1)] [(0, z2), (0, z1), (2, 1)] σ = js_J E d 50 20 [(2, 21 + b), (0, x1)] [] σ2 :=
  j_call0 (m := 0) (js_caV q_50_17 (js_Mo qy_50 qm_2_55)) (js_agV (av := [(0, z1), (0, z2)]) (st := []) rfl rfl js_o1 rfl) rfl rfl (by rw [ql_36]; exact Nat.le_of_ble_eq_true rfl) (Nat.le_of_ble_eq_true rfl) hd hz
theorem kt_50_17 {E : js_E} {d : Nat} {σ σ2 : js_S} {x1 z1 z2 b : Int} {w : Int} (hd : 1 ≤ d) (hz : js_J E (d - 1) 36 0 [(2, 1), (0, z1), (0, z2)] [] σ = js_t E w σ2) : js_J E d 50 17 [(2, 21 + b), (0, x1)] [(0, z2), (0, z1), (2, 1)] σ = js_t E w σ2 :=
  j_callT (m := 0) (js_caV q_50_17 (js_Mo qy_50 qm_2_55)) (js_agV (av := [(0, z1), (0, z2)]) (st := []) rfl rfl js_o1 rfl) rfl rfl (by rw [ql_36]; exact Nat.le_of_ble_eq_true rfl) (Nat.le_of_ble_eq_true rfl) hd rfl hz
theorem b_50_20 {E : js_E} {d : Nat} {σ : js_S} {x1 b : Int} : js_J E d 50 20 [(2, 21 + b), (0, x1)] [] σ = js_r0 E σ :=
  j_return q_50_20 qr_50
-- 51: VitalTwin$Constants.readFor (LVitalTwin$Symbol;)I
theorem b_51_0 {E : js_E} {d : Nat} {σ : js_S} {x1 b : Int} (hs_x1 : js_desc E.1 σ x1 = some (0, 11, js_sym)) : js_J E d 51 0 [(2, 21 + b), (2, x1)] [] σ = js_J E d 51 5 [(2, 21 + b), (2, x1)] [(0, σ x1 2), (2, 21 + b)] σ :=
  (j_aload_n q_51_0 rfl).trans <| (j_aload_n q_51_1 rfl).trans <| (j_get (ji := 2) (v := (0, σ x1 2)) q_51_2 (js_Fo qy_51 qf_2_59) hs_x1 rfl rfl rfl rfl).trans <| rfl
theorem k_51_5 {E : js_E} {d : Nat} {σ σ2 : js_S} {x1 z1 b : Int} (hb : b = 0 ∨ b = 25) {v : Int} (hd : 1 ≤ d) (hz : js_J E (d - 1) 41 0 [(2, 21 + b), (0, z1), (9, 0), (9, 0), (9, 0)] [] σ = js_r E (0, v) σ2) : js_J E d 51 5 [(2, 21 + b), (2, x1)] [(0, z1), (2, 21 + b)] σ = js_J E d 51 8 [(2, 21 + b), (2, x1)] [(0, v)] σ2 :=
  j_call (m := 3) (js_caV q_51_5 (js_Mo qy_51 qm_2_61)) (js_agV (av := [(0, z1)]) (st := []) rfl rfl (js_o21b hb) rfl) rfl rfl (by rw [ql_41]; exact Nat.le_of_ble_eq_true rfl) (Nat.le_of_ble_eq_true rfl) hd hz
theorem kt_51_5 {E : js_E} {d : Nat} {σ σ2 : js_S} {x1 z1 b : Int} (hb : b = 0 ∨ b = 25) {w : Int} (hd : 1 ≤ d) (hz : js_J E (d - 1) 41 0 [(2, 21 + b), (0, z1), (9, 0), (9, 0), (9, 0)] [] σ = js_t E w σ2) : js_J E d 51 5 [(2, 21 + b), (2, x1)] [(0, z1), (2, 21 + b)] σ = js_t E w σ2 :=
  j_callT (m := 3) (js_caV q_51_5 (js_Mo qy_51 qm_2_61)) (js_agV (av := [(0, z1)]) (st := []) rfl rfl (js_o21b hb) rfl) rfl rfl (by rw [ql_41]; exact Nat.le_of_ble_eq_true rfl) (Nat.le_of_ble_eq_true rfl) hd rfl hz
theorem b_51_8 {E : js_E} {d : Nat} {σ : js_S} {x1 z0 b : Int} (hb : b = 0 ∨ b = 25) (hs_x1 : js_desc E.1 σ x1 = some (0, 11, js_sym)) : js_J E d 51 8 [(2, 21 + b), (2, x1)] [(0, z0)] σ = (if js_w (σ (21 + b) 1) < js_w (σ x1 3) then js_J E d 51 31 [(2, 21 + b), (2, x1)] [] σ else (if js_w (σ x1 4) < js_w (σ (21 + b) 1) then js_J E d 51 31 [(2, 21 + b), (2, x1)] [] σ else js_J E d 51 44 [(2, 21 + b), (2, x1)] [] σ)) :=
  (j_pop0 q_51_8).trans <| (j_aload_n q_51_9 rfl).trans <| (j_get (ji := 1) (v := (0, σ (21 + b) 1)) q_51_10 (js_Fo qy_51 qf_2_41) (js_o21b hb) rfl rfl rfl rfl).trans <| (j_aload_n q_51_13 rfl).trans <| (j_get (ji := 3) (v := (0, σ x1 3)) q_51_14 (js_Fo qy_51 qf_2_65) hs_x1 rfl rfl rfl rfl).trans <| (j_cmplt (t := 31) q_51_17 rfl).trans (js_ite (rfl) ((j_aload_n q_51_20 rfl).trans <| (j_get (ji := 1) (v := (0, σ (21 + b) 1)) q_51_21 (js_Fo qy_51 qf_2_41) (js_o21b hb) rfl rfl rfl rfl).trans <| (j_aload_n q_51_24 rfl).trans <| (j_get (ji := 4) (v := (0, σ x1 4)) q_51_25 (js_Fo qy_51 qf_2_68) hs_x1 rfl rfl rfl rfl).trans <| (j_cmple (t := 44) q_51_28 rfl).trans (js_ite (rfl) (rfl))))
theorem b_51_31 {E : js_E} {d : Nat} {σ : js_S} {x1 b : Int} (hb : b = 0 ∨ b = 25) : js_J E d 51 31 [(2, 21 + b), (2, x1)] [] σ = js_J E d 51 41 [(2, 21 + b), (2, x1)] [(0, σ (21 + b) 2), (0, 6), (2, 1)] σ :=
  (j_aload_n q_51_31 rfl).trans <| (j_get (ji := 3) (v := (2, 1)) q_51_32 (js_Fo qy_51 qf_2_9) (js_o21b hb) rfl rfl rfl rfl).trans <| (j_bi q_51_35 rfl).trans <| (j_aload_n q_51_37 rfl).trans <| (j_get (ji := 2) (v := (0, σ (21 + b) 2)) q_51_38 (js_Fo qy_51 qf_2_25) (js_o21b hb) rfl rfl rfl rfl).trans <| rfl
theorem k_51_41 {E : js_E} {d : Nat} {σ σ2 : js_S} {x1 z1 z2 b : Int} (hd : 1 ≤ d) (hz : js_J E (d - 1) 36 0 [(2, 1), (0, z1), (0, z2)] [] σ = js_r0 E σ2) : js_J E d 51 41 [(2, 21 + b), (2, x1)] [(0, z2), (0, z1), (2, 1)] σ = js_J E d 51 44 [(2, 21 + b), (2, x1)] [] σ2 :=
  j_call0 (m := 0) (js_caV q_51_41 (js_Mo qy_51 qm_2_55)) (js_agV (av := [(0, z1), (0, z2)]) (st := []) rfl rfl js_o1 rfl) rfl rfl (by rw [ql_36]; exact Nat.le_of_ble_eq_true rfl) (Nat.le_of_ble_eq_true rfl) hd hz
theorem kt_51_41 {E : js_E} {d : Nat} {σ σ2 : js_S} {x1 z1 z2 b : Int} {w : Int} (hd : 1 ≤ d) (hz : js_J E (d - 1) 36 0 [(2, 1), (0, z1), (0, z2)] [] σ = js_t E w σ2) : js_J E d 51 41 [(2, 21 + b), (2, x1)] [(0, z2), (0, z1), (2, 1)] σ = js_t E w σ2 :=
  j_callT (m := 0) (js_caV q_51_41 (js_Mo qy_51 qm_2_55)) (js_agV (av := [(0, z1), (0, z2)]) (st := []) rfl rfl js_o1 rfl) rfl rfl (by rw [ql_36]; exact Nat.le_of_ble_eq_true rfl) (Nat.le_of_ble_eq_true rfl) hd rfl hz
theorem b_51_44 {E : js_E} {d : Nat} {σ : js_S} {x1 b : Int} (hb : b = 0 ∨ b = 25) : js_J E d 51 44 [(2, 21 + b), (2, x1)] [] σ = js_r E (0, σ (21 + b) 1) σ :=
  (j_aload_n q_51_44 rfl).trans <| (j_get (ji := 1) (v := (0, σ (21 + b) 1)) q_51_45 (js_Fo qy_51 qf_2_41) (js_o21b hb) rfl rfl rfl rfl).trans <| j_ireturn q_51_48 qr_51
-- 52: VitalTwin$Declarations.function ()V
theorem b_52_0 {E : js_E} {d : Nat} {σ : js_S} {b : Int} (hb : b = 0 ∨ b = 25) : js_J E d 52 0 [(2, 6 + b), (9, 0), (9, 0), (9, 0)] [] σ = js_J E d 52 4 [(2, 6 + b), (9, 0), (9, 0), (9, 0)] [(2, 1)] σ :=
  (j_aload_n q_52_0 rfl).trans <| (j_get (ji := 1) (v := (2, 1)) q_52_1 (js_Fo qy_52 qf_4_17) (js_o6b hb) rfl rfl rfl rfl).trans <| rfl
theorem k_52_4 {E : js_E} {d : Nat} {σ σ2 : js_S} {b : Int} (hd : 1 ≤ d) (hz : js_J E (d - 1) 33 0 [(2, 1), (9, 0)] [] σ = js_r0 E σ2) : js_J E d 52 4 [(2, 6 + b), (9, 0), (9, 0), (9, 0)] [(2, 1)] σ = js_J E d 52 7 [(2, 6 + b), (9, 0), (9, 0), (9, 0)] [] σ2 :=
  j_call0 (m := 1) (js_caV q_52_4 (js_Mo qy_52 qm_4_120)) (js_agV (av := []) (st := []) rfl rfl js_o1 rfl) rfl rfl (by rw [ql_33]; exact Nat.le_of_ble_eq_true rfl) (Nat.le_of_ble_eq_true rfl) hd hz
theorem kt_52_4 {E : js_E} {d : Nat} {σ σ2 : js_S} {b : Int} {w : Int} (hd : 1 ≤ d) (hz : js_J E (d - 1) 33 0 [(2, 1), (9, 0)] [] σ = js_t E w σ2) : js_J E d 52 4 [(2, 6 + b), (9, 0), (9, 0), (9, 0)] [(2, 1)] σ = js_t E w σ2 :=
  j_callT (m := 1) (js_caV q_52_4 (js_Mo qy_52 qm_4_120)) (js_agV (av := []) (st := []) rfl rfl js_o1 rfl) rfl rfl (by rw [ql_33]; exact Nat.le_of_ble_eq_true rfl) (Nat.le_of_ble_eq_true rfl) hd rfl hz
theorem b_52_7 {E : js_E} {d : Nat} {σ : js_S} {b : Int} (hb : b = 0 ∨ b = 25) : js_J E d 52 7 [(2, 6 + b), (9, 0), (9, 0), (9, 0)] [] σ = js_J E d 52 17 [(2, 6 + b), (9, 0), (9, 0), (9, 0)] [(2, 1), (0, 0), (0, 4), (2, 7 + b)] σ :=
  (j_aload_n q_52_7 rfl).trans <| (j_get (ji := 0) (v := (2, 7 + b)) q_52_8 (js_Fo qy_52 qf_4_27) (js_o6b hb) rfl rfl rfl rfl).trans <| (j_iconst q_52_11).trans <| (j_iconst q_52_12).trans <| (j_aload_n q_52_13 rfl).trans <| (j_get (ji := 1) (v := (2, 1)) q_52_14 (js_Fo qy_52 qf_4_17) (js_o6b hb) rfl rfl rfl rfl).trans <| rfl
theorem k_52_17 {E : js_E} {d : Nat} {σ σ2 : js_S} {z1 z2 b : Int} (hb : b = 0 ∨ b = 25) {v : Int} (hd : 1 ≤ d) (hz : js_J E (d - 1) 35 0 [(2, 7 + b), (0, z1), (0, z2), (2, 1), (9, 0), (9, 0)] [] σ = js_r E (2, v) σ2) : js_J E d 52 17 [(2, 6 + b), (9, 0), (9, 0), (9, 0)] [(2, 1), (0, z2), (0, z1), (2, 7 + b)] σ = js_J E d 52 20 [(2, 6 + b), (9, 0), (9, 0), (9, 0)] [(2, v)] σ2 :=
  j_call (m := 2) (js_caV q_52_17 (js_Mo qy_52 qm_4_123)) (js_agV (av := [(0, z1), (0, z2), (2, 1)]) (st := []) rfl rfl (js_o7b hb) rfl) rfl rfl (by rw [ql_35]; exact Nat.le_of_ble_eq_true rfl) (Nat.le_of_ble_eq_true rfl) hd hz
theorem kt_52_17 {E : js_E} {d : Nat} {σ σ2 : js_S} {z1 z2 b : Int} (hb : b = 0 ∨ b = 25) {w : Int} (hd : 1 ≤ d) (hz : js_J E (d - 1) 35 0 [(2, 7 + b), (0, z1), (0, z2), (2, 1), (9, 0), (9, 0)] [] σ = js_t E w σ2) : js_J E d 52 17 [(2, 6 + b), (9, 0), (9, 0), (9, 0)] [(2, 1), (0, z2), (0, z1), (2, 7 + b)] σ = js_t E w σ2 :=
  j_callT (m := 2) (js_caV q_52_17 (js_Mo qy_52 qm_4_123)) (js_agV (av := [(0, z1), (0, z2), (2, 1)]) (st := []) rfl rfl (js_o7b hb) rfl) rfl rfl (by rw [ql_35]; exact Nat.le_of_ble_eq_true rfl) (Nat.le_of_ble_eq_true rfl) hd rfl hz
theorem b_52_20 {E : js_E} {d : Nat} {σ : js_S} {z0 b : Int} (hb : b = 0 ∨ b = 25) (hs_z0 : js_desc E.1 σ z0 = some (0, 11, js_sym)) : js_J E d 52 20 [(2, 6 + b), (9, 0), (9, 0), (9, 0)] [(2, z0)] σ = js_J E d 52 57 [(2, 6 + b), (2, z0), (9, 0), (9, 0)] [(0, 40), (2, 1)] (js_up (js_up (js_up σ z0 5 (σ (8 + b) 6)) z0 6 0) (22 + b) 0 (σ z0 0)) :=
  (j_astore_n (l2 := [(2, 6 + b), (2, z0), (9, 0), (9, 0)]) q_52_20 rfl (Nat.le_of_ble_eq_true rfl)).trans <| (j_aload_n q_52_21 rfl).trans <| (j_aload_n q_52_22 rfl).trans <| (j_get (ji := 0) (v := (2, 7 + b)) q_52_23 (js_Fo qy_52 qf_4_27) (js_o6b hb) rfl rfl rfl rfl).trans <| (j_get (ji := 0) (v := (2, 8 + b)) q_52_26 (js_Fo qy_52 qf_4_83) (js_o7b hb) rfl rfl rfl rfl).trans <| (j_get (ji := 6) (v := (0, σ (8 + b) 6)) q_52_29 (js_Fo qy_52 qf_4_87) (js_o8b hb) rfl rfl rfl rfl).trans <| (j_putI (ji := 5) q_52_32 (js_Fo qy_52 qf_4_159) rfl hs_z0 rfl rfl rfl).trans <| (j_aload_n q_52_35 rfl).trans <| (j_iconst q_52_36).trans <| (j_putI (ji := 6) q_52_37 (js_Fo qy_52 qf_4_146) rfl (js_ds hs_z0 (js_desc_nn hs_z0) (fun _ => by decide)) rfl rfl rfl).trans <| (j_aload_n q_52_40 rfl).trans <| (j_get (ji := 4) (v := (2, 22 + b)) q_52_41 (js_Fo qy_52 qf_4_40) (js_o6b hb) rfl rfl rfl rfl).trans <| (j_aload_n q_52_44 rfl).trans <| (j_get (ji := 0) (v := (0, σ z0 0)) q_52_45 (js_Fo qy_52 qf_4_149) (js_ds (js_ds hs_z0 (js_desc_nn hs_z0) (fun _ => by decide)) (js_desc_nn hs_z0) (fun _ => by decide)) rfl rfl rfl (congrArg (Prod.mk 0) ((js_up_ne _ (by omega)).trans <| (js_up_ne _ (by omega))))).trans <| (j_putI (ji := 0) q_52_48 (js_Fo qy_52 qf_4_172) rfl (js_o22b hb) rfl rfl rfl).trans <| (j_aload_n q_52_51 rfl).trans <| (j_get (ji := 1) (v := (2, 1)) q_52_52 (js_Fo qy_52 qf_4_17) (js_o6b hb) rfl rfl rfl rfl).trans <| (j_bi q_52_55 rfl).trans <| rfl
theorem k_52_57 {E : js_E} {d : Nat} {σ σ2 : js_S} {x1 z1 b : Int} (hd : 1 ≤ d) (hz : js_J E (d - 1) 47 0 [(2, 1), (0, z1)] [] σ = js_r0 E σ2) : js_J E d 52 57 [(2, 6 + b), (2, x1), (9, 0), (9, 0)] [(0, z1), (2, 1)] σ = js_J E d 52 60 [(2, 6 + b), (2, x1), (9, 0), (9, 0)] [] σ2 :=
  j_call0 (m := 0) (js_caV q_52_57 (js_Mo qy_52 qm_4_175)) (js_agV (av := [(0, z1)]) (st := []) rfl rfl js_o1 rfl) rfl rfl (by rw [ql_47]; exact Nat.le_of_ble_eq_true rfl) (Nat.le_of_ble_eq_true rfl) hd hz
theorem kt_52_57 {E : js_E} {d : Nat} {σ σ2 : js_S} {x1 z1 b : Int} {w : Int} (hd : 1 ≤ d) (hz : js_J E (d - 1) 47 0 [(2, 1), (0, z1)] [] σ = js_t E w σ2) : js_J E d 52 57 [(2, 6 + b), (2, x1), (9, 0), (9, 0)] [(0, z1), (2, 1)] σ = js_t E w σ2 :=
  j_callT (m := 0) (js_caV q_52_57 (js_Mo qy_52 qm_4_175)) (js_agV (av := [(0, z1)]) (st := []) rfl rfl js_o1 rfl) rfl rfl (by rw [ql_47]; exact Nat.le_of_ble_eq_true rfl) (Nat.le_of_ble_eq_true rfl) hd rfl hz
theorem b_52_60 {E : js_E} {d : Nat} {σ : js_S} {x1 b : Int} (hb : b = 0 ∨ b = 25) : js_J E d 52 60 [(2, 6 + b), (2, x1), (9, 0), (9, 0)] [] σ = (if js_w (σ 1 1) = 41 then js_J E d 52 77 [(2, 6 + b), (2, x1), (9, 0), (9, 0)] [(0, 0)] σ else js_J E d 52 77 [(2, 6 + b), (2, x1), (9, 0), (9, 0)] [(0, 1)] σ) :=
  (j_aload_n q_52_60 rfl).trans <| (j_get (ji := 1) (v := (2, 1)) q_52_61 (js_Fo qy_52 qf_4_17) (js_o6b hb) rfl rfl rfl rfl).trans <| (j_get (ji := 1) (v := (0, σ 1 1)) q_52_64 (js_Fo qy_52 qf_4_54) js_o1 rfl rfl rfl rfl).trans <| (j_bi q_52_67 rfl).trans <| (j_cmpeqB (t := 76) q_52_69 rfl ww_41).trans (js_ite ((j_iconst q_52_76).trans <| rfl) ((j_iconst q_52_72).trans <| (j_goto (t := 77) q_52_73 rfl).trans <| rfl))
theorem b_52_77 {E : js_E} {d : Nat} {σ : js_S} {x1 z0 b : Int} : js_J E d 52 77 [(2, 6 + b), (2, x1), (9, 0), (9, 0)] [(0, z0)] σ = js_J E d 52 80 [(2, 6 + b), (2, x1), (0, z0), (0, 0)] [] σ :=
  (j_istore_n (l2 := [(2, 6 + b), (2, x1), (0, z0), (9, 0)]) q_52_77 rfl (Nat.le_of_ble_eq_true rfl)).trans <| (j_iconst q_52_78).trans <| (j_istore_n (l2 := [(2, 6 + b), (2, x1), (0, z0), (0, 0)]) q_52_79 rfl (Nat.le_of_ble_eq_true rfl)).trans <| rfl
theorem b_52_80 {E : js_E} {d : Nat} {σ : js_S} {x1 x2 x3 b : Int} : js_J E d 52 80 [(2, 6 + b), (2, x1), (0, x2), (0, x3)] [] σ = (if js_w x3 < 1000000 then (if js_w x2 = 0 then js_J E d 52 130 [(2, 6 + b), (2, x1), (0, x2), (0, x3)] [] σ else js_J E d 52 92 [(2, 6 + b), (2, x1), (0, x2), (0, x3)] [(2, x1), (2, 6 + b)] σ) else js_J E d 52 130 [(2, 6 + b), (2, x1), (0, x2), (0, x3)] [] σ) :=
  (j_iload_n q_52_80 rfl).trans <| (j_ldc (v := (0, 1000000)) q_52_81 (js_Co qy_52 qc_4_53)).trans <| (j_cmpgeB (t := 130) q_52_83 rfl ww_1000000).trans (js_ite ((j_iload_n q_52_86 rfl).trans <| (j_ifeq (t := 130) q_52_87 rfl).trans (js_ite (rfl) ((j_aload_n q_52_90 rfl).trans <| (j_aload_n q_52_91 rfl).trans <| rfl))) (rfl))
theorem k_52_92 {E : js_E} {d : Nat} {σ σ2 : js_S} {x1 x2 x3 z1 b : Int} (hb : b = 0 ∨ b = 25) (hd : 1 ≤ d) (hz : js_J E (d - 1) 53 0 [(2, 6 + b), (2, z1), (9, 0)] [] σ = js_r0 E σ2) : js_J E d 52 92 [(2, 6 + b), (2, x1), (0, x2), (0, x3)] [(2, z1), (2, 6 + b)] σ = js_J E d 52 95 [(2, 6 + b), (2, x1), (0, x2), (0, x3)] [] σ2 :=
  j_call0 (m := 1) (js_caV q_52_92 (js_Mo qy_52 qm_4_178)) (js_agV (av := [(2, z1)]) (st := []) rfl rfl (js_o6b hb) rfl) rfl rfl (by rw [ql_53]; exact Nat.le_of_ble_eq_true rfl) (Nat.le_of_ble_eq_true rfl) hd hz
theorem kt_52_92 {E : js_E} {d : Nat} {σ σ2 : js_S} {x1 x2 x3 z1 b : Int} (hb : b = 0 ∨ b = 25) {w : Int} (hd : 1 ≤ d) (hz : js_J E (d - 1) 53 0 [(2, 6 + b), (2, z1), (9, 0)] [] σ = js_t E w σ2) : js_J E d 52 92 [(2, 6 + b), (2, x1), (0, x2), (0, x3)] [(2, z1), (2, 6 + b)] σ = js_t E w σ2 :=
  j_callT (m := 1) (js_caV q_52_92 (js_Mo qy_52 qm_4_178)) (js_agV (av := [(2, z1)]) (st := []) rfl rfl (js_o6b hb) rfl) rfl rfl (by rw [ql_53]; exact Nat.le_of_ble_eq_true rfl) (Nat.le_of_ble_eq_true rfl) hd rfl hz
theorem b_52_95 {E : js_E} {d : Nat} {σ : js_S} {x1 x2 x3 b : Int} (hb : b = 0 ∨ b = 25) : js_J E d 52 95 [(2, 6 + b), (2, x1), (0, x2), (0, x3)] [] σ = (if js_w (σ 1 1) = 44 then js_J E d 52 112 [(2, 6 + b), (2, x1), (0, x2), (0, x3)] [(0, 1)] σ else js_J E d 52 112 [(2, 6 + b), (2, x1), (0, x2), (0, x3)] [(0, 0)] σ) :=
  (j_aload_n q_52_95 rfl).trans <| (j_get (ji := 1) (v := (2, 1)) q_52_96 (js_Fo qy_52 qf_4_17) (js_o6b hb) rfl rfl rfl rfl).trans <| (j_get (ji := 1) (v := (0, σ 1 1)) q_52_99 (js_Fo qy_52 qf_4_54) js_o1 rfl rfl rfl rfl).trans <| (j_bi q_52_102 rfl).trans <| (j_cmpneB (t := 111) q_52_104 rfl ww_44).trans (js_ite ((j_iconst q_52_107).trans <| (j_goto (t := 112) q_52_108 rfl).trans <| rfl) ((j_iconst q_52_111).trans <| rfl))
theorem b_52_112 {E : js_E} {d : Nat} {σ : js_S} {x1 x2 x3 z0 b : Int} (hb : b = 0 ∨ b = 25) : js_J E d 52 112 [(2, 6 + b), (2, x1), (0, x2), (0, x3)] [(0, z0)] σ = (if js_w z0 = 0 then js_J E d 52 124 [(2, 6 + b), (2, x1), (0, z0), (0, x3)] [] σ else js_J E d 52 121 [(2, 6 + b), (2, x1), (0, z0), (0, x3)] [(2, 1)] σ) :=
  (j_istore_n (l2 := [(2, 6 + b), (2, x1), (0, z0), (0, x3)]) q_52_112 rfl (Nat.le_of_ble_eq_true rfl)).trans <| (j_iload_n q_52_113 rfl).trans <| (j_ifeq (t := 124) q_52_114 rfl).trans (js_ite (rfl) ((j_aload_n q_52_117 rfl).trans <| (j_get (ji := 1) (v := (2, 1)) q_52_118 (js_Fo qy_52 qf_4_17) (js_o6b hb) rfl rfl rfl rfl).trans <| rfl))
theorem k_52_121 {E : js_E} {d : Nat} {σ σ2 : js_S} {x1 x2 x3 b : Int} (hd : 1 ≤ d) (hz : js_J E (d - 1) 33 0 [(2, 1), (9, 0)] [] σ = js_r0 E σ2) : js_J E d 52 121 [(2, 6 + b), (2, x1), (0, x2), (0, x3)] [(2, 1)] σ = js_J E d 52 124 [(2, 6 + b), (2, x1), (0, x2), (0, x3)] [] σ2 :=
  j_call0 (m := 1) (js_caV q_52_121 (js_Mo qy_52 qm_4_120)) (js_agV (av := []) (st := []) rfl rfl js_o1 rfl) rfl rfl (by rw [ql_33]; exact Nat.le_of_ble_eq_true rfl) (Nat.le_of_ble_eq_true rfl) hd hz
theorem kt_52_121 {E : js_E} {d : Nat} {σ σ2 : js_S} {x1 x2 x3 b : Int} {w : Int} (hd : 1 ≤ d) (hz : js_J E (d - 1) 33 0 [(2, 1), (9, 0)] [] σ = js_t E w σ2) : js_J E d 52 121 [(2, 6 + b), (2, x1), (0, x2), (0, x3)] [(2, 1)] σ = js_t E w σ2 :=
  j_callT (m := 1) (js_caV q_52_121 (js_Mo qy_52 qm_4_120)) (js_agV (av := []) (st := []) rfl rfl js_o1 rfl) rfl rfl (by rw [ql_33]; exact Nat.le_of_ble_eq_true rfl) (Nat.le_of_ble_eq_true rfl) hd rfl hz
theorem b_52_124 {E : js_E} {d : Nat} {σ : js_S} {x1 x2 x3 b : Int} : js_J E d 52 124 [(2, 6 + b), (2, x1), (0, x2), (0, x3)] [] σ = js_J E d 52 80 [(2, 6 + b), (2, x1), (0, x2), (0, x3 + 1)] [] σ :=
  (j_iinc (l2 := [(2, 6 + b), (2, x1), (0, x2), (0, x3 + 1)]) q_52_124 rfl rfl).trans <| (j_goto (t := 80) q_52_127 rfl).trans <| rfl
theorem b_52_130 {E : js_E} {d : Nat} {σ : js_S} {x1 x2 x3 b : Int} (hb : b = 0 ∨ b = 25) : js_J E d 52 130 [(2, 6 + b), (2, x1), (0, x2), (0, x3)] [] σ = js_J E d 52 136 [(2, 6 + b), (2, x1), (0, x2), (0, x3)] [(0, 41), (2, 1)] σ :=
  (j_aload_n q_52_130 rfl).trans <| (j_get (ji := 1) (v := (2, 1)) q_52_131 (js_Fo qy_52 qf_4_17) (js_o6b hb) rfl rfl rfl rfl).trans <| (j_bi q_52_134 rfl).trans <| rfl
theorem k_52_136 {E : js_E} {d : Nat} {σ σ2 : js_S} {x1 x2 x3 z1 b : Int} (hd : 1 ≤ d) (hz : js_J E (d - 1) 48 0 [(2, 1), (0, z1)] [] σ = js_r0 E σ2) : js_J E d 52 136 [(2, 6 + b), (2, x1), (0, x2), (0, x3)] [(0, z1), (2, 1)] σ = js_J E d 52 139 [(2, 6 + b), (2, x1), (0, x2), (0, x3)] [] σ2 :=
  j_call0 (m := 0) (js_caV q_52_136 (js_Mo qy_52 qm_4_181)) (js_agV (av := [(0, z1)]) (st := []) rfl rfl js_o1 rfl) rfl rfl (by rw [ql_48]; exact Nat.le_of_ble_eq_true rfl) (Nat.le_of_ble_eq_true rfl) hd hz
theorem kt_52_136 {E : js_E} {d : Nat} {σ σ2 : js_S} {x1 x2 x3 z1 b : Int} {w : Int} (hd : 1 ≤ d) (hz : js_J E (d - 1) 48 0 [(2, 1), (0, z1)] [] σ = js_t E w σ2) : js_J E d 52 136 [(2, 6 + b), (2, x1), (0, x2), (0, x3)] [(0, z1), (2, 1)] σ = js_t E w σ2 :=
  j_callT (m := 0) (js_caV q_52_136 (js_Mo qy_52 qm_4_181)) (js_agV (av := [(0, z1)]) (st := []) rfl rfl js_o1 rfl) rfl rfl (by rw [ql_48]; exact Nat.le_of_ble_eq_true rfl) (Nat.le_of_ble_eq_true rfl) hd rfl hz
theorem b_52_139 {E : js_E} {d : Nat} {σ : js_S} {x1 x2 x3 b : Int} (hb : b = 0 ∨ b = 25) : js_J E d 52 139 [(2, 6 + b), (2, x1), (0, x2), (0, x3)] [] σ = (if js_w (σ 1 1) = 58 then js_J E d 52 155 [(2, 6 + b), (2, x1), (0, x2), (0, x3)] [(2, 1)] σ else js_J E d 52 166 [(2, 6 + b), (2, x1), (0, x2), (0, x3)] [] σ) :=
  (j_aload_n q_52_139 rfl).trans <| (j_get (ji := 1) (v := (2, 1)) q_52_140 (js_Fo qy_52 qf_4_17) (js_o6b hb) rfl rfl rfl rfl).trans <| (j_get (ji := 1) (v := (0, σ 1 1)) q_52_143 (js_Fo qy_52 qf_4_54) js_o1 rfl rfl rfl rfl).trans <| (j_bi q_52_146 rfl).trans <| (j_cmpneB (t := 166) q_52_148 rfl ww_58).trans (js_ite ((j_aload_n q_52_151 rfl).trans <| (j_get (ji := 1) (v := (2, 1)) q_52_152 (js_Fo qy_52 qf_4_17) (js_o6b hb) rfl rfl rfl rfl).trans <| rfl) (rfl))
theorem k_52_155 {E : js_E} {d : Nat} {σ σ2 : js_S} {x1 x2 x3 b : Int} (hd : 1 ≤ d) (hz : js_J E (d - 1) 33 0 [(2, 1), (9, 0)] [] σ = js_r0 E σ2) : js_J E d 52 155 [(2, 6 + b), (2, x1), (0, x2), (0, x3)] [(2, 1)] σ = js_J E d 52 158 [(2, 6 + b), (2, x1), (0, x2), (0, x3)] [] σ2 :=
  j_call0 (m := 1) (js_caV q_52_155 (js_Mo qy_52 qm_4_120)) (js_agV (av := []) (st := []) rfl rfl js_o1 rfl) rfl rfl (by rw [ql_33]; exact Nat.le_of_ble_eq_true rfl) (Nat.le_of_ble_eq_true rfl) hd hz
theorem kt_52_155 {E : js_E} {d : Nat} {σ σ2 : js_S} {x1 x2 x3 b : Int} {w : Int} (hd : 1 ≤ d) (hz : js_J E (d - 1) 33 0 [(2, 1), (9, 0)] [] σ = js_t E w σ2) : js_J E d 52 155 [(2, 6 + b), (2, x1), (0, x2), (0, x3)] [(2, 1)] σ = js_t E w σ2 :=
  j_callT (m := 1) (js_caV q_52_155 (js_Mo qy_52 qm_4_120)) (js_agV (av := []) (st := []) rfl rfl js_o1 rfl) rfl rfl (by rw [ql_33]; exact Nat.le_of_ble_eq_true rfl) (Nat.le_of_ble_eq_true rfl) hd rfl hz
theorem b_52_158 {E : js_E} {d : Nat} {σ : js_S} {x1 x2 x3 b : Int} (hb : b = 0 ∨ b = 25) : js_J E d 52 158 [(2, 6 + b), (2, x1), (0, x2), (0, x3)] [] σ = js_J E d 52 163 [(2, 6 + b), (2, x1), (0, x2), (0, x3)] [(2, x1), (2, 21 + b)] σ :=
  (j_aload_n q_52_158 rfl).trans <| (j_get (ji := 3) (v := (2, 21 + b)) q_52_159 (js_Fo qy_52 qf_4_31) (js_o6b hb) rfl rfl rfl rfl).trans <| (j_aload_n q_52_162 rfl).trans <| rfl
theorem k_52_163 {E : js_E} {d : Nat} {σ σ2 : js_S} {x1 x2 x3 z1 b : Int} (hb : b = 0 ∨ b = 25) (hd : 1 ≤ d) (hz : js_J E (d - 1) 49 0 [(2, 21 + b), (2, z1), (9, 0), (9, 0), (9, 0)] [] σ = js_r0 E σ2) : js_J E d 52 163 [(2, 6 + b), (2, x1), (0, x2), (0, x3)] [(2, z1), (2, 21 + b)] σ = js_J E d 52 166 [(2, 6 + b), (2, x1), (0, x2), (0, x3)] [] σ2 :=
  j_call0 (m := 3) (js_caV q_52_163 (js_Mo qy_52 qm_4_156)) (js_agV (av := [(2, z1)]) (st := []) rfl rfl (js_o21b hb) rfl) rfl rfl (by rw [ql_49]; exact Nat.le_of_ble_eq_true rfl) (Nat.le_of_ble_eq_true rfl) hd hz
theorem kt_52_163 {E : js_E} {d : Nat} {σ σ2 : js_S} {x1 x2 x3 z1 b : Int} (hb : b = 0 ∨ b = 25) {w : Int} (hd : 1 ≤ d) (hz : js_J E (d - 1) 49 0 [(2, 21 + b), (2, z1), (9, 0), (9, 0), (9, 0)] [] σ = js_t E w σ2) : js_J E d 52 163 [(2, 6 + b), (2, x1), (0, x2), (0, x3)] [(2, z1), (2, 21 + b)] σ = js_t E w σ2 :=
  j_callT (m := 3) (js_caV q_52_163 (js_Mo qy_52 qm_4_156)) (js_agV (av := [(2, z1)]) (st := []) rfl rfl (js_o21b hb) rfl) rfl rfl (by rw [ql_49]; exact Nat.le_of_ble_eq_true rfl) (Nat.le_of_ble_eq_true rfl) hd rfl hz
theorem b_52_166 {E : js_E} {d : Nat} {σ : js_S} {x1 x2 x3 b : Int} (hb : b = 0 ∨ b = 25) (hs_x1 : js_desc E.1 σ x1 = some (0, 11, js_sym)) : js_J E d 52 166 [(2, 6 + b), (2, x1), (0, x2), (0, x3)] [] σ = (if js_w (σ x1 2) = 2 then js_J E d 52 187 [(2, 6 + b), (2, x1), (0, x2), (0, x3)] [(2, (-1)), (0, σ x1 0), (2, 22 + b)] σ else js_J E d 52 187 [(2, 6 + b), (2, x1), (0, x2), (0, x3)] [(2, x1), (0, σ x1 0), (2, 22 + b)] σ) :=
  (j_aload_n q_52_166 rfl).trans <| (j_get (ji := 4) (v := (2, 22 + b)) q_52_167 (js_Fo qy_52 qf_4_40) (js_o6b hb) rfl rfl rfl rfl).trans <| (j_aload_n q_52_170 rfl).trans <| (j_get (ji := 0) (v := (0, σ x1 0)) q_52_171 (js_Fo qy_52 qf_4_149) hs_x1 rfl rfl rfl rfl).trans <| (j_aload_n q_52_174 rfl).trans <| (j_get (ji := 2) (v := (0, σ x1 2)) q_52_175 (js_Fo qy_52 qf_4_184) hs_x1 rfl rfl rfl rfl).trans <| (j_iconst q_52_178).trans <| (j_cmpneB (t := 186) q_52_179 rfl ww_2).trans (js_ite ((j_null q_52_182).trans <| (j_goto (t := 187) q_52_183 rfl).trans <| rfl) ((j_aload_n q_52_186 rfl).trans <| rfl))
theorem k_52_187 {E : js_E} {d : Nat} {σ σ2 : js_S} {x1 x2 x3 z1 z2 b : Int} (hb : b = 0 ∨ b = 25) (hd : 1 ≤ d) (hz : js_J E (d - 1) 55 0 [(2, 22 + b), (0, z1), (2, z2), (9, 0)] [] σ = js_r0 E σ2) : js_J E d 52 187 [(2, 6 + b), (2, x1), (0, x2), (0, x3)] [(2, z2), (0, z1), (2, 22 + b)] σ = js_J E d 52 190 [(2, 6 + b), (2, x1), (0, x2), (0, x3)] [] σ2 :=
  j_call0 (m := 1) (js_caV q_52_187 (js_Mo qy_52 qm_4_98)) (js_agV (av := [(0, z1), (2, z2)]) (st := []) rfl rfl (js_o22b hb) rfl) rfl rfl (by rw [ql_55]; exact Nat.le_of_ble_eq_true rfl) (Nat.le_of_ble_eq_true rfl) hd hz
theorem kt_52_187 {E : js_E} {d : Nat} {σ σ2 : js_S} {x1 x2 x3 z1 z2 b : Int} (hb : b = 0 ∨ b = 25) {w : Int} (hd : 1 ≤ d) (hz : js_J E (d - 1) 55 0 [(2, 22 + b), (0, z1), (2, z2), (9, 0)] [] σ = js_t E w σ2) : js_J E d 52 187 [(2, 6 + b), (2, x1), (0, x2), (0, x3)] [(2, z2), (0, z1), (2, 22 + b)] σ = js_t E w σ2 :=
  j_callT (m := 1) (js_caV q_52_187 (js_Mo qy_52 qm_4_98)) (js_agV (av := [(0, z1), (2, z2)]) (st := []) rfl rfl (js_o22b hb) rfl) rfl rfl (by rw [ql_55]; exact Nat.le_of_ble_eq_true rfl) (Nat.le_of_ble_eq_true rfl) hd rfl hz
theorem b_52_190 {E : js_E} {d : Nat} {σ : js_S} {x1 x2 x3 b : Int} (hb : b = 0 ∨ b = 25) : js_J E d 52 190 [(2, 6 + b), (2, x1), (0, x2), (0, x3)] [] σ = js_J E d 52 200 [(2, 6 + b), (2, x1), (0, x2), (0, x3)] [(0, 0), (0, 28), (2, 8 + b)] σ :=
  (j_aload_n q_52_190 rfl).trans <| (j_get (ji := 0) (v := (2, 7 + b)) q_52_191 (js_Fo qy_52 qf_4_27) (js_o6b hb) rfl rfl rfl rfl).trans <| (j_get (ji := 0) (v := (2, 8 + b)) q_52_194 (js_Fo qy_52 qf_4_83) (js_o7b hb) rfl rfl rfl rfl).trans <| (j_bi q_52_197 rfl).trans <| (j_iconst q_52_199).trans <| rfl
theorem k_52_200 {E : js_E} {d : Nat} {σ σ2 : js_S} {x1 x2 x3 z1 z2 b : Int} (hb : b = 0 ∨ b = 25) {v : Int} (hd : 1 ≤ d) (hz : js_J E (d - 1) 95 0 [(2, 8 + b), (0, z1), (0, z2)] [] σ = js_r E (0, v) σ2) : js_J E d 52 200 [(2, 6 + b), (2, x1), (0, x2), (0, x3)] [(0, z2), (0, z1), (2, 8 + b)] σ = js_J E d 52 203 [(2, 6 + b), (2, x1), (0, x2), (0, x3)] [(0, v)] σ2 :=
  j_call (m := 0) (js_caV q_52_200 (js_Mo qy_52 qm_4_102)) (js_agV (av := [(0, z1), (0, z2)]) (st := []) rfl rfl (js_o8b hb) rfl) rfl rfl (by rw [ql_95]; exact Nat.le_of_ble_eq_true rfl) (Nat.le_of_ble_eq_true rfl) hd hz
theorem kt_52_200 {E : js_E} {d : Nat} {σ σ2 : js_S} {x1 x2 x3 z1 z2 b : Int} (hb : b = 0 ∨ b = 25) {w : Int} (hd : 1 ≤ d) (hz : js_J E (d - 1) 95 0 [(2, 8 + b), (0, z1), (0, z2)] [] σ = js_t E w σ2) : js_J E d 52 200 [(2, 6 + b), (2, x1), (0, x2), (0, x3)] [(0, z2), (0, z1), (2, 8 + b)] σ = js_t E w σ2 :=
  j_callT (m := 0) (js_caV q_52_200 (js_Mo qy_52 qm_4_102)) (js_agV (av := [(0, z1), (0, z2)]) (st := []) rfl rfl (js_o8b hb) rfl) rfl rfl (by rw [ql_95]; exact Nat.le_of_ble_eq_true rfl) (Nat.le_of_ble_eq_true rfl) hd rfl hz
theorem b_52_203 {E : js_E} {d : Nat} {σ : js_S} {x1 x2 x3 z0 b : Int} (hb : b = 0 ∨ b = 25) (hs_x1 : js_desc E.1 σ x1 = some (0, 11, js_sym)) : js_J E d 52 203 [(2, 6 + b), (2, x1), (0, x2), (0, x3)] [(0, z0)] σ = js_J E d 52 241 [(2, 6 + b), (2, x1), (0, x2), (0, x3)] [(2, 8 + b)] (js_up (js_up σ x1 9 (σ (8 + b) 7)) x1 10 (1 + (σ (8 + b) 12))) :=
  (j_pop0 q_52_203).trans <| (j_aload_n q_52_204 rfl).trans <| (j_aload_n q_52_205 rfl).trans <| (j_get (ji := 0) (v := (2, 7 + b)) q_52_206 (js_Fo qy_52 qf_4_27) (js_o6b hb) rfl rfl rfl rfl).trans <| (j_get (ji := 0) (v := (2, 8 + b)) q_52_209 (js_Fo qy_52 qf_4_83) (js_o7b hb) rfl rfl rfl rfl).trans <| (j_get (ji := 7) (v := (0, σ (8 + b) 7)) q_52_212 (js_Fo qy_52 qf_4_106) (js_o8b hb) rfl rfl rfl rfl).trans <| (j_putI (ji := 9) q_52_215 (js_Fo qy_52 qf_4_185) rfl hs_x1 rfl rfl rfl).trans <| (j_aload_n q_52_218 rfl).trans <| (j_iconst q_52_219).trans <| (j_aload_n q_52_220 rfl).trans <| (j_get (ji := 0) (v := (2, 7 + b)) q_52_221 (js_Fo qy_52 qf_4_27) (js_o6b hb) rfl rfl rfl rfl).trans <| (j_get (ji := 0) (v := (2, 8 + b)) q_52_224 (js_Fo qy_52 qf_4_83) (js_o7b hb) rfl rfl rfl rfl).trans <| (j_get (ji := 12) (v := (0, σ (8 + b) 12)) q_52_227 (js_Fo qy_52 qf_4_186) (js_o8b hb) rfl rfl rfl (congrArg (Prod.mk 0) ((js_up_ne _ (by have := js_sym_ge hs_x1; omega))))).trans <| (j_iadd q_52_230).trans <| (j_putI (ji := 10) q_52_231 (js_Fo qy_52 qf_4_189) rfl (js_ds hs_x1 (js_desc_nn hs_x1) (fun _ => by decide)) rfl rfl rfl).trans <| (j_aload_n q_52_234 rfl).trans <| (j_get (ji := 0) (v := (2, 7 + b)) q_52_235 (js_Fo qy_52 qf_4_27) (js_o6b hb) rfl rfl rfl rfl).trans <| (j_get (ji := 0) (v := (2, 8 + b)) q_52_238 (js_Fo qy_52 qf_4_83) (js_o7b hb) rfl rfl rfl rfl).trans <| rfl
theorem k_52_241 {E : js_E} {d : Nat} {σ σ2 : js_S} {x1 x2 x3 b : Int} (hb : b = 0 ∨ b = 25) (hd : 1 ≤ d) (hz : js_J E (d - 1) 111 0 [(2, 8 + b)] [] σ = js_r0 E σ2) : js_J E d 52 241 [(2, 6 + b), (2, x1), (0, x2), (0, x3)] [(2, 8 + b)] σ = js_J E d 52 244 [(2, 6 + b), (2, x1), (0, x2), (0, x3)] [] σ2 :=
  j_call0 (m := 0) (js_caV q_52_241 (js_Mo qy_52 qm_4_110)) (js_agV (av := []) (st := []) rfl rfl (js_o8b hb) rfl) rfl rfl (by rw [ql_111]; exact Nat.le_of_ble_eq_true rfl) (Nat.le_of_ble_eq_true rfl) hd hz
theorem kt_52_241 {E : js_E} {d : Nat} {σ σ2 : js_S} {x1 x2 x3 b : Int} (hb : b = 0 ∨ b = 25) {w : Int} (hd : 1 ≤ d) (hz : js_J E (d - 1) 111 0 [(2, 8 + b)] [] σ = js_t E w σ2) : js_J E d 52 241 [(2, 6 + b), (2, x1), (0, x2), (0, x3)] [(2, 8 + b)] σ = js_t E w σ2 :=
  j_callT (m := 0) (js_caV q_52_241 (js_Mo qy_52 qm_4_110)) (js_agV (av := []) (st := []) rfl rfl (js_o8b hb) rfl) rfl rfl (by rw [ql_111]; exact Nat.le_of_ble_eq_true rfl) (Nat.le_of_ble_eq_true rfl) hd rfl hz
theorem b_52_244 {E : js_E} {d : Nat} {σ : js_S} {x1 x2 x3 b : Int} (hs_x1 : js_desc E.1 σ x1 = some (0, 11, js_sym)) (hb : b = 0 ∨ b = 25) : js_J E d 52 244 [(2, 6 + b), (2, x1), (0, x2), (0, x3)] [] σ = js_r0 E (js_up (js_up σ x1 13 1) (22 + b) 0 (-1)) :=
  (j_aload_n q_52_244 rfl).trans <| (j_iconst q_52_245).trans <| (j_putB1 (ji := 13) q_52_246 (js_Fo qy_52 qf_4_142) rfl hs_x1 rfl rfl rfl).trans <| (j_aload_n q_52_249 rfl).trans <| (j_get (ji := 4) (v := (2, 22 + b)) q_52_250 (js_Fo qy_52 qf_4_40) (js_o6b hb) rfl rfl rfl rfl).trans <| (j_iconst q_52_253).trans <| (j_putI (ji := 0) q_52_254 (js_Fo qy_52 qf_4_172) rfl (js_o22b hb) rfl rfl rfl).trans <| j_return q_52_257 qr_52
-- 53: VitalTwin$Declarations.parameter (LVitalTwin$Symbol;)V
theorem b_53_0 {E : js_E} {d : Nat} {σ : js_S} {x1 b : Int} (hb : b = 0 ∨ b = 25) (hs_x1 : js_desc E.1 σ x1 = some (0, 11, js_sym)) : js_J E d 53 0 [(2, 6 + b), (2, x1), (9, 0)] [] σ = (if js_w (σ x1 6) < 8 then js_J E d 53 19 [(2, 6 + b), (2, x1), (9, 0)] [(0, 0), (0, 5), (2, 7 + b)] σ else js_J E d 53 19 [(2, 6 + b), (2, x1), (9, 0)] [(0, 1), (0, 5), (2, 7 + b)] σ) :=
  (j_aload_n q_53_0 rfl).trans <| (j_get (ji := 0) (v := (2, 7 + b)) q_53_1 (js_Fo qy_53 qf_4_27) (js_o6b hb) rfl rfl rfl rfl).trans <| (j_iconst q_53_4).trans <| (j_aload_n q_53_5 rfl).trans <| (j_get (ji := 6) (v := (0, σ x1 6)) q_53_6 (js_Fo qy_53 qf_4_146) hs_x1 rfl rfl rfl rfl).trans <| (j_bi q_53_9 rfl).trans <| (j_cmpltB (t := 18) q_53_11 rfl ww_8).trans (js_ite ((j_iconst q_53_18).trans <| rfl) ((j_iconst q_53_14).trans <| (j_goto (t := 19) q_53_15 rfl).trans <| rfl))
theorem b_53_19 {E : js_E} {d : Nat} {σ : js_S} {x1 z1 z2 b : Int} (hb : b = 0 ∨ b = 25) : js_J E d 53 19 [(2, 6 + b), (2, x1), (9, 0)] [(0, z2), (0, z1), (2, 7 + b)] σ = js_J E d 53 23 [(2, 6 + b), (2, x1), (9, 0)] [(2, 1), (0, z2), (0, z1), (2, 7 + b)] σ :=
  (j_aload_n q_53_19 rfl).trans <| (j_get (ji := 1) (v := (2, 1)) q_53_20 (js_Fo qy_53 qf_4_17) (js_o6b hb) rfl rfl rfl rfl).trans <| rfl
theorem k_53_23 {E : js_E} {d : Nat} {σ σ2 : js_S} {x1 z1 z2 b : Int} (hb : b = 0 ∨ b = 25) {v : Int} (hd : 1 ≤ d) (hz : js_J E (d - 1) 35 0 [(2, 7 + b), (0, z1), (0, z2), (2, 1), (9, 0), (9, 0)] [] σ = js_r E (2, v) σ2) : js_J E d 53 23 [(2, 6 + b), (2, x1), (9, 0)] [(2, 1), (0, z2), (0, z1), (2, 7 + b)] σ = js_J E d 53 26 [(2, 6 + b), (2, x1), (9, 0)] [(2, v)] σ2 :=
  j_call (m := 2) (js_caV q_53_23 (js_Mo qy_53 qm_4_123)) (js_agV (av := [(0, z1), (0, z2), (2, 1)]) (st := []) rfl rfl (js_o7b hb) rfl) rfl rfl (by rw [ql_35]; exact Nat.le_of_ble_eq_true rfl) (Nat.le_of_ble_eq_true rfl) hd hz
theorem kt_53_23 {E : js_E} {d : Nat} {σ σ2 : js_S} {x1 z1 z2 b : Int} (hb : b = 0 ∨ b = 25) {w : Int} (hd : 1 ≤ d) (hz : js_J E (d - 1) 35 0 [(2, 7 + b), (0, z1), (0, z2), (2, 1), (9, 0), (9, 0)] [] σ = js_t E w σ2) : js_J E d 53 23 [(2, 6 + b), (2, x1), (9, 0)] [(2, 1), (0, z2), (0, z1), (2, 7 + b)] σ = js_t E w σ2 :=
  j_callT (m := 2) (js_caV q_53_23 (js_Mo qy_53 qm_4_123)) (js_agV (av := [(0, z1), (0, z2), (2, 1)]) (st := []) rfl rfl (js_o7b hb) rfl) rfl rfl (by rw [ql_35]; exact Nat.le_of_ble_eq_true rfl) (Nat.le_of_ble_eq_true rfl) hd rfl hz
theorem b_53_26 {E : js_E} {d : Nat} {σ : js_S} {x1 z0 b : Int} (hb : b = 0 ∨ b = 25) : js_J E d 53 26 [(2, 6 + b), (2, x1), (9, 0)] [(2, z0)] σ = js_J E d 53 33 [(2, 6 + b), (2, x1), (2, z0)] [(0, 58), (2, 1)] σ :=
  (j_astore_n (l2 := [(2, 6 + b), (2, x1), (2, z0)]) q_53_26 rfl (Nat.le_of_ble_eq_true rfl)).trans <| (j_aload_n q_53_27 rfl).trans <| (j_get (ji := 1) (v := (2, 1)) q_53_28 (js_Fo qy_53 qf_4_17) (js_o6b hb) rfl rfl rfl rfl).trans <| (j_bi q_53_31 rfl).trans <| rfl
theorem k_53_33 {E : js_E} {d : Nat} {σ σ2 : js_S} {x1 x2 z1 b : Int} (hd : 1 ≤ d) (hz : js_J E (d - 1) 40 0 [(2, 1), (0, z1)] [] σ = js_r0 E σ2) : js_J E d 53 33 [(2, 6 + b), (2, x1), (2, x2)] [(0, z1), (2, 1)] σ = js_J E d 53 36 [(2, 6 + b), (2, x1), (2, x2)] [] σ2 :=
  j_call0 (m := 0) (js_caV q_53_33 (js_Mo qy_53 qm_4_80)) (js_agV (av := [(0, z1)]) (st := []) rfl rfl js_o1 rfl) rfl rfl (by rw [ql_40]; exact Nat.le_of_ble_eq_true rfl) (Nat.le_of_ble_eq_true rfl) hd hz
theorem kt_53_33 {E : js_E} {d : Nat} {σ σ2 : js_S} {x1 x2 z1 b : Int} {w : Int} (hd : 1 ≤ d) (hz : js_J E (d - 1) 40 0 [(2, 1), (0, z1)] [] σ = js_t E w σ2) : js_J E d 53 33 [(2, 6 + b), (2, x1), (2, x2)] [(0, z1), (2, 1)] σ = js_t E w σ2 :=
  j_callT (m := 0) (js_caV q_53_33 (js_Mo qy_53 qm_4_80)) (js_agV (av := [(0, z1)]) (st := []) rfl rfl js_o1 rfl) rfl rfl (by rw [ql_40]; exact Nat.le_of_ble_eq_true rfl) (Nat.le_of_ble_eq_true rfl) hd rfl hz
theorem b_53_36 {E : js_E} {d : Nat} {σ : js_S} {x1 x2 b : Int} (hb : b = 0 ∨ b = 25) : js_J E d 53 36 [(2, 6 + b), (2, x1), (2, x2)] [] σ = js_J E d 53 41 [(2, 6 + b), (2, x1), (2, x2)] [(2, x2), (2, 21 + b)] σ :=
  (j_aload_n q_53_36 rfl).trans <| (j_get (ji := 3) (v := (2, 21 + b)) q_53_37 (js_Fo qy_53 qf_4_31) (js_o6b hb) rfl rfl rfl rfl).trans <| (j_aload_n q_53_40 rfl).trans <| rfl
theorem k_53_41 {E : js_E} {d : Nat} {σ σ2 : js_S} {x1 x2 z1 b : Int} (hb : b = 0 ∨ b = 25) (hd : 1 ≤ d) (hz : js_J E (d - 1) 49 0 [(2, 21 + b), (2, z1), (9, 0), (9, 0), (9, 0)] [] σ = js_r0 E σ2) : js_J E d 53 41 [(2, 6 + b), (2, x1), (2, x2)] [(2, z1), (2, 21 + b)] σ = js_J E d 53 44 [(2, 6 + b), (2, x1), (2, x2)] [] σ2 :=
  j_call0 (m := 3) (js_caV q_53_41 (js_Mo qy_53 qm_4_156)) (js_agV (av := [(2, z1)]) (st := []) rfl rfl (js_o21b hb) rfl) rfl rfl (by rw [ql_49]; exact Nat.le_of_ble_eq_true rfl) (Nat.le_of_ble_eq_true rfl) hd hz
theorem kt_53_41 {E : js_E} {d : Nat} {σ σ2 : js_S} {x1 x2 z1 b : Int} (hb : b = 0 ∨ b = 25) {w : Int} (hd : 1 ≤ d) (hz : js_J E (d - 1) 49 0 [(2, 21 + b), (2, z1), (9, 0), (9, 0), (9, 0)] [] σ = js_t E w σ2) : js_J E d 53 41 [(2, 6 + b), (2, x1), (2, x2)] [(2, z1), (2, 21 + b)] σ = js_t E w σ2 :=
  j_callT (m := 3) (js_caV q_53_41 (js_Mo qy_53 qm_4_156)) (js_agV (av := [(2, z1)]) (st := []) rfl rfl (js_o21b hb) rfl) rfl rfl (by rw [ql_49]; exact Nat.le_of_ble_eq_true rfl) (Nat.le_of_ble_eq_true rfl) hd rfl hz
theorem b_53_44 {E : js_E} {d : Nat} {σ : js_S} {x1 x2 b : Int} (hb : b = 0 ∨ b = 25) : js_J E d 53 44 [(2, 6 + b), (2, x1), (2, x2)] [] σ = js_J E d 53 49 [(2, 6 + b), (2, x1), (2, x2)] [(2, x2), (2, 22 + b)] σ :=
  (j_aload_n q_53_44 rfl).trans <| (j_get (ji := 4) (v := (2, 22 + b)) q_53_45 (js_Fo qy_53 qf_4_40) (js_o6b hb) rfl rfl rfl rfl).trans <| (j_aload_n q_53_48 rfl).trans <| rfl
theorem k_53_49 {E : js_E} {d : Nat} {σ σ2 : js_S} {x1 x2 z1 b : Int} (hb : b = 0 ∨ b = 25) (hd : 1 ≤ d) (hz : js_J E (d - 1) 54 0 [(2, 22 + b), (2, z1)] [] σ = js_r0 E σ2) : js_J E d 53 49 [(2, 6 + b), (2, x1), (2, x2)] [(2, z1), (2, 22 + b)] σ = js_J E d 53 52 [(2, 6 + b), (2, x1), (2, x2)] [] σ2 :=
  j_call0 (m := 0) (js_caV q_53_49 (js_Mo qy_53 qm_4_192)) (js_agV (av := [(2, z1)]) (st := []) rfl rfl (js_o22b hb) rfl) rfl rfl (by rw [ql_54]; exact Nat.le_of_ble_eq_true rfl) (Nat.le_of_ble_eq_true rfl) hd hz
theorem kt_53_49 {E : js_E} {d : Nat} {σ σ2 : js_S} {x1 x2 z1 b : Int} (hb : b = 0 ∨ b = 25) {w : Int} (hd : 1 ≤ d) (hz : js_J E (d - 1) 54 0 [(2, 22 + b), (2, z1)] [] σ = js_t E w σ2) : js_J E d 53 49 [(2, 6 + b), (2, x1), (2, x2)] [(2, z1), (2, 22 + b)] σ = js_t E w σ2 :=
  j_callT (m := 0) (js_caV q_53_49 (js_Mo qy_53 qm_4_192)) (js_agV (av := [(2, z1)]) (st := []) rfl rfl (js_o22b hb) rfl) rfl rfl (by rw [ql_54]; exact Nat.le_of_ble_eq_true rfl) (Nat.le_of_ble_eq_true rfl) hd rfl hz
theorem b_53_52 {E : js_E} {d : Nat} {σ : js_S} {x1 x2 b : Int} (hs_x2 : js_desc E.1 σ x2 = some (0, 11, js_sym)) (hs_x1 : js_desc E.1 σ x1 = some (0, 11, js_sym)) : js_J E d 53 52 [(2, 6 + b), (2, x1), (2, x2)] [] σ = js_r0 E (js_up (js_up σ x2 13 1) x1 6 (((js_up σ x2 13 1) x1 6) + 1)) :=
  (j_aload_n q_53_52 rfl).trans <| (j_iconst q_53_53).trans <| (j_putB1 (ji := 13) q_53_54 (js_Fo qy_53 qf_4_142) rfl hs_x2 rfl rfl rfl).trans <| (j_aload_n q_53_57 rfl).trans <| (j_dupr q_53_58).trans <| (j_get (ji := 6) (v := (0, (js_up σ x2 13 1) x1 6)) q_53_59 (js_Fo qy_53 qf_4_146) (js_ds hs_x1 (js_desc_nn hs_x2) (fun _ => by decide)) rfl rfl rfl rfl).trans <| (j_iconst q_53_62).trans <| (j_iadd q_53_63).trans <| (j_putI (ji := 6) q_53_64 (js_Fo qy_53 qf_4_146) rfl (js_ds hs_x1 (js_desc_nn hs_x2) (fun _ => by decide)) rfl rfl rfl).trans <| j_return q_53_67 qr_53
-- 54: VitalTwin$Statements.place (LVitalTwin$Symbol;)V
theorem b_54_0 {E : js_E} {d : Nat} {σ : js_S} {x1 b : Int} (hb : b = 0 ∨ b = 25) (hs_x1 : js_desc E.1 σ x1 = some (0, 11, js_sym)) : js_J E d 54 0 [(2, 22 + b), (2, x1)] [] σ = js_r0 E (js_up (js_up (js_up (js_up σ x1 7 (σ (22 + b) 0)) x1 11 (σ (8 + b) 8)) x1 5 (σ (8 + b) 9)) (8 + b) 9 ((σ (8 + b) 9) + (σ x1 6))) :=
  (j_aload_n q_54_0 rfl).trans <| (j_aload_n q_54_1 rfl).trans <| (j_get (ji := 0) (v := (0, σ (22 + b) 0)) q_54_2 (js_Fo qy_54 qf_10_39) (js_o22b hb) rfl rfl rfl rfl).trans <| (j_putI (ji := 7) q_54_5 (js_Fo qy_54 qf_10_132) rfl hs_x1 rfl rfl rfl).trans <| (j_aload_n q_54_8 rfl).trans <| (j_aload_n q_54_9 rfl).trans <| (j_get (ji := 3) (v := (2, 8 + b)) q_54_10 (js_Fo qy_54 qf_10_25) (js_o22b hb) rfl rfl rfl rfl).trans <| (j_get (ji := 8) (v := (0, σ (8 + b) 8)) q_54_13 (js_Fo qy_54 qf_10_133) (js_o8b hb) rfl rfl rfl (congrArg (Prod.mk 0) ((js_up_ne _ (by have := js_sym_ge hs_x1; omega))))).trans <| (j_putI (ji := 11) q_54_16 (js_Fo qy_54 qf_10_136) rfl (js_ds hs_x1 (js_desc_nn hs_x1) (fun _ => by decide)) rfl rfl rfl).trans <| (j_aload_n q_54_19 rfl).trans <| (j_aload_n q_54_20 rfl).trans <| (j_get (ji := 3) (v := (2, 8 + b)) q_54_21 (js_Fo qy_54 qf_10_25) (js_o22b hb) rfl rfl rfl rfl).trans <| (j_get (ji := 9) (v := (0, σ (8 + b) 9)) q_54_24 (js_Fo qy_54 qf_10_137) (js_o8b hb) rfl rfl rfl (congrArg (Prod.mk 0) ((js_up_ne _ (by have := js_sym_ge hs_x1; omega)).trans <| (js_up_ne _ (by have := js_sym_ge hs_x1; omega))))).trans <| (j_putI (ji := 5) q_54_27 (js_Fo qy_54 qf_10_140) rfl (js_ds (js_ds hs_x1 (js_desc_nn hs_x1) (fun _ => by decide)) (js_desc_nn hs_x1) (fun _ => by decide)) rfl rfl rfl).trans <| (j_aload_n q_54_30 rfl).trans <| (j_get (ji := 3) (v := (2, 8 + b)) q_54_31 (js_Fo qy_54 qf_10_25) (js_o22b hb) rfl rfl rfl rfl).trans <| (j_dupr q_54_34).trans <| (j_get (ji := 9) (v := (0, σ (8 + b) 9)) q_54_35 (js_Fo qy_54 qf_10_137) (js_o8b hb) rfl rfl rfl (congrArg (Prod.mk 0) ((js_up_ne _ (by have := js_sym_ge hs_x1; omega)).trans <| (js_up_ne _ (by have := js_sym_ge hs_x1; omega)).trans <| (js_up_ne _ (by have := js_sym_ge hs_x1; omega))))).trans <| (j_aload_n q_54_38 rfl).trans <| (j_get (ji := 6) (v := (0, σ x1 6)) q_54_39 (js_Fo qy_54 qf_10_143) (js_ds (js_ds (js_ds hs_x1 (js_desc_nn hs_x1) (fun _ => by decide)) (js_desc_nn hs_x1) (fun _ => by decide)) (js_desc_nn hs_x1) (fun _ => by decide)) rfl rfl rfl (congrArg (Prod.mk 0) ((js_up_ne _ (by omega)).trans <| (js_up_ne _ (by omega)).trans <| (js_up_ne _ (by omega))))).trans <| (j_iadd q_54_42).trans <| (j_putI (ji := 9) q_54_43 (js_Fo qy_54 qf_10_137) rfl (js_o8b hb) rfl rfl rfl).trans <| j_return q_54_46 qr_54
-- 55: VitalTwin$Statements.block (ILVitalTwin$Symbol;)V
theorem b_55_0 {E : js_E} {d : Nat} {σ : js_S} {x1 x2 b : Int} (hb : b = 0 ∨ b = 25) : js_J E d 55 0 [(2, 22 + b), (0, x1), (2, x2), (9, 0)] [] σ = js_J E d 55 6 [(2, 22 + b), (0, x1), (2, x2), (9, 0)] [(0, 123), (2, 1)] σ :=
  (j_aload_n q_55_0 rfl).trans <| (j_get (ji := 1) (v := (2, 1)) q_55_1 (js_Fo qy_55 qf_10_9) (js_o22b hb) rfl rfl rfl rfl).trans <| (j_bi q_55_4 rfl).trans <| rfl
theorem k_55_6 {E : js_E} {d : Nat} {σ σ2 : js_S} {x1 x2 z1 b : Int} (hd : 1 ≤ d) (hz : js_J E (d - 1) 47 0 [(2, 1), (0, z1)] [] σ = js_r0 E σ2) : js_J E d 55 6 [(2, 22 + b), (0, x1), (2, x2), (9, 0)] [(0, z1), (2, 1)] σ = js_J E d 55 9 [(2, 22 + b), (0, x1), (2, x2), (9, 0)] [] σ2 :=
  j_call0 (m := 0) (js_caV q_55_6 (js_Mo qy_55 qm_10_46)) (js_agV (av := [(0, z1)]) (st := []) rfl rfl js_o1 rfl) rfl rfl (by rw [ql_47]; exact Nat.le_of_ble_eq_true rfl) (Nat.le_of_ble_eq_true rfl) hd hz
theorem kt_55_6 {E : js_E} {d : Nat} {σ σ2 : js_S} {x1 x2 z1 b : Int} {w : Int} (hd : 1 ≤ d) (hz : js_J E (d - 1) 47 0 [(2, 1), (0, z1)] [] σ = js_t E w σ2) : js_J E d 55 6 [(2, 22 + b), (0, x1), (2, x2), (9, 0)] [(0, z1), (2, 1)] σ = js_t E w σ2 :=
  j_callT (m := 0) (js_caV q_55_6 (js_Mo qy_55 qm_10_46)) (js_agV (av := [(0, z1)]) (st := []) rfl rfl js_o1 rfl) rfl rfl (by rw [ql_47]; exact Nat.le_of_ble_eq_true rfl) (Nat.le_of_ble_eq_true rfl) hd rfl hz
theorem b_55_9 {E : js_E} {d : Nat} {σ : js_S} {x1 x2 b : Int} : js_J E d 55 9 [(2, 22 + b), (0, x1), (2, x2), (9, 0)] [] σ = js_J E d 55 11 [(2, 22 + b), (0, x1), (2, x2), (0, 0)] [] σ :=
  (j_iconst q_55_9).trans <| (j_istore_n (l2 := [(2, 22 + b), (0, x1), (2, x2), (0, 0)]) q_55_10 rfl (Nat.le_of_ble_eq_true rfl)).trans <| rfl
theorem b_55_11 {E : js_E} {d : Nat} {σ : js_S} {x1 x2 x3 b : Int} (hb : b = 0 ∨ b = 25) : js_J E d 55 11 [(2, 22 + b), (0, x1), (2, x2), (0, x3)] [] σ = (if js_w x3 < 1000000 then (if js_w (σ 1 1) = 125 then js_J E d 55 56 [(2, 22 + b), (0, x1), (2, x2), (0, x3)] [] σ else (if x2 < 0 then js_J E d 55 46 [(2, 22 + b), (0, x1), (2, x2), (0, x3)] [] σ else js_J E d 55 33 [(2, 22 + b), (0, x1), (2, x2), (0, x3)] [] σ)) else js_J E d 55 56 [(2, 22 + b), (0, x1), (2, x2), (0, x3)] [] σ) :=
  (j_iload_n q_55_11 rfl).trans <| (j_ldc (v := (0, 1000000)) q_55_12 (js_Co qy_55 qc_10_52)).trans <| (j_cmpgeB (t := 56) q_55_14 rfl ww_1000000).trans (js_ite ((j_aload_n q_55_17 rfl).trans <| (j_get (ji := 1) (v := (2, 1)) q_55_18 (js_Fo qy_55 qf_10_9) (js_o22b hb) rfl rfl rfl rfl).trans <| (j_get (ji := 1) (v := (0, σ 1 1)) q_55_21 (js_Fo qy_55 qf_10_53) js_o1 rfl rfl rfl rfl).trans <| (j_bi q_55_24 rfl).trans <| (j_cmpeqB (t := 56) q_55_26 rfl ww_125).trans (js_ite (rfl) ((j_aload_n q_55_29 rfl).trans <| (j_ifnull (t := 46) q_55_30 rfl).trans (js_ite (rfl) (rfl))))) (rfl))
theorem b_55_33 {E : js_E} {d : Nat} {σ : js_S} {x1 x2 x3 b : Int} (hb : b = 0 ∨ b = 25) : js_J E d 55 33 [(2, 22 + b), (0, x1), (2, x2), (0, x3)] [] σ = (if js_w (σ 1 1) = 213 then js_J E d 55 56 [(2, 22 + b), (0, x1), (2, x2), (0, x3)] [] σ else js_J E d 55 46 [(2, 22 + b), (0, x1), (2, x2), (0, x3)] [] σ) :=
  (j_aload_n q_55_33 rfl).trans <| (j_get (ji := 1) (v := (2, 1)) q_55_34 (js_Fo qy_55 qf_10_9) (js_o22b hb) rfl rfl rfl rfl).trans <| (j_get (ji := 1) (v := (0, σ 1 1)) q_55_37 (js_Fo qy_55 qf_10_53) js_o1 rfl rfl rfl rfl).trans <| (j_si q_55_40 rfl).trans <| (j_cmpeqB (t := 56) q_55_43 rfl ww_213).trans (js_ite (rfl) (rfl))
theorem b_55_46 {E : js_E} {d : Nat} {σ : js_S} {x1 x2 x3 b : Int} : js_J E d 55 46 [(2, 22 + b), (0, x1), (2, x2), (0, x3)] [] σ = js_J E d 55 47 [(2, 22 + b), (0, x1), (2, x2), (0, x3)] [(2, 22 + b)] σ :=
  (j_aload_n q_55_46 rfl).trans <| rfl
theorem k_55_47 {E : js_E} {d : Nat} {σ σ2 : js_S} {x1 x2 x3 b : Int} (hb : b = 0 ∨ b = 25) (hd : 1 ≤ d) (hz : js_J E (d - 1) 56 0 [(2, 22 + b), (9, 0), (9, 0)] [] σ = js_r0 E σ2) : js_J E d 55 47 [(2, 22 + b), (0, x1), (2, x2), (0, x3)] [(2, 22 + b)] σ = js_J E d 55 50 [(2, 22 + b), (0, x1), (2, x2), (0, x3)] [] σ2 :=
  j_call0 (m := 2) (js_caV q_55_47 (js_Mo qy_55 qm_10_56)) (js_agV (av := []) (st := []) rfl rfl (js_o22b hb) rfl) rfl rfl (by rw [ql_56]; exact Nat.le_of_ble_eq_true rfl) (Nat.le_of_ble_eq_true rfl) hd hz
theorem kt_55_47 {E : js_E} {d : Nat} {σ σ2 : js_S} {x1 x2 x3 b : Int} (hb : b = 0 ∨ b = 25) {w : Int} (hd : 1 ≤ d) (hz : js_J E (d - 1) 56 0 [(2, 22 + b), (9, 0), (9, 0)] [] σ = js_t E w σ2) : js_J E d 55 47 [(2, 22 + b), (0, x1), (2, x2), (0, x3)] [(2, 22 + b)] σ = js_t E w σ2 :=
  j_callT (m := 2) (js_caV q_55_47 (js_Mo qy_55 qm_10_56)) (js_agV (av := []) (st := []) rfl rfl (js_o22b hb) rfl) rfl rfl (by rw [ql_56]; exact Nat.le_of_ble_eq_true rfl) (Nat.le_of_ble_eq_true rfl) hd rfl hz
theorem b_55_50 {E : js_E} {d : Nat} {σ : js_S} {x1 x2 x3 b : Int} : js_J E d 55 50 [(2, 22 + b), (0, x1), (2, x2), (0, x3)] [] σ = js_J E d 55 11 [(2, 22 + b), (0, x1), (2, x2), (0, x3 + 1)] [] σ :=
  (j_iinc (l2 := [(2, 22 + b), (0, x1), (2, x2), (0, x3 + 1)]) q_55_50 rfl rfl).trans <| (j_goto (t := 11) q_55_53 rfl).trans <| rfl
theorem b_55_56 {E : js_E} {d : Nat} {σ : js_S} {x1 x2 x3 b : Int} : js_J E d 55 56 [(2, 22 + b), (0, x1), (2, x2), (0, x3)] [] σ = (if x2 < 0 then js_J E d 55 105 [(2, 22 + b), (0, x1), (2, x2), (0, x3)] [] σ else js_J E d 55 60 [(2, 22 + b), (0, x1), (2, x2), (0, x3)] [] σ) :=
  (j_aload_n q_55_56 rfl).trans <| (j_ifnull (t := 105) q_55_57 rfl).trans (js_ite (rfl) (rfl))
theorem b_55_60 {E : js_E} {d : Nat} {σ : js_S} {x1 x2 x3 b : Int} (hb : b = 0 ∨ b = 25) : js_J E d 55 60 [(2, 22 + b), (0, x1), (2, x2), (0, x3)] [] σ = js_J E d 55 67 [(2, 22 + b), (0, x1), (2, x2), (0, x3)] [(0, 213), (2, 1)] σ :=
  (j_aload_n q_55_60 rfl).trans <| (j_get (ji := 1) (v := (2, 1)) q_55_61 (js_Fo qy_55 qf_10_9) (js_o22b hb) rfl rfl rfl rfl).trans <| (j_si q_55_64 rfl).trans <| rfl
theorem k_55_67 {E : js_E} {d : Nat} {σ σ2 : js_S} {x1 x2 x3 z1 b : Int} (hd : 1 ≤ d) (hz : js_J E (d - 1) 40 0 [(2, 1), (0, z1)] [] σ = js_r0 E σ2) : js_J E d 55 67 [(2, 22 + b), (0, x1), (2, x2), (0, x3)] [(0, z1), (2, 1)] σ = js_J E d 55 70 [(2, 22 + b), (0, x1), (2, x2), (0, x3)] [] σ2 :=
  j_call0 (m := 0) (js_caV q_55_67 (js_Mo qy_55 qm_10_59)) (js_agV (av := [(0, z1)]) (st := []) rfl rfl js_o1 rfl) rfl rfl (by rw [ql_40]; exact Nat.le_of_ble_eq_true rfl) (Nat.le_of_ble_eq_true rfl) hd hz
theorem kt_55_67 {E : js_E} {d : Nat} {σ σ2 : js_S} {x1 x2 x3 z1 b : Int} {w : Int} (hd : 1 ≤ d) (hz : js_J E (d - 1) 40 0 [(2, 1), (0, z1)] [] σ = js_t E w σ2) : js_J E d 55 67 [(2, 22 + b), (0, x1), (2, x2), (0, x3)] [(0, z1), (2, 1)] σ = js_t E w σ2 :=
  j_callT (m := 0) (js_caV q_55_67 (js_Mo qy_55 qm_10_59)) (js_agV (av := [(0, z1)]) (st := []) rfl rfl js_o1 rfl) rfl rfl (by rw [ql_40]; exact Nat.le_of_ble_eq_true rfl) (Nat.le_of_ble_eq_true rfl) hd rfl hz
theorem b_55_70 {E : js_E} {d : Nat} {σ : js_S} {x1 x2 x3 b : Int} (hb : b = 0 ∨ b = 25) : js_J E d 55 70 [(2, 22 + b), (0, x1), (2, x2), (0, x3)] [] σ = js_J E d 55 74 [(2, 22 + b), (0, x1), (2, x2), (0, x3)] [(2, 23 + b)] σ :=
  (j_aload_n q_55_70 rfl).trans <| (j_get (ji := 5) (v := (2, 23 + b)) q_55_71 (js_Fo qy_55 qf_10_35) (js_o22b hb) rfl rfl rfl rfl).trans <| rfl
theorem k_55_74 {E : js_E} {d : Nat} {σ σ2 : js_S} {x1 x2 x3 b : Int} (hb : b = 0 ∨ b = 25) (hd : 1 ≤ d) (hz : js_J E (d - 1) 61 0 [(2, 23 + b), (9, 0), (9, 0), (9, 0), (9, 0), (9, 0), (9, 0)] [] σ = js_r0 E σ2) : js_J E d 55 74 [(2, 22 + b), (0, x1), (2, x2), (0, x3)] [(2, 23 + b)] σ = js_J E d 55 77 [(2, 22 + b), (0, x1), (2, x2), (0, x3)] [] σ2 :=
  j_call0 (m := 6) (js_caV q_55_74 (js_Mo qy_55 qm_10_62)) (js_agV (av := []) (st := []) rfl rfl (js_o23b hb) rfl) rfl rfl (by rw [ql_61]; exact Nat.le_of_ble_eq_true rfl) (Nat.le_of_ble_eq_true rfl) hd hz
theorem kt_55_74 {E : js_E} {d : Nat} {σ σ2 : js_S} {x1 x2 x3 b : Int} (hb : b = 0 ∨ b = 25) {w : Int} (hd : 1 ≤ d) (hz : js_J E (d - 1) 61 0 [(2, 23 + b), (9, 0), (9, 0), (9, 0), (9, 0), (9, 0), (9, 0)] [] σ = js_t E w σ2) : js_J E d 55 74 [(2, 22 + b), (0, x1), (2, x2), (0, x3)] [(2, 23 + b)] σ = js_t E w σ2 :=
  j_callT (m := 6) (js_caV q_55_74 (js_Mo qy_55 qm_10_62)) (js_agV (av := []) (st := []) rfl rfl (js_o23b hb) rfl) rfl rfl (by rw [ql_61]; exact Nat.le_of_ble_eq_true rfl) (Nat.le_of_ble_eq_true rfl) hd rfl hz
theorem b_55_77 {E : js_E} {d : Nat} {σ : js_S} {x1 x2 x3 b : Int} (hb : b = 0 ∨ b = 25) (hs_x2 : js_desc E.1 σ x2 = some (0, 11, js_sym)) : js_J E d 55 77 [(2, 22 + b), (0, x1), (2, x2), (0, x3)] [] σ = js_J E d 55 93 [(2, 22 + b), (0, x1), (2, x2), (0, x3)] [(0, σ x2 4), (0, σ x2 3), (0, σ x2 2), (2, 23 + b)] σ :=
  (j_aload_n q_55_77 rfl).trans <| (j_get (ji := 5) (v := (2, 23 + b)) q_55_78 (js_Fo qy_55 qf_10_35) (js_o22b hb) rfl rfl rfl rfl).trans <| (j_aload_n q_55_81 rfl).trans <| (j_get (ji := 2) (v := (0, σ x2 2)) q_55_82 (js_Fo qy_55 qf_10_65) hs_x2 rfl rfl rfl rfl).trans <| (j_aload_n q_55_85 rfl).trans <| (j_get (ji := 3) (v := (0, σ x2 3)) q_55_86 (js_Fo qy_55 qf_10_70) hs_x2 rfl rfl rfl rfl).trans <| (j_aload_n q_55_89 rfl).trans <| (j_get (ji := 4) (v := (0, σ x2 4)) q_55_90 (js_Fo qy_55 qf_10_73) hs_x2 rfl rfl rfl rfl).trans <| rfl
theorem k_55_93 {E : js_E} {d : Nat} {σ σ2 : js_S} {x1 x2 x3 z1 z2 z3 b : Int} (hb : b = 0 ∨ b = 25) (hd : 1 ≤ d) (hz : js_J E (d - 1) 68 0 [(2, 23 + b), (0, z1), (0, z2), (0, z3)] [] σ = js_r0 E σ2) : js_J E d 55 93 [(2, 22 + b), (0, x1), (2, x2), (0, x3)] [(0, z3), (0, z2), (0, z1), (2, 23 + b)] σ = js_J E d 55 96 [(2, 22 + b), (0, x1), (2, x2), (0, x3)] [] σ2 :=
  j_call0 (m := 0) (js_caV q_55_93 (js_Mo qy_55 qm_10_76)) (js_agV (av := [(0, z1), (0, z2), (0, z3)]) (st := []) rfl rfl (js_o23b hb) rfl) rfl rfl (by rw [ql_68]; exact Nat.le_of_ble_eq_true rfl) (Nat.le_of_ble_eq_true rfl) hd hz
theorem kt_55_93 {E : js_E} {d : Nat} {σ σ2 : js_S} {x1 x2 x3 z1 z2 z3 b : Int} (hb : b = 0 ∨ b = 25) {w : Int} (hd : 1 ≤ d) (hz : js_J E (d - 1) 68 0 [(2, 23 + b), (0, z1), (0, z2), (0, z3)] [] σ = js_t E w σ2) : js_J E d 55 93 [(2, 22 + b), (0, x1), (2, x2), (0, x3)] [(0, z3), (0, z2), (0, z1), (2, 23 + b)] σ = js_t E w σ2 :=
  j_callT (m := 0) (js_caV q_55_93 (js_Mo qy_55 qm_10_76)) (js_agV (av := [(0, z1), (0, z2), (0, z3)]) (st := []) rfl rfl (js_o23b hb) rfl) rfl rfl (by rw [ql_68]; exact Nat.le_of_ble_eq_true rfl) (Nat.le_of_ble_eq_true rfl) hd rfl hz
theorem b_55_96 {E : js_E} {d : Nat} {σ : js_S} {x1 x2 x3 b : Int} (hb : b = 0 ∨ b = 25) : js_J E d 55 96 [(2, 22 + b), (0, x1), (2, x2), (0, x3)] [] σ = js_J E d 55 102 [(2, 22 + b), (0, x1), (2, x2), (0, x3)] [(0, 59), (2, 1)] σ :=
  (j_aload_n q_55_96 rfl).trans <| (j_get (ji := 1) (v := (2, 1)) q_55_97 (js_Fo qy_55 qf_10_9) (js_o22b hb) rfl rfl rfl rfl).trans <| (j_bi q_55_100 rfl).trans <| rfl
theorem k_55_102 {E : js_E} {d : Nat} {σ σ2 : js_S} {x1 x2 x3 z1 b : Int} (hd : 1 ≤ d) (hz : js_J E (d - 1) 40 0 [(2, 1), (0, z1)] [] σ = js_r0 E σ2) : js_J E d 55 102 [(2, 22 + b), (0, x1), (2, x2), (0, x3)] [(0, z1), (2, 1)] σ = js_J E d 55 105 [(2, 22 + b), (0, x1), (2, x2), (0, x3)] [] σ2 :=
  j_call0 (m := 0) (js_caV q_55_102 (js_Mo qy_55 qm_10_59)) (js_agV (av := [(0, z1)]) (st := []) rfl rfl js_o1 rfl) rfl rfl (by rw [ql_40]; exact Nat.le_of_ble_eq_true rfl) (Nat.le_of_ble_eq_true rfl) hd hz
theorem kt_55_102 {E : js_E} {d : Nat} {σ σ2 : js_S} {x1 x2 x3 z1 b : Int} {w : Int} (hd : 1 ≤ d) (hz : js_J E (d - 1) 40 0 [(2, 1), (0, z1)] [] σ = js_t E w σ2) : js_J E d 55 102 [(2, 22 + b), (0, x1), (2, x2), (0, x3)] [(0, z1), (2, 1)] σ = js_t E w σ2 :=
  j_callT (m := 0) (js_caV q_55_102 (js_Mo qy_55 qm_10_59)) (js_agV (av := [(0, z1)]) (st := []) rfl rfl js_o1 rfl) rfl rfl (by rw [ql_40]; exact Nat.le_of_ble_eq_true rfl) (Nat.le_of_ble_eq_true rfl) hd rfl hz
theorem b_55_105 {E : js_E} {d : Nat} {σ : js_S} {x1 x2 x3 b : Int} (hb : b = 0 ∨ b = 25) : js_J E d 55 105 [(2, 22 + b), (0, x1), (2, x2), (0, x3)] [] σ = js_J E d 55 111 [(2, 22 + b), (0, x1), (2, x2), (0, x3)] [(0, 125), (2, 1)] σ :=
  (j_aload_n q_55_105 rfl).trans <| (j_get (ji := 1) (v := (2, 1)) q_55_106 (js_Fo qy_55 qf_10_9) (js_o22b hb) rfl rfl rfl rfl).trans <| (j_bi q_55_109 rfl).trans <| rfl
theorem k_55_111 {E : js_E} {d : Nat} {σ σ2 : js_S} {x1 x2 x3 z1 b : Int} (hd : 1 ≤ d) (hz : js_J E (d - 1) 48 0 [(2, 1), (0, z1)] [] σ = js_r0 E σ2) : js_J E d 55 111 [(2, 22 + b), (0, x1), (2, x2), (0, x3)] [(0, z1), (2, 1)] σ = js_J E d 55 114 [(2, 22 + b), (0, x1), (2, x2), (0, x3)] [] σ2 :=
  j_call0 (m := 0) (js_caV q_55_111 (js_Mo qy_55 qm_10_80)) (js_agV (av := [(0, z1)]) (st := []) rfl rfl js_o1 rfl) rfl rfl (by rw [ql_48]; exact Nat.le_of_ble_eq_true rfl) (Nat.le_of_ble_eq_true rfl) hd hz
theorem kt_55_111 {E : js_E} {d : Nat} {σ σ2 : js_S} {x1 x2 x3 z1 b : Int} {w : Int} (hd : 1 ≤ d) (hz : js_J E (d - 1) 48 0 [(2, 1), (0, z1)] [] σ = js_t E w σ2) : js_J E d 55 111 [(2, 22 + b), (0, x1), (2, x2), (0, x3)] [(0, z1), (2, 1)] σ = js_t E w σ2 :=
  j_callT (m := 0) (js_caV q_55_111 (js_Mo qy_55 qm_10_80)) (js_agV (av := [(0, z1)]) (st := []) rfl rfl js_o1 rfl) rfl rfl (by rw [ql_48]; exact Nat.le_of_ble_eq_true rfl) (Nat.le_of_ble_eq_true rfl) hd rfl hz
theorem b_55_114 {E : js_E} {d : Nat} {σ : js_S} {x1 x2 x3 b : Int} (hb : b = 0 ∨ b = 25) : js_J E d 55 114 [(2, 22 + b), (0, x1), (2, x2), (0, x3)] [] σ = js_J E d 55 119 [(2, 22 + b), (0, x1), (2, x2), (0, x3)] [(0, x1), (2, 7 + b)] σ :=
  (j_aload_n q_55_114 rfl).trans <| (j_get (ji := 2) (v := (2, 7 + b)) q_55_115 (js_Fo qy_55 qf_10_15) (js_o22b hb) rfl rfl rfl rfl).trans <| (j_iload_n q_55_118 rfl).trans <| rfl
theorem k_55_119 {E : js_E} {d : Nat} {σ σ2 : js_S} {x1 x2 x3 z1 b : Int} (hb : b = 0 ∨ b = 25) (hd : 1 ≤ d) (hz : js_J E (d - 1) 110 0 [(2, 7 + b), (0, z1), (9, 0), (9, 0)] [] σ = js_r0 E σ2) : js_J E d 55 119 [(2, 22 + b), (0, x1), (2, x2), (0, x3)] [(0, z1), (2, 7 + b)] σ = js_J E d 55 122 [(2, 22 + b), (0, x1), (2, x2), (0, x3)] [] σ2 :=
  j_call0 (m := 2) (js_caV q_55_119 (js_Mo qy_55 qm_10_83)) (js_agV (av := [(0, z1)]) (st := []) rfl rfl (js_o7b hb) rfl) rfl rfl (by rw [ql_110]; exact Nat.le_of_ble_eq_true rfl) (Nat.le_of_ble_eq_true rfl) hd hz
theorem kt_55_119 {E : js_E} {d : Nat} {σ σ2 : js_S} {x1 x2 x3 z1 b : Int} (hb : b = 0 ∨ b = 25) {w : Int} (hd : 1 ≤ d) (hz : js_J E (d - 1) 110 0 [(2, 7 + b), (0, z1), (9, 0), (9, 0)] [] σ = js_t E w σ2) : js_J E d 55 119 [(2, 22 + b), (0, x1), (2, x2), (0, x3)] [(0, z1), (2, 7 + b)] σ = js_t E w σ2 :=
  j_callT (m := 2) (js_caV q_55_119 (js_Mo qy_55 qm_10_83)) (js_agV (av := [(0, z1)]) (st := []) rfl rfl (js_o7b hb) rfl) rfl rfl (by rw [ql_110]; exact Nat.le_of_ble_eq_true rfl) (Nat.le_of_ble_eq_true rfl) hd rfl hz
theorem b_55_122 {E : js_E} {d : Nat} {σ : js_S} {x1 x2 x3 b : Int} : js_J E d 55 122 [(2, 22 + b), (0, x1), (2, x2), (0, x3)] [] σ = js_r0 E σ :=
  j_return q_55_122 qr_55
-- 56: VitalTwin$Statements.statement ()V
theorem b_56_0 {E : js_E} {d : Nat} {σ : js_S} {b : Int} (hb : b = 0 ∨ b = 25) : js_J E d 56 0 [(2, 22 + b), (9, 0), (9, 0)] [] σ = js_J E d 56 7 [(2, 22 + b), (9, 0), (9, 0)] [(0, σ 1 1)] σ :=
  (j_aload_n q_56_0 rfl).trans <| (j_get (ji := 1) (v := (2, 1)) q_56_1 (js_Fo qy_56 qf_10_9) (js_o22b hb) rfl rfl rfl rfl).trans <| (j_get (ji := 1) (v := (0, σ 1 1)) q_56_4 (js_Fo qy_56 qf_10_53) js_o1 rfl rfl rfl rfl).trans <| rfl
theorem s_56_7_2 {E : js_E} {d : Nat} {σ : js_S} {z0 b : Int} (h : js_w z0 = 2) : js_J E d 56 7 [(2, 22 + b), (9, 0), (9, 0)] [(0, z0)] σ = js_J E d 56 126 [(2, 22 + b), (9, 0), (9, 0)] [] σ :=
  j_lsw (t := 126) q_56_7 (by rw [h]; rfl)
theorem s_56_7_205 {E : js_E} {d : Nat} {σ : js_S} {z0 b : Int} (h : js_w z0 = 205) : js_J E d 56 7 [(2, 22 + b), (9, 0), (9, 0)] [(0, z0)] σ = js_J E d 56 64 [(2, 22 + b), (9, 0), (9, 0)] [] σ :=
  j_lsw (t := 64) q_56_7 (by rw [h]; rfl)
theorem s_56_7_207 {E : js_E} {d : Nat} {σ : js_S} {z0 b : Int} (h : js_w z0 = 207) : js_J E d 56 7 [(2, 22 + b), (9, 0), (9, 0)] [(0, z0)] σ = js_J E d 56 112 [(2, 22 + b), (9, 0), (9, 0)] [] σ :=
  j_lsw (t := 112) q_56_7 (by rw [h]; rfl)
theorem s_56_7_209 {E : js_E} {d : Nat} {σ : js_S} {z0 b : Int} (h : js_w z0 = 209) : js_J E d 56 7 [(2, 22 + b), (9, 0), (9, 0)] [(0, z0)] σ = js_J E d 56 105 [(2, 22 + b), (9, 0), (9, 0)] [] σ :=
  j_lsw (t := 105) q_56_7 (by rw [h]; rfl)
theorem s_56_7_210 {E : js_E} {d : Nat} {σ : js_S} {z0 b : Int} (h : js_w z0 = 210) : js_J E d 56 7 [(2, 22 + b), (9, 0), (9, 0)] [(0, z0)] σ = js_J E d 56 119 [(2, 22 + b), (9, 0), (9, 0)] [] σ :=
  j_lsw (t := 119) q_56_7 (by rw [h]; rfl)
theorem s_56_7_212 {E : js_E} {d : Nat} {σ : js_S} {z0 b : Int} (h : js_w z0 = 212) : js_J E d 56 7 [(2, 22 + b), (9, 0), (9, 0)] [(0, z0)] σ = js_J E d 56 71 [(2, 22 + b), (9, 0), (9, 0)] [] σ :=
  j_lsw (t := 71) q_56_7 (by rw [h]; rfl)
theorem s_56_7_d {E : js_E} {d : Nat} {σ : js_S} {z0 b : Int} (h : js_w z0 ≠ 2 ∧ js_w z0 ≠ 205 ∧ js_w z0 ≠ 207 ∧ js_w z0 ≠ 209 ∧ js_w z0 ≠ 210 ∧ js_w z0 ≠ 212) : js_J E d 56 7 [(2, 22 + b), (9, 0), (9, 0)] [(0, z0)] σ = js_J E d 56 184 [(2, 22 + b), (9, 0), (9, 0)] [] σ :=
  j_lsw (t := 184) q_56_7 (by obtain ⟨h0, h1, h2, h3, h4, h5⟩ := h; simp [Op.lookupswitch.offset, Ne.symm h0, Ne.symm h1, Ne.symm h2, Ne.symm h3, Ne.symm h4, Ne.symm h5]; rfl)
theorem b_56_64 {E : js_E} {d : Nat} {σ : js_S} {b : Int} : js_J E d 56 64 [(2, 22 + b), (9, 0), (9, 0)] [] σ = js_J E d 56 65 [(2, 22 + b), (9, 0), (9, 0)] [(2, 22 + b)] σ :=
  (j_aload_n q_56_64 rfl).trans <| rfl
theorem k_56_65 {E : js_E} {d : Nat} {σ σ2 : js_S} {b : Int} (hb : b = 0 ∨ b = 25) (hd : 1 ≤ d) (hz : js_J E (d - 1) 57 0 [(2, 22 + b), (9, 0), (9, 0)] [] σ = js_r0 E σ2) : js_J E d 56 65 [(2, 22 + b), (9, 0), (9, 0)] [(2, 22 + b)] σ = js_J E d 56 68 [(2, 22 + b), (9, 0), (9, 0)] [] σ2 :=
  j_call0 (m := 2) (js_caV q_56_65 (js_Mo qy_56 qm_10_86)) (js_agV (av := []) (st := []) rfl rfl (js_o22b hb) rfl) rfl rfl (by rw [ql_57]; exact Nat.le_of_ble_eq_true rfl) (Nat.le_of_ble_eq_true rfl) hd hz
theorem kt_56_65 {E : js_E} {d : Nat} {σ σ2 : js_S} {b : Int} (hb : b = 0 ∨ b = 25) {w : Int} (hd : 1 ≤ d) (hz : js_J E (d - 1) 57 0 [(2, 22 + b), (9, 0), (9, 0)] [] σ = js_t E w σ2) : js_J E d 56 65 [(2, 22 + b), (9, 0), (9, 0)] [(2, 22 + b)] σ = js_t E w σ2 :=
  j_callT (m := 2) (js_caV q_56_65 (js_Mo qy_56 qm_10_86)) (js_agV (av := []) (st := []) rfl rfl (js_o22b hb) rfl) rfl rfl (by rw [ql_57]; exact Nat.le_of_ble_eq_true rfl) (Nat.le_of_ble_eq_true rfl) hd rfl hz
theorem b_56_68 {E : js_E} {d : Nat} {σ : js_S} {b : Int} : js_J E d 56 68 [(2, 22 + b), (9, 0), (9, 0)] [] σ = js_J E d 56 199 [(2, 22 + b), (9, 0), (9, 0)] [] σ :=
  (j_goto (t := 199) q_56_68 rfl).trans <| rfl
theorem b_56_71 {E : js_E} {d : Nat} {σ : js_S} {b : Int} (hb : b = 0 ∨ b = 25) : js_J E d 56 71 [(2, 22 + b), (9, 0), (9, 0)] [] σ = js_J E d 56 75 [(2, 22 + b), (9, 0), (9, 0)] [(2, 1)] σ :=
  (j_aload_n q_56_71 rfl).trans <| (j_get (ji := 1) (v := (2, 1)) q_56_72 (js_Fo qy_56 qf_10_9) (js_o22b hb) rfl rfl rfl rfl).trans <| rfl
theorem k_56_75 {E : js_E} {d : Nat} {σ σ2 : js_S} {b : Int} (hd : 1 ≤ d) (hz : js_J E (d - 1) 33 0 [(2, 1), (9, 0)] [] σ = js_r0 E σ2) : js_J E d 56 75 [(2, 22 + b), (9, 0), (9, 0)] [(2, 1)] σ = js_J E d 56 78 [(2, 22 + b), (9, 0), (9, 0)] [] σ2 :=
  j_call0 (m := 1) (js_caV q_56_75 (js_Mo qy_56 qm_10_89)) (js_agV (av := []) (st := []) rfl rfl js_o1 rfl) rfl rfl (by rw [ql_33]; exact Nat.le_of_ble_eq_true rfl) (Nat.le_of_ble_eq_true rfl) hd hz
theorem kt_56_75 {E : js_E} {d : Nat} {σ σ2 : js_S} {b : Int} {w : Int} (hd : 1 ≤ d) (hz : js_J E (d - 1) 33 0 [(2, 1), (9, 0)] [] σ = js_t E w σ2) : js_J E d 56 75 [(2, 22 + b), (9, 0), (9, 0)] [(2, 1)] σ = js_t E w σ2 :=
  j_callT (m := 1) (js_caV q_56_75 (js_Mo qy_56 qm_10_89)) (js_agV (av := []) (st := []) rfl rfl js_o1 rfl) rfl rfl (by rw [ql_33]; exact Nat.le_of_ble_eq_true rfl) (Nat.le_of_ble_eq_true rfl) hd rfl hz
theorem b_56_78 {E : js_E} {d : Nat} {σ : js_S} {b : Int} : js_J E d 56 78 [(2, 22 + b), (9, 0), (9, 0)] [] σ = js_J E d 56 79 [(2, 22 + b), (9, 0), (9, 0)] [(2, 22 + b)] σ :=
  (j_aload_n q_56_78 rfl).trans <| rfl
theorem k_56_79 {E : js_E} {d : Nat} {σ σ2 : js_S} {b : Int} (hb : b = 0 ∨ b = 25) (hd : 1 ≤ d) (hz : js_J E (d - 1) 98 0 [(2, 22 + b)] [] σ = js_r0 E σ2) : js_J E d 56 79 [(2, 22 + b), (9, 0), (9, 0)] [(2, 22 + b)] σ = js_J E d 56 82 [(2, 22 + b), (9, 0), (9, 0)] [] σ2 :=
  j_call0 (m := 0) (js_caV q_56_79 (js_Mo qy_56 qm_10_92)) (js_agV (av := []) (st := []) rfl rfl (js_o22b hb) rfl) rfl rfl (by rw [ql_98]; exact Nat.le_of_ble_eq_true rfl) (Nat.le_of_ble_eq_true rfl) hd hz
theorem kt_56_79 {E : js_E} {d : Nat} {σ σ2 : js_S} {b : Int} (hb : b = 0 ∨ b = 25) {w : Int} (hd : 1 ≤ d) (hz : js_J E (d - 1) 98 0 [(2, 22 + b)] [] σ = js_t E w σ2) : js_J E d 56 79 [(2, 22 + b), (9, 0), (9, 0)] [(2, 22 + b)] σ = js_t E w σ2 :=
  j_callT (m := 0) (js_caV q_56_79 (js_Mo qy_56 qm_10_92)) (js_agV (av := []) (st := []) rfl rfl (js_o22b hb) rfl) rfl rfl (by rw [ql_98]; exact Nat.le_of_ble_eq_true rfl) (Nat.le_of_ble_eq_true rfl) hd rfl hz
theorem b_56_82 {E : js_E} {d : Nat} {σ : js_S} {b : Int} (hb : b = 0 ∨ b = 25) : js_J E d 56 82 [(2, 22 + b), (9, 0), (9, 0)] [] σ = js_J E d 56 89 [(2, 22 + b), (9, 0), (9, 0)] [(0, 0), (0, 30), (2, 8 + b)] σ :=
  (j_aload_n q_56_82 rfl).trans <| (j_get (ji := 3) (v := (2, 8 + b)) q_56_83 (js_Fo qy_56 qf_10_25) (js_o22b hb) rfl rfl rfl rfl).trans <| (j_bi q_56_86 rfl).trans <| (j_iconst q_56_88).trans <| rfl
theorem k_56_89 {E : js_E} {d : Nat} {σ σ2 : js_S} {z1 z2 b : Int} (hb : b = 0 ∨ b = 25) {v : Int} (hd : 1 ≤ d) (hz : js_J E (d - 1) 95 0 [(2, 8 + b), (0, z1), (0, z2)] [] σ = js_r E (0, v) σ2) : js_J E d 56 89 [(2, 22 + b), (9, 0), (9, 0)] [(0, z2), (0, z1), (2, 8 + b)] σ = js_J E d 56 92 [(2, 22 + b), (9, 0), (9, 0)] [(0, v)] σ2 :=
  j_call (m := 0) (js_caV q_56_89 (js_Mo qy_56 qm_10_95)) (js_agV (av := [(0, z1), (0, z2)]) (st := []) rfl rfl (js_o8b hb) rfl) rfl rfl (by rw [ql_95]; exact Nat.le_of_ble_eq_true rfl) (Nat.le_of_ble_eq_true rfl) hd hz
theorem kt_56_89 {E : js_E} {d : Nat} {σ σ2 : js_S} {z1 z2 b : Int} (hb : b = 0 ∨ b = 25) {w : Int} (hd : 1 ≤ d) (hz : js_J E (d - 1) 95 0 [(2, 8 + b), (0, z1), (0, z2)] [] σ = js_t E w σ2) : js_J E d 56 89 [(2, 22 + b), (9, 0), (9, 0)] [(0, z2), (0, z1), (2, 8 + b)] σ = js_t E w σ2 :=
  j_callT (m := 0) (js_caV q_56_89 (js_Mo qy_56 qm_10_95)) (js_agV (av := [(0, z1), (0, z2)]) (st := []) rfl rfl (js_o8b hb) rfl) rfl rfl (by rw [ql_95]; exact Nat.le_of_ble_eq_true rfl) (Nat.le_of_ble_eq_true rfl) hd rfl hz
theorem b_56_92 {E : js_E} {d : Nat} {σ : js_S} {z0 b : Int} (hb : b = 0 ∨ b = 25) : js_J E d 56 92 [(2, 22 + b), (9, 0), (9, 0)] [(0, z0)] σ = js_J E d 56 99 [(2, 22 + b), (9, 0), (9, 0)] [(0, 59), (2, 1)] σ :=
  (j_pop0 q_56_92).trans <| (j_aload_n q_56_93 rfl).trans <| (j_get (ji := 1) (v := (2, 1)) q_56_94 (js_Fo qy_56 qf_10_9) (js_o22b hb) rfl rfl rfl rfl).trans <| (j_bi q_56_97 rfl).trans <| rfl
theorem k_56_99 {E : js_E} {d : Nat} {σ σ2 : js_S} {z1 b : Int} (hd : 1 ≤ d) (hz : js_J E (d - 1) 40 0 [(2, 1), (0, z1)] [] σ = js_r0 E σ2) : js_J E d 56 99 [(2, 22 + b), (9, 0), (9, 0)] [(0, z1), (2, 1)] σ = js_J E d 56 102 [(2, 22 + b), (9, 0), (9, 0)] [] σ2 :=
  j_call0 (m := 0) (js_caV q_56_99 (js_Mo qy_56 qm_10_59)) (js_agV (av := [(0, z1)]) (st := []) rfl rfl js_o1 rfl) rfl rfl (by rw [ql_40]; exact Nat.le_of_ble_eq_true rfl) (Nat.le_of_ble_eq_true rfl) hd hz
theorem kt_56_99 {E : js_E} {d : Nat} {σ σ2 : js_S} {z1 b : Int} {w : Int} (hd : 1 ≤ d) (hz : js_J E (d - 1) 40 0 [(2, 1), (0, z1)] [] σ = js_t E w σ2) : js_J E d 56 99 [(2, 22 + b), (9, 0), (9, 0)] [(0, z1), (2, 1)] σ = js_t E w σ2 :=
  j_callT (m := 0) (js_caV q_56_99 (js_Mo qy_56 qm_10_59)) (js_agV (av := [(0, z1)]) (st := []) rfl rfl js_o1 rfl) rfl rfl (by rw [ql_40]; exact Nat.le_of_ble_eq_true rfl) (Nat.le_of_ble_eq_true rfl) hd rfl hz
theorem b_56_102 {E : js_E} {d : Nat} {σ : js_S} {b : Int} : js_J E d 56 102 [(2, 22 + b), (9, 0), (9, 0)] [] σ = js_J E d 56 199 [(2, 22 + b), (9, 0), (9, 0)] [] σ :=
  (j_goto (t := 199) q_56_102 rfl).trans <| rfl
theorem b_56_105 {E : js_E} {d : Nat} {σ : js_S} {b : Int} : js_J E d 56 105 [(2, 22 + b), (9, 0), (9, 0)] [] σ = js_J E d 56 106 [(2, 22 + b), (9, 0), (9, 0)] [(2, 22 + b)] σ :=
  (j_aload_n q_56_105 rfl).trans <| rfl
theorem k_56_106 {E : js_E} {d : Nat} {σ σ2 : js_S} {b : Int} (hb : b = 0 ∨ b = 25) (hd : 1 ≤ d) (hz : js_J E (d - 1) 99 0 [(2, 22 + b), (9, 0), (9, 0), (9, 0), (9, 0), (9, 0), (9, 0), (9, 0)] [] σ = js_r0 E σ2) : js_J E d 56 106 [(2, 22 + b), (9, 0), (9, 0)] [(2, 22 + b)] σ = js_J E d 56 109 [(2, 22 + b), (9, 0), (9, 0)] [] σ2 :=
  j_call0 (m := 7) (js_caV q_56_106 (js_Mo qy_56 qm_10_101)) (js_agV (av := []) (st := []) rfl rfl (js_o22b hb) rfl) rfl rfl (by rw [ql_99]; exact Nat.le_of_ble_eq_true rfl) (Nat.le_of_ble_eq_true rfl) hd hz
theorem kt_56_106 {E : js_E} {d : Nat} {σ σ2 : js_S} {b : Int} (hb : b = 0 ∨ b = 25) {w : Int} (hd : 1 ≤ d) (hz : js_J E (d - 1) 99 0 [(2, 22 + b), (9, 0), (9, 0), (9, 0), (9, 0), (9, 0), (9, 0), (9, 0)] [] σ = js_t E w σ2) : js_J E d 56 106 [(2, 22 + b), (9, 0), (9, 0)] [(2, 22 + b)] σ = js_t E w σ2 :=
  j_callT (m := 7) (js_caV q_56_106 (js_Mo qy_56 qm_10_101)) (js_agV (av := []) (st := []) rfl rfl (js_o22b hb) rfl) rfl rfl (by rw [ql_99]; exact Nat.le_of_ble_eq_true rfl) (Nat.le_of_ble_eq_true rfl) hd rfl hz
theorem b_56_109 {E : js_E} {d : Nat} {σ : js_S} {b : Int} : js_J E d 56 109 [(2, 22 + b), (9, 0), (9, 0)] [] σ = js_J E d 56 199 [(2, 22 + b), (9, 0), (9, 0)] [] σ :=
  (j_goto (t := 199) q_56_109 rfl).trans <| rfl
theorem b_56_112 {E : js_E} {d : Nat} {σ : js_S} {b : Int} : js_J E d 56 112 [(2, 22 + b), (9, 0), (9, 0)] [] σ = js_J E d 56 113 [(2, 22 + b), (9, 0), (9, 0)] [(2, 22 + b)] σ :=
  (j_aload_n q_56_112 rfl).trans <| rfl
theorem k_56_113 {E : js_E} {d : Nat} {σ σ2 : js_S} {b : Int} (hb : b = 0 ∨ b = 25) (hd : 1 ≤ d) (hz : js_J E (d - 1) 104 0 [(2, 22 + b), (9, 0), (9, 0), (9, 0), (9, 0), (9, 0), (9, 0), (9, 0)] [] σ = js_r0 E σ2) : js_J E d 56 113 [(2, 22 + b), (9, 0), (9, 0)] [(2, 22 + b)] σ = js_J E d 56 116 [(2, 22 + b), (9, 0), (9, 0)] [] σ2 :=
  j_call0 (m := 7) (js_caV q_56_113 (js_Mo qy_56 qm_10_104)) (js_agV (av := []) (st := []) rfl rfl (js_o22b hb) rfl) rfl rfl (by rw [ql_104]; exact Nat.le_of_ble_eq_true rfl) (Nat.le_of_ble_eq_true rfl) hd hz
theorem kt_56_113 {E : js_E} {d : Nat} {σ σ2 : js_S} {b : Int} (hb : b = 0 ∨ b = 25) {w : Int} (hd : 1 ≤ d) (hz : js_J E (d - 1) 104 0 [(2, 22 + b), (9, 0), (9, 0), (9, 0), (9, 0), (9, 0), (9, 0), (9, 0)] [] σ = js_t E w σ2) : js_J E d 56 113 [(2, 22 + b), (9, 0), (9, 0)] [(2, 22 + b)] σ = js_t E w σ2 :=
  j_callT (m := 7) (js_caV q_56_113 (js_Mo qy_56 qm_10_104)) (js_agV (av := []) (st := []) rfl rfl (js_o22b hb) rfl) rfl rfl (by rw [ql_104]; exact Nat.le_of_ble_eq_true rfl) (Nat.le_of_ble_eq_true rfl) hd rfl hz
theorem b_56_116 {E : js_E} {d : Nat} {σ : js_S} {b : Int} : js_J E d 56 116 [(2, 22 + b), (9, 0), (9, 0)] [] σ = js_J E d 56 199 [(2, 22 + b), (9, 0), (9, 0)] [] σ :=
  (j_goto (t := 199) q_56_116 rfl).trans <| rfl
theorem b_56_119 {E : js_E} {d : Nat} {σ : js_S} {b : Int} : js_J E d 56 119 [(2, 22 + b), (9, 0), (9, 0)] [] σ = js_J E d 56 120 [(2, 22 + b), (9, 0), (9, 0)] [(2, 22 + b)] σ :=
  (j_aload_n q_56_119 rfl).trans <| rfl
theorem k_56_120 {E : js_E} {d : Nat} {σ σ2 : js_S} {b : Int} (hb : b = 0 ∨ b = 25) (hd : 1 ≤ d) (hz : js_J E (d - 1) 105 0 [(2, 22 + b), (9, 0), (9, 0), (9, 0), (9, 0), (9, 0), (9, 0), (9, 0), (9, 0), (9, 0)] [] σ = js_r0 E σ2) : js_J E d 56 120 [(2, 22 + b), (9, 0), (9, 0)] [(2, 22 + b)] σ = js_J E d 56 123 [(2, 22 + b), (9, 0), (9, 0)] [] σ2 :=
  j_call0 (m := 9) (js_caV q_56_120 (js_Mo qy_56 qm_10_107)) (js_agV (av := []) (st := []) rfl rfl (js_o22b hb) rfl) rfl rfl (by rw [ql_105]; exact Nat.le_of_ble_eq_true rfl) (Nat.le_of_ble_eq_true rfl) hd hz
theorem kt_56_120 {E : js_E} {d : Nat} {σ σ2 : js_S} {b : Int} (hb : b = 0 ∨ b = 25) {w : Int} (hd : 1 ≤ d) (hz : js_J E (d - 1) 105 0 [(2, 22 + b), (9, 0), (9, 0), (9, 0), (9, 0), (9, 0), (9, 0), (9, 0), (9, 0), (9, 0)] [] σ = js_t E w σ2) : js_J E d 56 120 [(2, 22 + b), (9, 0), (9, 0)] [(2, 22 + b)] σ = js_t E w σ2 :=
  j_callT (m := 9) (js_caV q_56_120 (js_Mo qy_56 qm_10_107)) (js_agV (av := []) (st := []) rfl rfl (js_o22b hb) rfl) rfl rfl (by rw [ql_105]; exact Nat.le_of_ble_eq_true rfl) (Nat.le_of_ble_eq_true rfl) hd rfl hz
theorem b_56_123 {E : js_E} {d : Nat} {σ : js_S} {b : Int} : js_J E d 56 123 [(2, 22 + b), (9, 0), (9, 0)] [] σ = js_J E d 56 199 [(2, 22 + b), (9, 0), (9, 0)] [] σ :=
  (j_goto (t := 199) q_56_123 rfl).trans <| rfl
theorem b_56_126 {E : js_E} {d : Nat} {σ : js_S} {b : Int} (hb : b = 0 ∨ b = 25) : js_J E d 56 126 [(2, 22 + b), (9, 0), (9, 0)] [] σ = js_J E d 56 135 [(2, 22 + b), (0, σ 1 2), (9, 0)] [(2, 22 + b)] σ :=
  (j_aload_n q_56_126 rfl).trans <| (j_get (ji := 1) (v := (2, 1)) q_56_127 (js_Fo qy_56 qf_10_9) (js_o22b hb) rfl rfl rfl rfl).trans <| (j_get (ji := 2) (v := (0, σ 1 2)) q_56_130 (js_Fo qy_56 qf_10_110) js_o1 rfl rfl rfl rfl).trans <| (j_istore_n (l2 := [(2, 22 + b), (0, σ 1 2), (9, 0)]) q_56_133 rfl (Nat.le_of_ble_eq_true rfl)).trans <| (j_aload_n q_56_134 rfl).trans <| rfl
theorem k_56_135 {E : js_E} {d : Nat} {σ σ2 : js_S} {x1 b : Int} (hb : b = 0 ∨ b = 25) {v : Int} (hd : 1 ≤ d) (hz : js_J E (d - 1) 106 0 [(2, 22 + b), (9, 0), (9, 0)] [] σ = js_r E (2, v) σ2) : js_J E d 56 135 [(2, 22 + b), (0, x1), (9, 0)] [(2, 22 + b)] σ = js_J E d 56 138 [(2, 22 + b), (0, x1), (9, 0)] [(2, v)] σ2 :=
  j_call (m := 2) (js_caV q_56_135 (js_Mo qy_56 qm_10_113)) (js_agV (av := []) (st := []) rfl rfl (js_o22b hb) rfl) rfl rfl (by rw [ql_106]; exact Nat.le_of_ble_eq_true rfl) (Nat.le_of_ble_eq_true rfl) hd hz
theorem kt_56_135 {E : js_E} {d : Nat} {σ σ2 : js_S} {x1 b : Int} (hb : b = 0 ∨ b = 25) {w : Int} (hd : 1 ≤ d) (hz : js_J E (d - 1) 106 0 [(2, 22 + b), (9, 0), (9, 0)] [] σ = js_t E w σ2) : js_J E d 56 135 [(2, 22 + b), (0, x1), (9, 0)] [(2, 22 + b)] σ = js_t E w σ2 :=
  j_callT (m := 2) (js_caV q_56_135 (js_Mo qy_56 qm_10_113)) (js_agV (av := []) (st := []) rfl rfl (js_o22b hb) rfl) rfl rfl (by rw [ql_106]; exact Nat.le_of_ble_eq_true rfl) (Nat.le_of_ble_eq_true rfl) hd rfl hz
theorem b_56_138 {E : js_E} {d : Nat} {σ : js_S} {x1 z0 b : Int} : js_J E d 56 138 [(2, 22 + b), (0, x1), (9, 0)] [(2, z0)] σ = (if z0 < 0 then js_J E d 56 163 [(2, 22 + b), (0, x1), (2, z0)] [] σ else js_J E d 56 143 [(2, 22 + b), (0, x1), (2, z0)] [] σ) :=
  (j_astore_n (l2 := [(2, 22 + b), (0, x1), (2, z0)]) q_56_138 rfl (Nat.le_of_ble_eq_true rfl)).trans <| (j_aload_n q_56_139 rfl).trans <| (j_ifnull (t := 163) q_56_140 rfl).trans (js_ite (rfl) (rfl))
theorem b_56_143 {E : js_E} {d : Nat} {σ : js_S} {x1 x2 b : Int} (hs_x2 : js_desc E.1 σ x2 = some (0, 11, js_sym)) (hb : b = 0 ∨ b = 25) : js_J E d 56 143 [(2, 22 + b), (0, x1), (2, x2)] [] σ = (if js_w (σ x2 1) = 4 then js_J E d 56 157 [(2, 22 + b), (0, x1), (2, x2)] [(0, x1), (2, x2), (2, 23 + b)] σ else js_J E d 56 163 [(2, 22 + b), (0, x1), (2, x2)] [] σ) :=
  (j_aload_n q_56_143 rfl).trans <| (j_get (ji := 1) (v := (0, σ x2 1)) q_56_144 (js_Fo qy_56 qf_10_117) hs_x2 rfl rfl rfl rfl).trans <| (j_iconst q_56_147).trans <| (j_cmpneB (t := 163) q_56_148 rfl ww_4).trans (js_ite ((j_aload_n q_56_151 rfl).trans <| (j_get (ji := 5) (v := (2, 23 + b)) q_56_152 (js_Fo qy_56 qf_10_35) (js_o22b hb) rfl rfl rfl rfl).trans <| (j_aload_n q_56_155 rfl).trans <| (j_iload_n q_56_156 rfl).trans <| rfl) (rfl))
theorem k_56_157 {E : js_E} {d : Nat} {σ σ2 : js_S} {x1 x2 z1 z2 b : Int} (hb : b = 0 ∨ b = 25) (hd : 1 ≤ d) (hz : js_J E (d - 1) 66 0 [(2, 23 + b), (2, z1), (0, z2), (9, 0), (9, 0), (9, 0), (9, 0), (9, 0), (9, 0)] [] σ = js_r0 E σ2) : js_J E d 56 157 [(2, 22 + b), (0, x1), (2, x2)] [(0, z2), (2, z1), (2, 23 + b)] σ = js_J E d 56 160 [(2, 22 + b), (0, x1), (2, x2)] [] σ2 :=
  j_call0 (m := 6) (js_caV q_56_157 (js_Mo qy_56 qm_10_120)) (js_agV (av := [(2, z1), (0, z2)]) (st := []) rfl rfl (js_o23b hb) rfl) rfl rfl (by rw [ql_66]; exact Nat.le_of_ble_eq_true rfl) (Nat.le_of_ble_eq_true rfl) hd hz
theorem kt_56_157 {E : js_E} {d : Nat} {σ σ2 : js_S} {x1 x2 z1 z2 b : Int} (hb : b = 0 ∨ b = 25) {w : Int} (hd : 1 ≤ d) (hz : js_J E (d - 1) 66 0 [(2, 23 + b), (2, z1), (0, z2), (9, 0), (9, 0), (9, 0), (9, 0), (9, 0), (9, 0)] [] σ = js_t E w σ2) : js_J E d 56 157 [(2, 22 + b), (0, x1), (2, x2)] [(0, z2), (2, z1), (2, 23 + b)] σ = js_t E w σ2 :=
  j_callT (m := 6) (js_caV q_56_157 (js_Mo qy_56 qm_10_120)) (js_agV (av := [(2, z1), (0, z2)]) (st := []) rfl rfl (js_o23b hb) rfl) rfl rfl (by rw [ql_66]; exact Nat.le_of_ble_eq_true rfl) (Nat.le_of_ble_eq_true rfl) hd rfl hz
theorem b_56_160 {E : js_E} {d : Nat} {σ : js_S} {x1 x2 b : Int} : js_J E d 56 160 [(2, 22 + b), (0, x1), (2, x2)] [] σ = js_J E d 56 172 [(2, 22 + b), (0, x1), (2, x2)] [] σ :=
  (j_goto (t := 172) q_56_160 rfl).trans <| rfl
theorem b_56_163 {E : js_E} {d : Nat} {σ : js_S} {x1 x2 b : Int} : js_J E d 56 163 [(2, 22 + b), (0, x1), (2, x2)] [] σ = (if x2 < 0 then js_J E d 56 172 [(2, 22 + b), (0, x1), (2, x2)] [] σ else js_J E d 56 167 [(2, 22 + b), (0, x1), (2, x2)] [] σ) :=
  (j_aload_n q_56_163 rfl).trans <| (j_ifnull (t := 172) q_56_164 rfl).trans (js_ite (rfl) (rfl))
theorem b_56_167 {E : js_E} {d : Nat} {σ : js_S} {x1 x2 b : Int} : js_J E d 56 167 [(2, 22 + b), (0, x1), (2, x2)] [] σ = js_J E d 56 169 [(2, 22 + b), (0, x1), (2, x2)] [(2, x2), (2, 22 + b)] σ :=
  (j_aload_n q_56_167 rfl).trans <| (j_aload_n q_56_168 rfl).trans <| rfl
theorem k_56_169 {E : js_E} {d : Nat} {σ σ2 : js_S} {x1 x2 z1 b : Int} (hb : b = 0 ∨ b = 25) (hd : 1 ≤ d) (hz : js_J E (d - 1) 108 0 [(2, 22 + b), (2, z1), (9, 0)] [] σ = js_r0 E σ2) : js_J E d 56 169 [(2, 22 + b), (0, x1), (2, x2)] [(2, z1), (2, 22 + b)] σ = js_J E d 56 172 [(2, 22 + b), (0, x1), (2, x2)] [] σ2 :=
  j_call0 (m := 1) (js_caV q_56_169 (js_Mo qy_56 qm_10_124)) (js_agV (av := [(2, z1)]) (st := []) rfl rfl (js_o22b hb) rfl) rfl rfl (by rw [ql_108]; exact Nat.le_of_ble_eq_true rfl) (Nat.le_of_ble_eq_true rfl) hd hz
theorem kt_56_169 {E : js_E} {d : Nat} {σ σ2 : js_S} {x1 x2 z1 b : Int} (hb : b = 0 ∨ b = 25) {w : Int} (hd : 1 ≤ d) (hz : js_J E (d - 1) 108 0 [(2, 22 + b), (2, z1), (9, 0)] [] σ = js_t E w σ2) : js_J E d 56 169 [(2, 22 + b), (0, x1), (2, x2)] [(2, z1), (2, 22 + b)] σ = js_t E w σ2 :=
  j_callT (m := 1) (js_caV q_56_169 (js_Mo qy_56 qm_10_124)) (js_agV (av := [(2, z1)]) (st := []) rfl rfl (js_o22b hb) rfl) rfl rfl (by rw [ql_108]; exact Nat.le_of_ble_eq_true rfl) (Nat.le_of_ble_eq_true rfl) hd rfl hz
theorem b_56_172 {E : js_E} {d : Nat} {σ : js_S} {x1 x2 b : Int} (hb : b = 0 ∨ b = 25) : js_J E d 56 172 [(2, 22 + b), (0, x1), (2, x2)] [] σ = js_J E d 56 178 [(2, 22 + b), (0, x1), (2, x2)] [(0, 59), (2, 1)] σ :=
  (j_aload_n q_56_172 rfl).trans <| (j_get (ji := 1) (v := (2, 1)) q_56_173 (js_Fo qy_56 qf_10_9) (js_o22b hb) rfl rfl rfl rfl).trans <| (j_bi q_56_176 rfl).trans <| rfl
theorem k_56_178 {E : js_E} {d : Nat} {σ σ2 : js_S} {x1 x2 z1 b : Int} (hd : 1 ≤ d) (hz : js_J E (d - 1) 40 0 [(2, 1), (0, z1)] [] σ = js_r0 E σ2) : js_J E d 56 178 [(2, 22 + b), (0, x1), (2, x2)] [(0, z1), (2, 1)] σ = js_J E d 56 181 [(2, 22 + b), (0, x1), (2, x2)] [] σ2 :=
  j_call0 (m := 0) (js_caV q_56_178 (js_Mo qy_56 qm_10_59)) (js_agV (av := [(0, z1)]) (st := []) rfl rfl js_o1 rfl) rfl rfl (by rw [ql_40]; exact Nat.le_of_ble_eq_true rfl) (Nat.le_of_ble_eq_true rfl) hd hz
theorem kt_56_178 {E : js_E} {d : Nat} {σ σ2 : js_S} {x1 x2 z1 b : Int} {w : Int} (hd : 1 ≤ d) (hz : js_J E (d - 1) 40 0 [(2, 1), (0, z1)] [] σ = js_t E w σ2) : js_J E d 56 178 [(2, 22 + b), (0, x1), (2, x2)] [(0, z1), (2, 1)] σ = js_t E w σ2 :=
  j_callT (m := 0) (js_caV q_56_178 (js_Mo qy_56 qm_10_59)) (js_agV (av := [(0, z1)]) (st := []) rfl rfl js_o1 rfl) rfl rfl (by rw [ql_40]; exact Nat.le_of_ble_eq_true rfl) (Nat.le_of_ble_eq_true rfl) hd rfl hz
theorem b_56_181 {E : js_E} {d : Nat} {σ : js_S} {x1 x2 b : Int} : js_J E d 56 181 [(2, 22 + b), (0, x1), (2, x2)] [] σ = js_J E d 56 199 [(2, 22 + b), (0, x1), (2, x2)] [] σ :=
  (j_goto (t := 199) q_56_181 rfl).trans <| rfl
theorem b_56_184 {E : js_E} {d : Nat} {σ : js_S} {b : Int} (hb : b = 0 ∨ b = 25) : js_J E d 56 184 [(2, 22 + b), (9, 0), (9, 0)] [] σ = js_J E d 56 196 [(2, 22 + b), (9, 0), (9, 0)] [(0, σ 1 2), (0, 1), (2, 1)] σ :=
  (j_aload_n q_56_184 rfl).trans <| (j_get (ji := 1) (v := (2, 1)) q_56_185 (js_Fo qy_56 qf_10_9) (js_o22b hb) rfl rfl rfl rfl).trans <| (j_iconst q_56_188).trans <| (j_aload_n q_56_189 rfl).trans <| (j_get (ji := 1) (v := (2, 1)) q_56_190 (js_Fo qy_56 qf_10_9) (js_o22b hb) rfl rfl rfl rfl).trans <| (j_get (ji := 2) (v := (0, σ 1 2)) q_56_193 (js_Fo qy_56 qf_10_110) js_o1 rfl rfl rfl rfl).trans <| rfl
theorem k_56_196 {E : js_E} {d : Nat} {σ σ2 : js_S} {z1 z2 b : Int} (hd : 1 ≤ d) (hz : js_J E (d - 1) 36 0 [(2, 1), (0, z1), (0, z2)] [] σ = js_r0 E σ2) : js_J E d 56 196 [(2, 22 + b), (9, 0), (9, 0)] [(0, z2), (0, z1), (2, 1)] σ = js_J E d 56 199 [(2, 22 + b), (9, 0), (9, 0)] [] σ2 :=
  j_call0 (m := 0) (js_caV q_56_196 (js_Mo qy_56 qm_10_128)) (js_agV (av := [(0, z1), (0, z2)]) (st := []) rfl rfl js_o1 rfl) rfl rfl (by rw [ql_36]; exact Nat.le_of_ble_eq_true rfl) (Nat.le_of_ble_eq_true rfl) hd hz
theorem kt_56_196 {E : js_E} {d : Nat} {σ σ2 : js_S} {z1 z2 b : Int} {w : Int} (hd : 1 ≤ d) (hz : js_J E (d - 1) 36 0 [(2, 1), (0, z1), (0, z2)] [] σ = js_t E w σ2) : js_J E d 56 196 [(2, 22 + b), (9, 0), (9, 0)] [(0, z2), (0, z1), (2, 1)] σ = js_t E w σ2 :=
  j_callT (m := 0) (js_caV q_56_196 (js_Mo qy_56 qm_10_128)) (js_agV (av := [(0, z1), (0, z2)]) (st := []) rfl rfl js_o1 rfl) rfl rfl (by rw [ql_36]; exact Nat.le_of_ble_eq_true rfl) (Nat.le_of_ble_eq_true rfl) hd rfl hz
theorem b_56_199 {E : js_E} {d : Nat} {σ : js_S} {b : Int} {ux1 ux2 : js_v} : js_J E d 56 199 [(2, 22 + b), ux1, ux2] [] σ = js_r0 E σ :=
  j_return q_56_199 qr_56
-- 57: VitalTwin$Statements.variable ()V
theorem b_57_0 {E : js_E} {d : Nat} {σ : js_S} {b : Int} (hb : b = 0 ∨ b = 25) : js_J E d 57 0 [(2, 22 + b), (9, 0), (9, 0)] [] σ = js_J E d 57 4 [(2, 22 + b), (9, 0), (9, 0)] [(2, 1)] σ :=
  (j_aload_n q_57_0 rfl).trans <| (j_get (ji := 1) (v := (2, 1)) q_57_1 (js_Fo qy_57 qf_10_9) (js_o22b hb) rfl rfl rfl rfl).trans <| rfl
theorem k_57_4 {E : js_E} {d : Nat} {σ σ2 : js_S} {b : Int} (hd : 1 ≤ d) (hz : js_J E (d - 1) 33 0 [(2, 1), (9, 0)] [] σ = js_r0 E σ2) : js_J E d 57 4 [(2, 22 + b), (9, 0), (9, 0)] [(2, 1)] σ = js_J E d 57 7 [(2, 22 + b), (9, 0), (9, 0)] [] σ2 :=
  j_call0 (m := 1) (js_caV q_57_4 (js_Mo qy_57 qm_10_89)) (js_agV (av := []) (st := []) rfl rfl js_o1 rfl) rfl rfl (by rw [ql_33]; exact Nat.le_of_ble_eq_true rfl) (Nat.le_of_ble_eq_true rfl) hd hz
theorem kt_57_4 {E : js_E} {d : Nat} {σ σ2 : js_S} {b : Int} {w : Int} (hd : 1 ≤ d) (hz : js_J E (d - 1) 33 0 [(2, 1), (9, 0)] [] σ = js_t E w σ2) : js_J E d 57 4 [(2, 22 + b), (9, 0), (9, 0)] [(2, 1)] σ = js_t E w σ2 :=
  j_callT (m := 1) (js_caV q_57_4 (js_Mo qy_57 qm_10_89)) (js_agV (av := []) (st := []) rfl rfl js_o1 rfl) rfl rfl (by rw [ql_33]; exact Nat.le_of_ble_eq_true rfl) (Nat.le_of_ble_eq_true rfl) hd rfl hz
theorem b_57_7 {E : js_E} {d : Nat} {σ : js_S} {b : Int} (hb : b = 0 ∨ b = 25) : js_J E d 57 7 [(2, 22 + b), (9, 0), (9, 0)] [] σ = js_J E d 57 18 [(2, 22 + b), (9, 0), (9, 0)] [(2, 1), (0, 0), (0, 6), (2, 7 + b)] σ :=
  (j_aload_n q_57_7 rfl).trans <| (j_get (ji := 2) (v := (2, 7 + b)) q_57_8 (js_Fo qy_57 qf_10_15) (js_o22b hb) rfl rfl rfl rfl).trans <| (j_bi q_57_11 rfl).trans <| (j_iconst q_57_13).trans <| (j_aload_n q_57_14 rfl).trans <| (j_get (ji := 1) (v := (2, 1)) q_57_15 (js_Fo qy_57 qf_10_9) (js_o22b hb) rfl rfl rfl rfl).trans <| rfl
theorem k_57_18 {E : js_E} {d : Nat} {σ σ2 : js_S} {z1 z2 b : Int} (hb : b = 0 ∨ b = 25) {v : Int} (hd : 1 ≤ d) (hz : js_J E (d - 1) 35 0 [(2, 7 + b), (0, z1), (0, z2), (2, 1), (9, 0), (9, 0)] [] σ = js_r E (2, v) σ2) : js_J E d 57 18 [(2, 22 + b), (9, 0), (9, 0)] [(2, 1), (0, z2), (0, z1), (2, 7 + b)] σ = js_J E d 57 21 [(2, 22 + b), (9, 0), (9, 0)] [(2, v)] σ2 :=
  j_call (m := 2) (js_caV q_57_18 (js_Mo qy_57 qm_10_146)) (js_agV (av := [(0, z1), (0, z2), (2, 1)]) (st := []) rfl rfl (js_o7b hb) rfl) rfl rfl (by rw [ql_35]; exact Nat.le_of_ble_eq_true rfl) (Nat.le_of_ble_eq_true rfl) hd hz
theorem kt_57_18 {E : js_E} {d : Nat} {σ σ2 : js_S} {z1 z2 b : Int} (hb : b = 0 ∨ b = 25) {w : Int} (hd : 1 ≤ d) (hz : js_J E (d - 1) 35 0 [(2, 7 + b), (0, z1), (0, z2), (2, 1), (9, 0), (9, 0)] [] σ = js_t E w σ2) : js_J E d 57 18 [(2, 22 + b), (9, 0), (9, 0)] [(2, 1), (0, z2), (0, z1), (2, 7 + b)] σ = js_t E w σ2 :=
  j_callT (m := 2) (js_caV q_57_18 (js_Mo qy_57 qm_10_146)) (js_agV (av := [(0, z1), (0, z2), (2, 1)]) (st := []) rfl rfl (js_o7b hb) rfl) rfl rfl (by rw [ql_35]; exact Nat.le_of_ble_eq_true rfl) (Nat.le_of_ble_eq_true rfl) hd rfl hz
theorem b_57_21 {E : js_E} {d : Nat} {σ : js_S} {z0 b : Int} (hb : b = 0 ∨ b = 25) : js_J E d 57 21 [(2, 22 + b), (9, 0), (9, 0)] [(2, z0)] σ = js_J E d 57 27 [(2, 22 + b), (2, z0), (9, 0)] [(2, z0), (2, 21 + b)] σ :=
  (j_astore_n (l2 := [(2, 22 + b), (2, z0), (9, 0)]) q_57_21 rfl (Nat.le_of_ble_eq_true rfl)).trans <| (j_aload_n q_57_22 rfl).trans <| (j_get (ji := 4) (v := (2, 21 + b)) q_57_23 (js_Fo qy_57 qf_10_26) (js_o22b hb) rfl rfl rfl rfl).trans <| (j_aload_n q_57_26 rfl).trans <| rfl
theorem k_57_27 {E : js_E} {d : Nat} {σ σ2 : js_S} {x1 z1 b : Int} (hb : b = 0 ∨ b = 25) (hd : 1 ≤ d) (hz : js_J E (d - 1) 46 0 [(2, 21 + b), (2, z1)] [] σ = js_r0 E σ2) : js_J E d 57 27 [(2, 22 + b), (2, x1), (9, 0)] [(2, z1), (2, 21 + b)] σ = js_J E d 57 30 [(2, 22 + b), (2, x1), (9, 0)] [] σ2 :=
  j_call0 (m := 0) (js_caV q_57_27 (js_Mo qy_57 qm_10_150)) (js_agV (av := [(2, z1)]) (st := []) rfl rfl (js_o21b hb) rfl) rfl rfl (by rw [ql_46]; exact Nat.le_of_ble_eq_true rfl) (Nat.le_of_ble_eq_true rfl) hd hz
theorem kt_57_27 {E : js_E} {d : Nat} {σ σ2 : js_S} {x1 z1 b : Int} (hb : b = 0 ∨ b = 25) {w : Int} (hd : 1 ≤ d) (hz : js_J E (d - 1) 46 0 [(2, 21 + b), (2, z1)] [] σ = js_t E w σ2) : js_J E d 57 27 [(2, 22 + b), (2, x1), (9, 0)] [(2, z1), (2, 21 + b)] σ = js_t E w σ2 :=
  j_callT (m := 0) (js_caV q_57_27 (js_Mo qy_57 qm_10_150)) (js_agV (av := [(2, z1)]) (st := []) rfl rfl (js_o21b hb) rfl) rfl rfl (by rw [ql_46]; exact Nat.le_of_ble_eq_true rfl) (Nat.le_of_ble_eq_true rfl) hd rfl hz
theorem b_57_30 {E : js_E} {d : Nat} {σ : js_S} {x1 b : Int} (hb : b = 0 ∨ b = 25) : js_J E d 57 30 [(2, 22 + b), (2, x1), (9, 0)] [] σ = js_J E d 57 36 [(2, 22 + b), (2, x1), (9, 0)] [(0, 58), (2, 1)] σ :=
  (j_aload_n q_57_30 rfl).trans <| (j_get (ji := 1) (v := (2, 1)) q_57_31 (js_Fo qy_57 qf_10_9) (js_o22b hb) rfl rfl rfl rfl).trans <| (j_bi q_57_34 rfl).trans <| rfl
theorem k_57_36 {E : js_E} {d : Nat} {σ σ2 : js_S} {x1 z1 b : Int} (hd : 1 ≤ d) (hz : js_J E (d - 1) 40 0 [(2, 1), (0, z1)] [] σ = js_r0 E σ2) : js_J E d 57 36 [(2, 22 + b), (2, x1), (9, 0)] [(0, z1), (2, 1)] σ = js_J E d 57 39 [(2, 22 + b), (2, x1), (9, 0)] [] σ2 :=
  j_call0 (m := 0) (js_caV q_57_36 (js_Mo qy_57 qm_10_59)) (js_agV (av := [(0, z1)]) (st := []) rfl rfl js_o1 rfl) rfl rfl (by rw [ql_40]; exact Nat.le_of_ble_eq_true rfl) (Nat.le_of_ble_eq_true rfl) hd hz
theorem kt_57_36 {E : js_E} {d : Nat} {σ σ2 : js_S} {x1 z1 b : Int} {w : Int} (hd : 1 ≤ d) (hz : js_J E (d - 1) 40 0 [(2, 1), (0, z1)] [] σ = js_t E w σ2) : js_J E d 57 36 [(2, 22 + b), (2, x1), (9, 0)] [(0, z1), (2, 1)] σ = js_t E w σ2 :=
  j_callT (m := 0) (js_caV q_57_36 (js_Mo qy_57 qm_10_59)) (js_agV (av := [(0, z1)]) (st := []) rfl rfl js_o1 rfl) rfl rfl (by rw [ql_40]; exact Nat.le_of_ble_eq_true rfl) (Nat.le_of_ble_eq_true rfl) hd rfl hz
theorem b_57_39 {E : js_E} {d : Nat} {σ : js_S} {x1 b : Int} (hb : b = 0 ∨ b = 25) : js_J E d 57 39 [(2, 22 + b), (2, x1), (9, 0)] [] σ = js_J E d 57 44 [(2, 22 + b), (2, x1), (9, 0)] [(2, x1), (2, 21 + b)] σ :=
  (j_aload_n q_57_39 rfl).trans <| (j_get (ji := 4) (v := (2, 21 + b)) q_57_40 (js_Fo qy_57 qf_10_26) (js_o22b hb) rfl rfl rfl rfl).trans <| (j_aload_n q_57_43 rfl).trans <| rfl
theorem k_57_44 {E : js_E} {d : Nat} {σ σ2 : js_S} {x1 z1 b : Int} (hb : b = 0 ∨ b = 25) (hd : 1 ≤ d) (hz : js_J E (d - 1) 49 0 [(2, 21 + b), (2, z1), (9, 0), (9, 0), (9, 0)] [] σ = js_r0 E σ2) : js_J E d 57 44 [(2, 22 + b), (2, x1), (9, 0)] [(2, z1), (2, 21 + b)] σ = js_J E d 57 47 [(2, 22 + b), (2, x1), (9, 0)] [] σ2 :=
  j_call0 (m := 3) (js_caV q_57_44 (js_Mo qy_57 qm_10_155)) (js_agV (av := [(2, z1)]) (st := []) rfl rfl (js_o21b hb) rfl) rfl rfl (by rw [ql_49]; exact Nat.le_of_ble_eq_true rfl) (Nat.le_of_ble_eq_true rfl) hd hz
theorem kt_57_44 {E : js_E} {d : Nat} {σ σ2 : js_S} {x1 z1 b : Int} (hb : b = 0 ∨ b = 25) {w : Int} (hd : 1 ≤ d) (hz : js_J E (d - 1) 49 0 [(2, 21 + b), (2, z1), (9, 0), (9, 0), (9, 0)] [] σ = js_t E w σ2) : js_J E d 57 44 [(2, 22 + b), (2, x1), (9, 0)] [(2, z1), (2, 21 + b)] σ = js_t E w σ2 :=
  j_callT (m := 3) (js_caV q_57_44 (js_Mo qy_57 qm_10_155)) (js_agV (av := [(2, z1)]) (st := []) rfl rfl (js_o21b hb) rfl) rfl rfl (by rw [ql_49]; exact Nat.le_of_ble_eq_true rfl) (Nat.le_of_ble_eq_true rfl) hd rfl hz
theorem b_57_47 {E : js_E} {d : Nat} {σ : js_S} {x1 b : Int} : js_J E d 57 47 [(2, 22 + b), (2, x1), (9, 0)] [] σ = js_J E d 57 49 [(2, 22 + b), (2, x1), (9, 0)] [(2, x1), (2, 22 + b)] σ :=
  (j_aload_n q_57_47 rfl).trans <| (j_aload_n q_57_48 rfl).trans <| rfl
theorem k_57_49 {E : js_E} {d : Nat} {σ σ2 : js_S} {x1 z1 b : Int} (hb : b = 0 ∨ b = 25) (hd : 1 ≤ d) (hz : js_J E (d - 1) 54 0 [(2, 22 + b), (2, z1)] [] σ = js_r0 E σ2) : js_J E d 57 49 [(2, 22 + b), (2, x1), (9, 0)] [(2, z1), (2, 22 + b)] σ = js_J E d 57 52 [(2, 22 + b), (2, x1), (9, 0)] [] σ2 :=
  j_call0 (m := 0) (js_caV q_57_49 (js_Mo qy_57 qm_10_158)) (js_agV (av := [(2, z1)]) (st := []) rfl rfl (js_o22b hb) rfl) rfl rfl (by rw [ql_54]; exact Nat.le_of_ble_eq_true rfl) (Nat.le_of_ble_eq_true rfl) hd hz
theorem kt_57_49 {E : js_E} {d : Nat} {σ σ2 : js_S} {x1 z1 b : Int} (hb : b = 0 ∨ b = 25) {w : Int} (hd : 1 ≤ d) (hz : js_J E (d - 1) 54 0 [(2, 22 + b), (2, z1)] [] σ = js_t E w σ2) : js_J E d 57 49 [(2, 22 + b), (2, x1), (9, 0)] [(2, z1), (2, 22 + b)] σ = js_t E w σ2 :=
  j_callT (m := 0) (js_caV q_57_49 (js_Mo qy_57 qm_10_158)) (js_agV (av := [(2, z1)]) (st := []) rfl rfl (js_o22b hb) rfl) rfl rfl (by rw [ql_54]; exact Nat.le_of_ble_eq_true rfl) (Nat.le_of_ble_eq_true rfl) hd rfl hz
theorem b_57_52 {E : js_E} {d : Nat} {σ : js_S} {x1 b : Int} (hb : b = 0 ∨ b = 25) : js_J E d 57 52 [(2, 22 + b), (2, x1), (9, 0)] [] σ = js_J E d 57 58 [(2, 22 + b), (2, x1), (9, 0)] [(0, 61), (2, 1)] σ :=
  (j_aload_n q_57_52 rfl).trans <| (j_get (ji := 1) (v := (2, 1)) q_57_53 (js_Fo qy_57 qf_10_9) (js_o22b hb) rfl rfl rfl rfl).trans <| (j_bi q_57_56 rfl).trans <| rfl
theorem k_57_58 {E : js_E} {d : Nat} {σ σ2 : js_S} {x1 z1 b : Int} (hd : 1 ≤ d) (hz : js_J E (d - 1) 40 0 [(2, 1), (0, z1)] [] σ = js_r0 E σ2) : js_J E d 57 58 [(2, 22 + b), (2, x1), (9, 0)] [(0, z1), (2, 1)] σ = js_J E d 57 61 [(2, 22 + b), (2, x1), (9, 0)] [] σ2 :=
  j_call0 (m := 0) (js_caV q_57_58 (js_Mo qy_57 qm_10_59)) (js_agV (av := [(0, z1)]) (st := []) rfl rfl js_o1 rfl) rfl rfl (by rw [ql_40]; exact Nat.le_of_ble_eq_true rfl) (Nat.le_of_ble_eq_true rfl) hd hz
theorem kt_57_58 {E : js_E} {d : Nat} {σ σ2 : js_S} {x1 z1 b : Int} {w : Int} (hd : 1 ≤ d) (hz : js_J E (d - 1) 40 0 [(2, 1), (0, z1)] [] σ = js_t E w σ2) : js_J E d 57 58 [(2, 22 + b), (2, x1), (9, 0)] [(0, z1), (2, 1)] σ = js_t E w σ2 :=
  j_callT (m := 0) (js_caV q_57_58 (js_Mo qy_57 qm_10_59)) (js_agV (av := [(0, z1)]) (st := []) rfl rfl js_o1 rfl) rfl rfl (by rw [ql_40]; exact Nat.le_of_ble_eq_true rfl) (Nat.le_of_ble_eq_true rfl) hd rfl hz
theorem b_57_61 {E : js_E} {d : Nat} {σ : js_S} {x1 b : Int} (hs_x1 : js_desc E.1 σ x1 = some (0, 11, js_sym)) (hb : b = 0 ∨ b = 25) : js_J E d 57 61 [(2, 22 + b), (2, x1), (9, 0)] [] σ = (if js_w (σ x1 12) = 0 then js_J E d 57 117 [(2, 22 + b), (2, x1), (9, 0)] [(2, 23 + b)] σ else js_J E d 57 73 [(2, 22 + b), (2, x1), (9, 0)] [(2, x1), (2, 21 + b)] σ) :=
  (j_aload_n q_57_61 rfl).trans <| (j_get (ji := 12) (v := (0, σ x1 12)) q_57_62 (js_Fo qy_57 qf_10_160) hs_x1 rfl rfl rfl rfl).trans <| (j_ifeq (t := 113) q_57_65 rfl).trans (js_ite ((j_aload_n q_57_113 rfl).trans <| (j_get (ji := 5) (v := (2, 23 + b)) q_57_114 (js_Fo qy_57 qf_10_35) (js_o22b hb) rfl rfl rfl rfl).trans <| rfl) ((j_aload_n q_57_68 rfl).trans <| (j_get (ji := 4) (v := (2, 21 + b)) q_57_69 (js_Fo qy_57 qf_10_26) (js_o22b hb) rfl rfl rfl rfl).trans <| (j_aload_n q_57_72 rfl).trans <| rfl))
theorem k_57_73 {E : js_E} {d : Nat} {σ σ2 : js_S} {x1 z1 b : Int} (hb : b = 0 ∨ b = 25) {v : Int} (hd : 1 ≤ d) (hz : js_J E (d - 1) 51 0 [(2, 21 + b), (2, z1)] [] σ = js_r E (0, v) σ2) : js_J E d 57 73 [(2, 22 + b), (2, x1), (9, 0)] [(2, z1), (2, 21 + b)] σ = js_J E d 57 76 [(2, 22 + b), (2, x1), (9, 0)] [(0, v)] σ2 :=
  j_call (m := 0) (js_caV q_57_73 (js_Mo qy_57 qm_10_164)) (js_agV (av := [(2, z1)]) (st := []) rfl rfl (js_o21b hb) rfl) rfl rfl (by rw [ql_51]; exact Nat.le_of_ble_eq_true rfl) (Nat.le_of_ble_eq_true rfl) hd hz
theorem kt_57_73 {E : js_E} {d : Nat} {σ σ2 : js_S} {x1 z1 b : Int} (hb : b = 0 ∨ b = 25) {w : Int} (hd : 1 ≤ d) (hz : js_J E (d - 1) 51 0 [(2, 21 + b), (2, z1)] [] σ = js_t E w σ2) : js_J E d 57 73 [(2, 22 + b), (2, x1), (9, 0)] [(2, z1), (2, 21 + b)] σ = js_t E w σ2 :=
  j_callT (m := 0) (js_caV q_57_73 (js_Mo qy_57 qm_10_164)) (js_agV (av := [(2, z1)]) (st := []) rfl rfl (js_o21b hb) rfl) rfl rfl (by rw [ql_51]; exact Nat.le_of_ble_eq_true rfl) (Nat.le_of_ble_eq_true rfl) hd rfl hz
theorem b_57_76 {E : js_E} {d : Nat} {σ : js_S} {x1 z0 b : Int} (hb : b = 0 ∨ b = 25) (hs_x1 : js_desc E.1 σ x1 = some (0, 11, js_sym)) : js_J E d 57 76 [(2, 22 + b), (2, x1), (9, 0)] [(0, z0)] σ = (if js_w (σ x1 2) = 0 then js_J E d 57 95 [(2, 22 + b), (2, x1), (0, z0)] [(0, z0), (0, z0), (0, 0), (2, 8 + b)] σ else js_J E d 57 95 [(2, 22 + b), (2, x1), (0, z0)] [(0, 0), (0, z0), (0, 0), (2, 8 + b)] σ) :=
  (j_istore_n (l2 := [(2, 22 + b), (2, x1), (0, z0)]) q_57_76 rfl (Nat.le_of_ble_eq_true rfl)).trans <| (j_aload_n q_57_77 rfl).trans <| (j_get (ji := 3) (v := (2, 8 + b)) q_57_78 (js_Fo qy_57 qf_10_25) (js_o22b hb) rfl rfl rfl rfl).trans <| (j_iconst q_57_81).trans <| (j_iload_n q_57_82 rfl).trans <| (j_aload_n q_57_83 rfl).trans <| (j_get (ji := 2) (v := (0, σ x1 2)) q_57_84 (js_Fo qy_57 qf_10_65) hs_x1 rfl rfl rfl rfl).trans <| (j_ifne (t := 94) q_57_87 rfl).trans (js_ite ((j_iload_n q_57_90 rfl).trans <| (j_goto (t := 95) q_57_91 rfl).trans <| rfl) ((j_iconst q_57_94).trans <| rfl))
theorem b_57_95 {E : js_E} {d : Nat} {σ : js_S} {x1 x2 z1 z2 z3 b : Int} (hb : b = 0 ∨ b = 25) (hs_x1 : js_desc E.1 σ x1 = some (0, 11, js_sym)) : js_J E d 57 95 [(2, 22 + b), (2, x1), (0, x2)] [(0, z3), (0, z2), (0, z1), (2, 8 + b)] σ = js_J E d 57 104 [(2, 22 + b), (2, x1), (0, x2)] [(0, x2), (0, σ x1 2), (2, 7 + b), (0, z3), (0, z2), (0, z1), (2, 8 + b)] σ :=
  (j_aload_n q_57_95 rfl).trans <| (j_get (ji := 2) (v := (2, 7 + b)) q_57_96 (js_Fo qy_57 qf_10_15) (js_o22b hb) rfl rfl rfl rfl).trans <| (j_aload_n q_57_99 rfl).trans <| (j_get (ji := 2) (v := (0, σ x1 2)) q_57_100 (js_Fo qy_57 qf_10_65) hs_x1 rfl rfl rfl rfl).trans <| (j_iload_n q_57_103 rfl).trans <| rfl
theorem k_57_104 {E : js_E} {d : Nat} {σ σ2 : js_S} {x1 x2 z1 z2 z3 z5 z6 b : Int} (hb : b = 0 ∨ b = 25) {v : Int} (hd : 1 ≤ d) (hz : js_J E (d - 1) 58 0 [(2, 7 + b), (0, z5), (0, z6), (9, 0)] [] σ = js_r E (0, v) σ2) : js_J E d 57 104 [(2, 22 + b), (2, x1), (0, x2)] [(0, z6), (0, z5), (2, 7 + b), (0, z3), (0, z2), (0, z1), (2, 8 + b)] σ = js_J E d 57 107 [(2, 22 + b), (2, x1), (0, x2)] [(0, v), (0, z3), (0, z2), (0, z1), (2, 8 + b)] σ2 :=
  j_call (m := 1) (js_caV q_57_104 (js_Mo qy_57 qm_10_168)) (js_agV (av := [(0, z5), (0, z6)]) (st := [(0, z3), (0, z2), (0, z1), (2, 8 + b)]) rfl rfl (js_o7b hb) rfl) rfl rfl (by rw [ql_58]; exact Nat.le_of_ble_eq_true rfl) (Nat.le_of_ble_eq_true rfl) hd hz
theorem kt_57_104 {E : js_E} {d : Nat} {σ σ2 : js_S} {x1 x2 z1 z2 z3 z5 z6 b : Int} (hb : b = 0 ∨ b = 25) {w : Int} (hd : 1 ≤ d) (hz : js_J E (d - 1) 58 0 [(2, 7 + b), (0, z5), (0, z6), (9, 0)] [] σ = js_t E w σ2) : js_J E d 57 104 [(2, 22 + b), (2, x1), (0, x2)] [(0, z6), (0, z5), (2, 7 + b), (0, z3), (0, z2), (0, z1), (2, 8 + b)] σ = js_t E w σ2 :=
  j_callT (m := 1) (js_caV q_57_104 (js_Mo qy_57 qm_10_168)) (js_agV (av := [(0, z5), (0, z6)]) (st := [(0, z3), (0, z2), (0, z1), (2, 8 + b)]) rfl rfl (js_o7b hb) rfl) rfl rfl (by rw [ql_58]; exact Nat.le_of_ble_eq_true rfl) (Nat.le_of_ble_eq_true rfl) hd rfl hz
theorem k_57_107 {E : js_E} {d : Nat} {σ σ2 : js_S} {x1 x2 z1 z2 z3 z4 b : Int} (hb : b = 0 ∨ b = 25) (hd : 1 ≤ d) (hz : js_J E (d - 1) 59 0 [(2, 8 + b), (0, z1), (0, z2), (0, z3), (0, z4)] [] σ = js_r0 E σ2) : js_J E d 57 107 [(2, 22 + b), (2, x1), (0, x2)] [(0, z4), (0, z3), (0, z2), (0, z1), (2, 8 + b)] σ = js_J E d 57 110 [(2, 22 + b), (2, x1), (0, x2)] [] σ2 :=
  j_call0 (m := 0) (js_caV q_57_107 (js_Mo qy_57 qm_10_171)) (js_agV (av := [(0, z1), (0, z2), (0, z3), (0, z4)]) (st := []) rfl rfl (js_o8b hb) rfl) rfl rfl (by rw [ql_59]; exact Nat.le_of_ble_eq_true rfl) (Nat.le_of_ble_eq_true rfl) hd hz
theorem kt_57_107 {E : js_E} {d : Nat} {σ σ2 : js_S} {x1 x2 z1 z2 z3 z4 b : Int} (hb : b = 0 ∨ b = 25) {w : Int} (hd : 1 ≤ d) (hz : js_J E (d - 1) 59 0 [(2, 8 + b), (0, z1), (0, z2), (0, z3), (0, z4)] [] σ = js_t E w σ2) : js_J E d 57 107 [(2, 22 + b), (2, x1), (0, x2)] [(0, z4), (0, z3), (0, z2), (0, z1), (2, 8 + b)] σ = js_t E w σ2 :=
  j_callT (m := 0) (js_caV q_57_107 (js_Mo qy_57 qm_10_171)) (js_agV (av := [(0, z1), (0, z2), (0, z3), (0, z4)]) (st := []) rfl rfl (js_o8b hb) rfl) rfl rfl (by rw [ql_59]; exact Nat.le_of_ble_eq_true rfl) (Nat.le_of_ble_eq_true rfl) hd rfl hz
theorem b_57_110 {E : js_E} {d : Nat} {σ : js_S} {x1 x2 b : Int} : js_J E d 57 110 [(2, 22 + b), (2, x1), (0, x2)] [] σ = js_J E d 57 139 [(2, 22 + b), (2, x1), (0, x2)] [] σ :=
  (j_goto (t := 139) q_57_110 rfl).trans <| rfl
theorem k_57_117 {E : js_E} {d : Nat} {σ σ2 : js_S} {x1 b : Int} (hb : b = 0 ∨ b = 25) (hd : 1 ≤ d) (hz : js_J E (d - 1) 61 0 [(2, 23 + b), (9, 0), (9, 0), (9, 0), (9, 0), (9, 0), (9, 0)] [] σ = js_r0 E σ2) : js_J E d 57 117 [(2, 22 + b), (2, x1), (9, 0)] [(2, 23 + b)] σ = js_J E d 57 120 [(2, 22 + b), (2, x1), (9, 0)] [] σ2 :=
  j_call0 (m := 6) (js_caV q_57_117 (js_Mo qy_57 qm_10_62)) (js_agV (av := []) (st := []) rfl rfl (js_o23b hb) rfl) rfl rfl (by rw [ql_61]; exact Nat.le_of_ble_eq_true rfl) (Nat.le_of_ble_eq_true rfl) hd hz
theorem kt_57_117 {E : js_E} {d : Nat} {σ σ2 : js_S} {x1 b : Int} (hb : b = 0 ∨ b = 25) {w : Int} (hd : 1 ≤ d) (hz : js_J E (d - 1) 61 0 [(2, 23 + b), (9, 0), (9, 0), (9, 0), (9, 0), (9, 0), (9, 0)] [] σ = js_t E w σ2) : js_J E d 57 117 [(2, 22 + b), (2, x1), (9, 0)] [(2, 23 + b)] σ = js_t E w σ2 :=
  j_callT (m := 6) (js_caV q_57_117 (js_Mo qy_57 qm_10_62)) (js_agV (av := []) (st := []) rfl rfl (js_o23b hb) rfl) rfl rfl (by rw [ql_61]; exact Nat.le_of_ble_eq_true rfl) (Nat.le_of_ble_eq_true rfl) hd rfl hz
theorem b_57_120 {E : js_E} {d : Nat} {σ : js_S} {x1 b : Int} (hb : b = 0 ∨ b = 25) (hs_x1 : js_desc E.1 σ x1 = some (0, 11, js_sym)) : js_J E d 57 120 [(2, 22 + b), (2, x1), (9, 0)] [] σ = js_J E d 57 136 [(2, 22 + b), (2, x1), (9, 0)] [(0, σ x1 4), (0, σ x1 3), (0, σ x1 2), (2, 23 + b)] σ :=
  (j_aload_n q_57_120 rfl).trans <| (j_get (ji := 5) (v := (2, 23 + b)) q_57_121 (js_Fo qy_57 qf_10_35) (js_o22b hb) rfl rfl rfl rfl).trans <| (j_aload_n q_57_124 rfl).trans <| (j_get (ji := 2) (v := (0, σ x1 2)) q_57_125 (js_Fo qy_57 qf_10_65) hs_x1 rfl rfl rfl rfl).trans <| (j_aload_n q_57_128 rfl).trans <| (j_get (ji := 3) (v := (0, σ x1 3)) q_57_129 (js_Fo qy_57 qf_10_70) hs_x1 rfl rfl rfl rfl).trans <| (j_aload_n q_57_132 rfl).trans <| (j_get (ji := 4) (v := (0, σ x1 4)) q_57_133 (js_Fo qy_57 qf_10_73) hs_x1 rfl rfl rfl rfl).trans <| rfl
theorem k_57_136 {E : js_E} {d : Nat} {σ σ2 : js_S} {x1 z1 z2 z3 b : Int} (hb : b = 0 ∨ b = 25) (hd : 1 ≤ d) (hz : js_J E (d - 1) 68 0 [(2, 23 + b), (0, z1), (0, z2), (0, z3)] [] σ = js_r0 E σ2) : js_J E d 57 136 [(2, 22 + b), (2, x1), (9, 0)] [(0, z3), (0, z2), (0, z1), (2, 23 + b)] σ = js_J E d 57 139 [(2, 22 + b), (2, x1), (9, 0)] [] σ2 :=
  j_call0 (m := 0) (js_caV q_57_136 (js_Mo qy_57 qm_10_76)) (js_agV (av := [(0, z1), (0, z2), (0, z3)]) (st := []) rfl rfl (js_o23b hb) rfl) rfl rfl (by rw [ql_68]; exact Nat.le_of_ble_eq_true rfl) (Nat.le_of_ble_eq_true rfl) hd hz
theorem kt_57_136 {E : js_E} {d : Nat} {σ σ2 : js_S} {x1 z1 z2 z3 b : Int} (hb : b = 0 ∨ b = 25) {w : Int} (hd : 1 ≤ d) (hz : js_J E (d - 1) 68 0 [(2, 23 + b), (0, z1), (0, z2), (0, z3)] [] σ = js_t E w σ2) : js_J E d 57 136 [(2, 22 + b), (2, x1), (9, 0)] [(0, z3), (0, z2), (0, z1), (2, 23 + b)] σ = js_t E w σ2 :=
  j_callT (m := 0) (js_caV q_57_136 (js_Mo qy_57 qm_10_76)) (js_agV (av := [(0, z1), (0, z2), (0, z3)]) (st := []) rfl rfl (js_o23b hb) rfl) rfl rfl (by rw [ql_68]; exact Nat.le_of_ble_eq_true rfl) (Nat.le_of_ble_eq_true rfl) hd rfl hz
theorem b_57_139 {E : js_E} {d : Nat} {σ : js_S} {x1 b : Int} {ux2 : js_v} : js_J E d 57 139 [(2, 22 + b), (2, x1), ux2] [] σ = js_J E d 57 141 [(2, 22 + b), (2, x1), (0, 0)] [] σ :=
  (j_iconst q_57_139).trans <| (j_istore_n (l2 := [(2, 22 + b), (2, x1), (0, 0)]) q_57_140 rfl (Nat.le_of_ble_eq_true rfl)).trans <| rfl
theorem b_57_141 {E : js_E} {d : Nat} {σ : js_S} {x1 x2 b : Int} (hs_x1 : js_desc E.1 σ x1 = some (0, 11, js_sym)) (hb : b = 0 ∨ b = 25) : js_J E d 57 141 [(2, 22 + b), (2, x1), (0, x2)] [] σ = (if js_w x2 < js_w (σ x1 6) then js_J E d 57 155 [(2, 22 + b), (2, x1), (0, x2)] [(0, x2), (2, x1), (2, 8 + b)] σ else js_J E d 57 170 [(2, 22 + b), (2, x1), (0, x2)] [(0, 59), (2, 1)] σ) :=
  (j_iload_n q_57_141 rfl).trans <| (j_aload_n q_57_142 rfl).trans <| (j_get (ji := 6) (v := (0, σ x1 6)) q_57_143 (js_Fo qy_57 qf_10_143) hs_x1 rfl rfl rfl rfl).trans <| (j_cmpge (t := 164) q_57_146 rfl).trans (js_ite ((j_aload_n q_57_149 rfl).trans <| (j_get (ji := 3) (v := (2, 8 + b)) q_57_150 (js_Fo qy_57 qf_10_25) (js_o22b hb) rfl rfl rfl rfl).trans <| (j_aload_n q_57_153 rfl).trans <| (j_iload_n q_57_154 rfl).trans <| rfl) ((j_aload_n q_57_164 rfl).trans <| (j_get (ji := 1) (v := (2, 1)) q_57_165 (js_Fo qy_57 qf_10_9) (js_o22b hb) rfl rfl rfl rfl).trans <| (j_bi q_57_168 rfl).trans <| rfl))
theorem k_57_155 {E : js_E} {d : Nat} {σ σ2 : js_S} {x1 x2 z1 z2 b : Int} (hb : b = 0 ∨ b = 25) (hd : 1 ≤ d) (hz : js_J E (d - 1) 97 0 [(2, 8 + b), (2, z1), (0, z2)] [] σ = js_r0 E σ2) : js_J E d 57 155 [(2, 22 + b), (2, x1), (0, x2)] [(0, z2), (2, z1), (2, 8 + b)] σ = js_J E d 57 158 [(2, 22 + b), (2, x1), (0, x2)] [] σ2 :=
  j_call0 (m := 0) (js_caV q_57_155 (js_Mo qy_57 qm_10_175)) (js_agV (av := [(2, z1), (0, z2)]) (st := []) rfl rfl (js_o8b hb) rfl) rfl rfl (by rw [ql_97]; exact Nat.le_of_ble_eq_true rfl) (Nat.le_of_ble_eq_true rfl) hd hz
theorem kt_57_155 {E : js_E} {d : Nat} {σ σ2 : js_S} {x1 x2 z1 z2 b : Int} (hb : b = 0 ∨ b = 25) {w : Int} (hd : 1 ≤ d) (hz : js_J E (d - 1) 97 0 [(2, 8 + b), (2, z1), (0, z2)] [] σ = js_t E w σ2) : js_J E d 57 155 [(2, 22 + b), (2, x1), (0, x2)] [(0, z2), (2, z1), (2, 8 + b)] σ = js_t E w σ2 :=
  j_callT (m := 0) (js_caV q_57_155 (js_Mo qy_57 qm_10_175)) (js_agV (av := [(2, z1), (0, z2)]) (st := []) rfl rfl (js_o8b hb) rfl) rfl rfl (by rw [ql_97]; exact Nat.le_of_ble_eq_true rfl) (Nat.le_of_ble_eq_true rfl) hd rfl hz
theorem b_57_158 {E : js_E} {d : Nat} {σ : js_S} {x1 x2 b : Int} : js_J E d 57 158 [(2, 22 + b), (2, x1), (0, x2)] [] σ = js_J E d 57 141 [(2, 22 + b), (2, x1), (0, x2 + 1)] [] σ :=
  (j_iinc (l2 := [(2, 22 + b), (2, x1), (0, x2 + 1)]) q_57_158 rfl rfl).trans <| (j_goto (t := 141) q_57_161 rfl).trans <| rfl
theorem k_57_170 {E : js_E} {d : Nat} {σ σ2 : js_S} {x1 x2 z1 b : Int} (hd : 1 ≤ d) (hz : js_J E (d - 1) 40 0 [(2, 1), (0, z1)] [] σ = js_r0 E σ2) : js_J E d 57 170 [(2, 22 + b), (2, x1), (0, x2)] [(0, z1), (2, 1)] σ = js_J E d 57 173 [(2, 22 + b), (2, x1), (0, x2)] [] σ2 :=
  j_call0 (m := 0) (js_caV q_57_170 (js_Mo qy_57 qm_10_59)) (js_agV (av := [(0, z1)]) (st := []) rfl rfl js_o1 rfl) rfl rfl (by rw [ql_40]; exact Nat.le_of_ble_eq_true rfl) (Nat.le_of_ble_eq_true rfl) hd hz
theorem kt_57_170 {E : js_E} {d : Nat} {σ σ2 : js_S} {x1 x2 z1 b : Int} {w : Int} (hd : 1 ≤ d) (hz : js_J E (d - 1) 40 0 [(2, 1), (0, z1)] [] σ = js_t E w σ2) : js_J E d 57 170 [(2, 22 + b), (2, x1), (0, x2)] [(0, z1), (2, 1)] σ = js_t E w σ2 :=
  j_callT (m := 0) (js_caV q_57_170 (js_Mo qy_57 qm_10_59)) (js_agV (av := [(0, z1)]) (st := []) rfl rfl js_o1 rfl) rfl rfl (by rw [ql_40]; exact Nat.le_of_ble_eq_true rfl) (Nat.le_of_ble_eq_true rfl) hd rfl hz
theorem b_57_173 {E : js_E} {d : Nat} {σ : js_S} {x1 x2 b : Int} (hs_x1 : js_desc E.1 σ x1 = some (0, 11, js_sym)) : js_J E d 57 173 [(2, 22 + b), (2, x1), (0, x2)] [] σ = js_r0 E (js_up σ x1 13 1) :=
  (j_aload_n q_57_173 rfl).trans <| (j_iconst q_57_174).trans <| (j_putB1 (ji := 13) q_57_175 (js_Fo qy_57 qf_10_178) rfl hs_x1 rfl rfl rfl).trans <| j_return q_57_178 qr_57
-- 58: VitalTwin$Program.highOf (II)I
theorem b_58_0 {E : js_E} {d : Nat} {σ : js_S} {x1 x2 b : Int} (hb : b = 0 ∨ b = 25) : js_J E d 58 0 [(2, 7 + b), (0, x1), (0, x2), (9, 0)] [] σ = (if js_w x1 = 0 then js_r E (0, x2) σ else (if js_w (x1 - 3) < 0 then js_r E (0, 1) σ else (if js_w (x1 - 3) < js_w (σ (7 + b) 1) then (if 0 ≤ js_w (x1 - 3) ∧ js_w (x1 - 3) < 400 then (if (σ (19 + b) (js_w (x1 - 3))) < 0 then js_r E (0, 1) σ else js_J E d 58 31 [(2, 7 + b), (0, x1), (0, x2), (0, x1 - 3)] [] σ) else none) else js_r E (0, 1) σ))) :=
  (j_iload_n q_58_0 rfl).trans <| (j_ifne (t := 6) q_58_1 rfl).trans (js_ite ((j_iload_n q_58_4 rfl).trans <| j_ireturn q_58_5 qr_58) ((j_iload_n q_58_6 rfl).trans <| (j_iconst q_58_7).trans <| (j_isub q_58_8).trans <| (j_istore_n (l2 := [(2, 7 + b), (0, x1), (0, x2), (0, x1 - 3)]) q_58_9 rfl (Nat.le_of_ble_eq_true rfl)).trans <| (j_iload_n q_58_10 rfl).trans <| (j_iflt (t := 43) q_58_11 rfl).trans (js_ite ((j_iconst q_58_43).trans <| j_ireturn q_58_44 qr_58) ((j_iload_n q_58_14 rfl).trans <| (j_aload_n q_58_15 rfl).trans <| (j_get (ji := 1) (v := (0, σ (7 + b) 1)) q_58_16 (js_Fo qy_58 qf_7_31) (js_o7b hb) rfl rfl rfl rfl).trans <| (j_cmpge (t := 43) q_58_19 rfl).trans (js_ite ((j_aload_n q_58_22 rfl).trans <| (j_get (ji := 7) (v := (2, 19 + b)) q_58_23 (js_Fo qy_58 qf_7_20) (js_o7b hb) rfl rfl rfl rfl).trans <| (j_iload_n q_58_26 rfl).trans <| (j_aaload q_58_27 (js_o19b hb)).trans <| js_itp fun g0 => (j_ifnull (t := 43) q_58_28 rfl).trans (js_ite ((j_iconst q_58_43).trans <| j_ireturn q_58_44 qr_58) (rfl))) ((j_iconst q_58_43).trans <| j_ireturn q_58_44 qr_58))))))
theorem b_58_31 {E : js_E} {d : Nat} {σ : js_S} {x1 x2 x3 b : Int} (hb : b = 0 ∨ b = 25) : js_J E d 58 31 [(2, 7 + b), (0, x1), (0, x2), (0, x3)] [] σ = (if 0 ≤ js_w x3 ∧ js_w x3 < 400 then js_J E d 58 37 [(2, 7 + b), (0, x1), (0, x2), (0, x3)] [(2, σ (19 + b) (js_w x3))] σ else none) :=
  (j_aload_n q_58_31 rfl).trans <| (j_get (ji := 7) (v := (2, 19 + b)) q_58_32 (js_Fo qy_58 qf_7_20) (js_o7b hb) rfl rfl rfl rfl).trans <| (j_iload_n q_58_35 rfl).trans <| (j_aaload q_58_36 (js_o19b hb)).trans <| js_itp fun g0 => rfl
theorem b_58_37 {E : js_E} {d : Nat} {σ : js_S} {x1 x2 x3 z0 b : Int} (hs_z0 : js_desc E.1 σ z0 = some (0, 11, js_sym)) : js_J E d 58 37 [(2, 7 + b), (0, x1), (0, x2), (0, x3)] [(2, z0)] σ = js_r E (0, σ z0 4) σ :=
  (j_get (ji := 4) (v := (0, σ z0 4)) q_58_37 (js_Fo qy_58 qf_7_72) hs_z0 rfl rfl rfl rfl).trans <| (j_goto (t := 44) q_58_40 rfl).trans <| j_ireturn q_58_44 qr_58
-- 59: VitalTwin$Code.set (IIII)V
theorem b_59_0 {E : js_E} {d : Nat} {σ : js_S} {x1 x2 x3 x4 b : Int} : js_J E d 59 0 [(2, 8 + b), (0, x1), (0, x2), (0, x3), (0, x4)] [] σ = js_J E d 59 8 [(2, 8 + b), (0, x1), (0, x2), (0, x3), (0, x4)] [(0, 0), (0, x4), (0, x3), (0, 0), (0, x2), (0, x1), (2, 8 + b)] σ :=
  (j_aload_n q_59_0 rfl).trans <| (j_iload_n q_59_1 rfl).trans <| (j_iload_n q_59_2 rfl).trans <| (j_iconst q_59_3).trans <| (j_iload_n q_59_4 rfl).trans <| (j_iload q_59_5 rfl).trans <| (j_iconst q_59_7).trans <| rfl
theorem k_59_8 {E : js_E} {d : Nat} {σ σ2 : js_S} {x1 x2 x3 x4 z1 z2 z3 z4 z5 z6 b : Int} (hb : b = 0 ∨ b = 25) (hd : 1 ≤ d) (hz : js_J E (d - 1) 60 0 [(2, 8 + b), (0, z1), (0, z2), (0, z3), (0, z4), (0, z5), (0, z6), (9, 0)] [] σ = js_r0 E σ2) : js_J E d 59 8 [(2, 8 + b), (0, x1), (0, x2), (0, x3), (0, x4)] [(0, z6), (0, z5), (0, z4), (0, z3), (0, z2), (0, z1), (2, 8 + b)] σ = js_J E d 59 11 [(2, 8 + b), (0, x1), (0, x2), (0, x3), (0, x4)] [] σ2 :=
  j_call0 (m := 1) (js_caV q_59_8 (js_Mo qy_59 qm_1_74)) (js_agV (av := [(0, z1), (0, z2), (0, z3), (0, z4), (0, z5), (0, z6)]) (st := []) rfl rfl (js_o8b hb) rfl) rfl rfl (by rw [ql_60]; exact Nat.le_of_ble_eq_true rfl) (Nat.le_of_ble_eq_true rfl) hd hz
theorem kt_59_8 {E : js_E} {d : Nat} {σ σ2 : js_S} {x1 x2 x3 x4 z1 z2 z3 z4 z5 z6 b : Int} (hb : b = 0 ∨ b = 25) {w : Int} (hd : 1 ≤ d) (hz : js_J E (d - 1) 60 0 [(2, 8 + b), (0, z1), (0, z2), (0, z3), (0, z4), (0, z5), (0, z6), (9, 0)] [] σ = js_t E w σ2) : js_J E d 59 8 [(2, 8 + b), (0, x1), (0, x2), (0, x3), (0, x4)] [(0, z6), (0, z5), (0, z4), (0, z3), (0, z2), (0, z1), (2, 8 + b)] σ = js_t E w σ2 :=
  j_callT (m := 1) (js_caV q_59_8 (js_Mo qy_59 qm_1_74)) (js_agV (av := [(0, z1), (0, z2), (0, z3), (0, z4), (0, z5), (0, z6)]) (st := []) rfl rfl (js_o8b hb) rfl) rfl rfl (by rw [ql_60]; exact Nat.le_of_ble_eq_true rfl) (Nat.le_of_ble_eq_true rfl) hd rfl hz
theorem b_59_11 {E : js_E} {d : Nat} {σ : js_S} {x1 x2 x3 x4 b : Int} : js_J E d 59 11 [(2, 8 + b), (0, x1), (0, x2), (0, x3), (0, x4)] [] σ = js_r0 E σ :=
  j_return q_59_11 qr_59
-- 60: VitalTwin$Code.put (IIIIII)V
theorem b_60_0 {E : js_E} {d : Nat} {σ : js_S} {x1 x2 x3 x4 x5 x6 b : Int} (hb : b = 0 ∨ b = 25) : js_J E d 60 0 [(2, 8 + b), (0, x1), (0, x2), (0, x3), (0, x4), (0, x5), (0, x6), (9, 0)] [] σ = (if js_w (σ (8 + b) 6) < 8192 then (if 0 ≤ js_w (σ (8 + b) 6) ∧ js_w (σ (8 + b) 6) < 8192 then js_J E d 60 67 [(2, 8 + b), (0, x1), (0, x2), (0, x3), (0, x4), (0, x5), (0, x6), (0, σ (8 + b) 6)] [] (js_up (js_up (js_up (js_up (js_up (js_up σ (9 + b) (js_w (σ (8 + b) 6)) x1) (10 + b) (js_w (σ (8 + b) 6)) x2) (11 + b) (js_w (σ (8 + b) 6)) x3) (12 + b) (js_w (σ (8 + b) 6)) x4) (13 + b) (js_w (σ (8 + b) 6)) x5) (14 + b) (js_w (σ (8 + b) 6)) x6) else none) else js_J E d 60 67 [(2, 8 + b), (0, x1), (0, x2), (0, x3), (0, x4), (0, x5), (0, x6), (0, σ (8 + b) 6)] [] σ) :=
  (j_aload_n q_60_0 rfl).trans <| (j_get (ji := 6) (v := (0, σ (8 + b) 6)) q_60_1 (js_Fo qy_60 qf_1_42) (js_o8b hb) rfl rfl rfl rfl).trans <| (j_istore (l2 := [(2, 8 + b), (0, x1), (0, x2), (0, x3), (0, x4), (0, x5), (0, x6), (0, σ (8 + b) 6)]) q_60_4 rfl (Nat.le_of_ble_eq_true rfl)).trans <| (j_iload q_60_6 rfl).trans <| (j_aload_n q_60_8 rfl).trans <| (j_get (ji := 0) (v := (2, 9 + b)) q_60_9 (js_Fo qy_60 qf_1_9) (js_o8b hb) rfl rfl rfl rfl).trans <| (j_alen q_60_12 (js_o9b hb) (by decide) (by decide)).trans <| (j_cmpgeB (t := 67) q_60_13 rfl ww_8192).trans (js_ite ((j_aload_n q_60_16 rfl).trans <| (j_get (ji := 0) (v := (2, 9 + b)) q_60_17 (js_Fo qy_60 qf_1_9) (js_o8b hb) rfl rfl rfl rfl).trans <| (j_iload q_60_20 rfl).trans <| (j_iload_n q_60_22 rfl).trans <| (j_iastore q_60_23 (js_o9b hb)).trans <| js_itp fun g0 => (j_aload_n q_60_24 rfl).trans <| (j_get (ji := 1) (v := (2, 10 + b)) q_60_25 (js_Fo qy_60 qf_1_15) (js_o8b hb) rfl rfl rfl rfl).trans <| (j_iload q_60_28 rfl).trans <| (j_iload_n q_60_30 rfl).trans <| (j_iastore q_60_31 (js_o10b hb)).trans <| (if_pos g0).trans <| (j_aload_n q_60_32 rfl).trans <| (j_get (ji := 2) (v := (2, 11 + b)) q_60_33 (js_Fo qy_60 qf_1_18) (js_o8b hb) rfl rfl rfl rfl).trans <| (j_iload q_60_36 rfl).trans <| (j_iload_n q_60_38 rfl).trans <| (j_iastore q_60_39 (js_o11b hb)).trans <| (if_pos g0).trans <| (j_aload_n q_60_40 rfl).trans <| (j_get (ji := 3) (v := (2, 12 + b)) q_60_41 (js_Fo qy_60 qf_1_21) (js_o8b hb) rfl rfl rfl rfl).trans <| (j_iload q_60_44 rfl).trans <| (j_iload q_60_46 rfl).trans <| (j_iastore q_60_48 (js_o12b hb)).trans <| (if_pos g0).trans <| (j_aload_n q_60_49 rfl).trans <| (j_get (ji := 4) (v := (2, 13 + b)) q_60_50 (js_Fo qy_60 qf_1_24) (js_o8b hb) rfl rfl rfl rfl).trans <| (j_iload q_60_53 rfl).trans <| (j_iload q_60_55 rfl).trans <| (j_iastore q_60_57 (js_o13b hb)).trans <| (if_pos g0).trans <| (j_aload_n q_60_58 rfl).trans <| (j_get (ji := 5) (v := (2, 14 + b)) q_60_59 (js_Fo qy_60 qf_1_27) (js_o8b hb) rfl rfl rfl rfl).trans <| (j_iload q_60_62 rfl).trans <| (j_iload q_60_64 rfl).trans <| (j_iastore q_60_66 (js_o14b hb)).trans <| (if_pos g0).trans <| rfl) (rfl))
theorem b_60_67 {E : js_E} {d : Nat} {σ : js_S} {x1 x2 x3 x4 x5 x6 x7 b : Int} (hd : 4 ≤ d) (hb : b = 0 ∨ b = 25) : js_J E d 60 67 [(2, 8 + b), (0, x1), (0, x2), (0, x3), (0, x4), (0, x5), (0, x6), (0, x7)] [] σ = js_r0 E (js_up (js_up σ (8 + b) 6 ((σ (8 + b) 6) + 1)) (8 + b) 7 (if js_w ((σ (8 + b) 7) + 1) < js_w 400000 then ((σ (8 + b) 7) + 1) else 400000)) :=
  (j_aload_n q_60_67 rfl).trans <| (j_dupr q_60_68).trans <| (j_get (ji := 6) (v := (0, σ (8 + b) 6)) q_60_69 (js_Fo qy_60 qf_1_42) (js_o8b hb) rfl rfl rfl rfl).trans <| (j_iconst q_60_72).trans <| (j_iadd q_60_73).trans <| (j_putI (ji := 6) q_60_74 (js_Fo qy_60 qf_1_42) rfl (js_o8b hb) rfl rfl rfl).trans <| (j_aload_n q_60_77 rfl).trans <| (j_ldc (v := (0, 400000)) q_60_78 (js_Co qy_60 qc_1_67)).trans <| (j_aload_n q_60_80 rfl).trans <| (j_get (ji := 7) (v := (0, σ (8 + b) 7)) q_60_81 (js_Fo qy_60 qf_1_52) (js_o8b hb) rfl rfl rfl (congrArg (Prod.mk 0) ((js_up_ne _ (by omega))))).trans <| (j_iconst q_60_84).trans <| (j_iadd q_60_85).trans <| (j_min (js_clS q_60_86 (js_Mo qy_60 qm_1_68)) (Nat.le_of_ble_eq_true rfl) hd).trans <| (j_putI (ji := 7) q_60_89 (js_Fo qy_60 qf_1_52) rfl (js_o8b hb) rfl rfl rfl).trans <| j_return q_60_92 qr_60
