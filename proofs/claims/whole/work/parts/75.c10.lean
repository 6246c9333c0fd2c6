/-! part 75.c10: block equations of the class's (and the law's helpers') methods 174 to 308 (printed by wip/whole/tools/gen71.py) -/
theorem qy_175 : vt_O 175 = 6 := by decide +kernel
theorem qr_175 : vt_rc.getD 175 0 = 0 := by decide +kernel
theorem ql_175 : vt_ml.getD 175 0 = 2 := by decide +kernel
theorem qy_176 : vt_O 176 = 6 := by decide +kernel
theorem qr_176 : vt_rc.getD 176 0 = 0 := by decide +kernel
theorem ql_176 : vt_ml.getD 176 0 = 1 := by decide +kernel
theorem qy_177 : vt_O 177 = 0 := by decide +kernel
theorem qr_177 : vt_rc.getD 177 0 = 1 := by decide +kernel
theorem ql_177 : vt_ml.getD 177 0 = 1 := by decide +kernel
theorem qy_178 : vt_O 178 = 0 := by decide +kernel
theorem qr_178 : vt_rc.getD 178 0 = 1 := by decide +kernel
theorem ql_178 : vt_ml.getD 178 0 = 2 := by decide +kernel
theorem qy_179 : vt_O 179 = 6 := by decide +kernel
theorem qr_179 : vt_rc.getD 179 0 = 1 := by decide +kernel
theorem ql_179 : vt_ml.getD 179 0 = 3 := by decide +kernel
theorem qy_180 : vt_O 180 = 6 := by decide +kernel
theorem qr_180 : vt_rc.getD 180 0 = 1 := by decide +kernel
theorem ql_180 : vt_ml.getD 180 0 = 4 := by decide +kernel
theorem qy_308 : vt_O 308 = 20 := by decide +kernel
theorem qr_308 : vt_rc.getD 308 0 = 1 := by decide +kernel
theorem ql_308 : vt_ml.getD 308 0 = 3 := by decide +kernel
theorem qy_181 : vt_O 181 = 0 := by decide +kernel
theorem qr_181 : vt_rc.getD 181 0 = 1 := by decide +kernel
theorem ql_181 : vt_ml.getD 181 0 = 3 := by decide +kernel
theorem qy_182 : vt_O 182 = 6 := by decide +kernel
theorem qr_182 : vt_rc.getD 182 0 = 2 := by decide +kernel
theorem ql_182 : vt_ml.getD 182 0 = 2 := by decide +kernel
theorem qy_183 : vt_O 183 = 0 := by decide +kernel
theorem qr_183 : vt_rc.getD 183 0 = 3 := by decide +kernel
theorem ql_183 : vt_ml.getD 183 0 = 3 := by decide +kernel
theorem qy_184 : vt_O 184 = 0 := by decide +kernel
theorem qr_184 : vt_rc.getD 184 0 = 3 := by decide +kernel
theorem ql_184 : vt_ml.getD 184 0 = 5 := by decide +kernel
theorem qy_299 : vt_O 299 = 0 := by decide +kernel
theorem qr_299 : vt_rc.getD 299 0 = 1 := by decide +kernel
theorem ql_299 : vt_ml.getD 299 0 = 3 := by decide +kernel
theorem qy_300 : vt_O 300 = 19 := by decide +kernel
theorem qr_300 : vt_rc.getD 300 0 = 1 := by decide +kernel
theorem ql_300 : vt_ml.getD 300 0 = 5 := by decide +kernel
theorem qy_301 : vt_O 301 = 19 := by decide +kernel
theorem qr_301 : vt_rc.getD 301 0 = 1 := by decide +kernel
theorem ql_301 : vt_ml.getD 301 0 = 4 := by decide +kernel
theorem qy_302 : vt_O 302 = 19 := by decide +kernel
theorem qr_302 : vt_rc.getD 302 0 = 1 := by decide +kernel
theorem ql_302 : vt_ml.getD 302 0 = 3 := by decide +kernel
theorem qy_303 : vt_O 303 = 19 := by decide +kernel
theorem qr_303 : vt_rc.getD 303 0 = 1 := by decide +kernel
theorem ql_303 : vt_ml.getD 303 0 = 4 := by decide +kernel
theorem qy_304 : vt_O 304 = 19 := by decide +kernel
theorem qr_304 : vt_rc.getD 304 0 = 1 := by decide +kernel
theorem ql_304 : vt_ml.getD 304 0 = 5 := by decide +kernel
theorem qy_305 : vt_O 305 = 19 := by decide +kernel
theorem qr_305 : vt_rc.getD 305 0 = 1 := by decide +kernel
theorem ql_305 : vt_ml.getD 305 0 = 5 := by decide +kernel
theorem qy_306 : vt_O 306 = 19 := by decide +kernel
theorem qr_306 : vt_rc.getD 306 0 = 1 := by decide +kernel
theorem ql_306 : vt_ml.getD 306 0 = 5 := by decide +kernel
theorem qy_307 : vt_O 307 = 19 := by decide +kernel
theorem qr_307 : vt_rc.getD 307 0 = 1 := by decide +kernel
theorem ql_307 : vt_ml.getD 307 0 = 2 := by decide +kernel
theorem q_174_0 : js_I 174 0 = some (.aload_n 0, 1) := by decide +kernel
theorem q_174_1 : js_I 174 1 = some (.getfield 90, 3) := by decide +kernel
theorem q_174_4 : js_I 174 4 = some (.ifCond .eq 5, 3) := by decide +kernel
theorem q_174_9 : js_I 174 9 = some (.aload_n 0, 1) := by decide +kernel
theorem q_174_10 : js_I 174 10 = some (.getfield 20, 3) := by decide +kernel
theorem q_174_13 : js_I 174 13 = some (.getfield 110, 3) := by decide +kernel
theorem q_174_16 : js_I 174 16 = some (.ifCond .ne 11, 3) := by decide +kernel
theorem q_174_19 : js_I 174 19 = some (.aload_n 0, 1) := by decide +kernel
theorem q_174_20 : js_I 174 20 = some (.aload_n 0, 1) := by decide +kernel
theorem q_174_21 : js_I 174 21 = some (.getfield 20, 3) := by decide +kernel
theorem q_174_24 : js_I 174 24 = some (.invokevirtual 116, 3) := by decide +kernel
theorem q_174_7 : js_I 174 7 = some (.iconst 0, 1) := by decide +kernel
theorem q_174_8 : js_I 174 8 = some (.ireturn, 1) := by decide +kernel
theorem q_174_27 : js_I 174 27 = some (.iconst 0, 1) := by decide +kernel
theorem q_174_28 : js_I 174 28 = some (.istore_n 2, 1) := by decide +kernel
theorem q_174_29 : js_I 174 29 = some (.iload_n 2, 1) := by decide +kernel
theorem q_174_30 : js_I 174 30 = some (.iload_n 1, 1) := by decide +kernel
theorem q_174_31 : js_I 174 31 = some (.if_icmp .ge 34, 3) := by decide +kernel
theorem q_174_34 : js_I 174 34 = some (.aload_n 0, 1) := by decide +kernel
theorem q_174_35 : js_I 174 35 = some (.getfield 20, 3) := by decide +kernel
theorem q_174_38 : js_I 174 38 = some (.getfield 110, 3) := by decide +kernel
theorem q_174_41 : js_I 174 41 = some (.ifCond .eq 24, 3) := by decide +kernel
theorem q_174_44 : js_I 174 44 = some (.aload_n 0, 1) := by decide +kernel
theorem q_174_45 : js_I 174 45 = some (.invokevirtual 120, 3) := by decide +kernel
theorem q_174_48 : js_I 174 48 = some (.aload_n 0, 1) := by decide +kernel
theorem q_174_49 : js_I 174 49 = some (.getfield 20, 3) := by decide +kernel
theorem q_174_52 : js_I 174 52 = some (.aload_n 0, 1) := by decide +kernel
theorem q_174_53 : js_I 174 53 = some (.getfield 39, 3) := by decide +kernel
theorem q_174_56 : js_I 174 56 = some (.invokevirtual 123, 3) := by decide +kernel
theorem q_174_59 : js_I 174 59 = some (.iinc 2 1, 3) := by decide +kernel
theorem q_174_62 : js_I 174 62 = some (.goto (-33), 3) := by decide +kernel
theorem q_174_65 : js_I 174 65 = some (.aload_n 0, 1) := by decide +kernel
theorem q_174_66 : js_I 174 66 = some (.getfield 20, 3) := by decide +kernel
theorem q_174_69 : js_I 174 69 = some (.getfield 110, 3) := by decide +kernel
theorem q_174_72 : js_I 174 72 = some (.ifCond .ne 7, 3) := by decide +kernel
theorem q_174_75 : js_I 174 75 = some (.aload_n 0, 1) := by decide +kernel
theorem q_174_76 : js_I 174 76 = some (.invokevirtual 127, 3) := by decide +kernel
theorem q_174_79 : js_I 174 79 = some (.iload_n 2, 1) := by decide +kernel
theorem q_174_80 : js_I 174 80 = some (.ireturn, 1) := by decide +kernel
theorem q_175_0 : js_I 175 0 = some (.iconst 0, 1) := by decide +kernel
theorem q_175_1 : js_I 175 1 = some (.istore_n 1, 1) := by decide +kernel
theorem q_175_2 : js_I 175 2 = some (.iload_n 1, 1) := by decide +kernel
theorem q_175_3 : js_I 175 3 = some (.aload_n 0, 1) := by decide +kernel
theorem q_175_4 : js_I 175 4 = some (.getfield 96, 3) := by decide +kernel
theorem q_175_7 : js_I 175 7 = some (.if_icmp .ge 83, 3) := by decide +kernel
theorem q_175_10 : js_I 175 10 = some (.iload_n 1, 1) := by decide +kernel
theorem q_175_11 : js_I 175 11 = some (.bipush 8, 2) := by decide +kernel
theorem q_175_13 : js_I 175 13 = some (.if_icmp .ge 77, 3) := by decide +kernel
theorem q_175_16 : js_I 175 16 = some (.aload_n 0, 1) := by decide +kernel
theorem q_175_17 : js_I 175 17 = some (.getfield 9, 3) := by decide +kernel
theorem q_175_20 : js_I 175 20 = some (.iconst 4, 1) := by decide +kernel
theorem q_175_21 : js_I 175 21 = some (.iload_n 1, 1) := by decide +kernel
theorem q_175_22 : js_I 175 22 = some (.imul, 1) := by decide +kernel
theorem q_175_23 : js_I 175 23 = some (.iconst 3, 1) := by decide +kernel
theorem q_175_24 : js_I 175 24 = some (.iadd, 1) := by decide +kernel
theorem q_175_25 : js_I 175 25 = some (.iaload, 1) := by decide +kernel
theorem q_175_26 : js_I 175 26 = some (.aload_n 0, 1) := by decide +kernel
theorem q_175_27 : js_I 175 27 = some (.getfield 20, 3) := by decide +kernel
theorem q_175_30 : js_I 175 30 = some (.getfield 113, 3) := by decide +kernel
theorem q_175_33 : js_I 175 33 = some (.if_icmp .ne 51, 3) := by decide +kernel
theorem q_175_36 : js_I 175 36 = some (.aload_n 0, 1) := by decide +kernel
theorem q_175_37 : js_I 175 37 = some (.getfield 20, 3) := by decide +kernel
theorem q_175_40 : js_I 175 40 = some (.aload_n 0, 1) := by decide +kernel
theorem q_175_41 : js_I 175 41 = some (.getfield 9, 3) := by decide +kernel
theorem q_175_44 : js_I 175 44 = some (.iconst 4, 1) := by decide +kernel
theorem q_175_45 : js_I 175 45 = some (.iload_n 1, 1) := by decide +kernel
theorem q_175_46 : js_I 175 46 = some (.imul, 1) := by decide +kernel
theorem q_175_47 : js_I 175 47 = some (.iaload, 1) := by decide +kernel
theorem q_175_48 : js_I 175 48 = some (.invokevirtual 135, 3) := by decide +kernel
theorem q_175_90 : js_I 175 90 = some (.return_, 1) := by decide +kernel
theorem q_175_51 : js_I 175 51 = some (.aload_n 0, 1) := by decide +kernel
theorem q_175_52 : js_I 175 52 = some (.getfield 9, 3) := by decide +kernel
theorem q_175_55 : js_I 175 55 = some (.iconst 4, 1) := by decide +kernel
theorem q_175_56 : js_I 175 56 = some (.iload_n 1, 1) := by decide +kernel
theorem q_175_57 : js_I 175 57 = some (.imul, 1) := by decide +kernel
theorem q_175_58 : js_I 175 58 = some (.iconst 1, 1) := by decide +kernel
theorem q_175_59 : js_I 175 59 = some (.iadd, 1) := by decide +kernel
theorem q_175_60 : js_I 175 60 = some (.iaload, 1) := by decide +kernel
theorem q_175_61 : js_I 175 61 = some (.aload_n 0, 1) := by decide +kernel
theorem q_175_62 : js_I 175 62 = some (.getfield 9, 3) := by decide +kernel
theorem q_175_65 : js_I 175 65 = some (.iconst 4, 1) := by decide +kernel
theorem q_175_66 : js_I 175 66 = some (.iload_n 1, 1) := by decide +kernel
theorem q_175_67 : js_I 175 67 = some (.imul, 1) := by decide +kernel
theorem q_175_68 : js_I 175 68 = some (.iconst 2, 1) := by decide +kernel
theorem q_175_69 : js_I 175 69 = some (.iadd, 1) := by decide +kernel
theorem q_175_70 : js_I 175 70 = some (.iaload, 1) := by decide +kernel
theorem q_175_71 : js_I 175 71 = some (.invokevirtual 139, 3) := by decide +kernel
theorem q_175_74 : js_I 175 74 = some (.aload_n 0, 1) := by decide +kernel
theorem q_175_75 : js_I 175 75 = some (.dup, 1) := by decide +kernel
theorem q_175_76 : js_I 175 76 = some (.getfield 99, 3) := by decide +kernel
theorem q_175_79 : js_I 175 79 = some (.iconst 1, 1) := by decide +kernel
theorem q_175_80 : js_I 175 80 = some (.iadd, 1) := by decide +kernel
theorem q_175_81 : js_I 175 81 = some (.putfield 99, 3) := by decide +kernel
theorem q_175_84 : js_I 175 84 = some (.iinc 1 1, 3) := by decide +kernel
theorem q_175_87 : js_I 175 87 = some (.goto (-85), 3) := by decide +kernel
theorem q_176_0 : js_I 176 0 = some (.aload_n 0, 1) := by decide +kernel
theorem q_176_1 : js_I 176 1 = some (.iconst 0, 1) := by decide +kernel
theorem q_176_2 : js_I 176 2 = some (.putfield 96, 3) := by decide +kernel
theorem q_176_5 : js_I 176 5 = some (.aload_n 0, 1) := by decide +kernel
theorem q_176_6 : js_I 176 6 = some (.getfield 20, 3) := by decide +kernel
theorem q_176_9 : js_I 176 9 = some (.getfield 144, 3) := by decide +kernel
theorem q_176_12 : js_I 176 12 = some (.iconst 4, 1) := by decide +kernel
theorem q_176_13 : js_I 176 13 = some (.if_icmp .eq 15, 3) := by decide +kernel
theorem q_176_28 : js_I 176 28 = some (.aload_n 0, 1) := by decide +kernel
theorem q_176_29 : js_I 176 29 = some (.dup, 1) := by decide +kernel
theorem q_176_30 : js_I 176 30 = some (.getfield 93, 3) := by decide +kernel
theorem q_176_33 : js_I 176 33 = some (.iconst 1, 1) := by decide +kernel
theorem q_176_34 : js_I 176 34 = some (.iadd, 1) := by decide +kernel
theorem q_176_35 : js_I 176 35 = some (.putfield 93, 3) := by decide +kernel
theorem q_176_38 : js_I 176 38 = some (.aload_n 0, 1) := by decide +kernel
theorem q_176_39 : js_I 176 39 = some (.aload_n 0, 1) := by decide +kernel
theorem q_176_40 : js_I 176 40 = some (.getfield 20, 3) := by decide +kernel
theorem q_176_43 : js_I 176 43 = some (.aload_n 0, 1) := by decide +kernel
theorem q_176_44 : js_I 176 44 = some (.getfield 36, 3) := by decide +kernel
theorem q_176_47 : js_I 176 47 = some (.aload_n 0, 1) := by decide +kernel
theorem q_176_48 : js_I 176 48 = some (.getfield 93, 3) := by decide +kernel
theorem q_176_51 : js_I 176 51 = some (.bipush 16, 2) := by decide +kernel
theorem q_176_53 : js_I 176 53 = some (.irem, 1) := by decide +kernel
theorem q_176_54 : js_I 176 54 = some (.aload_n 0, 1) := by decide +kernel
theorem q_176_55 : js_I 176 55 = some (.getfield 39, 3) := by decide +kernel
theorem q_176_58 : js_I 176 58 = some (.getfield 147, 3) := by decide +kernel
theorem q_176_61 : js_I 176 61 = some (.imul, 1) := by decide +kernel
theorem q_176_62 : js_I 176 62 = some (.invokevirtual 150, 3) := by decide +kernel
theorem q_176_16 : js_I 176 16 = some (.aload_n 0, 1) := by decide +kernel
theorem q_176_17 : js_I 176 17 = some (.aload_n 0, 1) := by decide +kernel
theorem q_176_18 : js_I 176 18 = some (.getfield 20, 3) := by decide +kernel
theorem q_176_21 : js_I 176 21 = some (.getfield 144, 3) := by decide +kernel
theorem q_176_24 : js_I 176 24 = some (.putfield 90, 3) := by decide +kernel
theorem q_176_27 : js_I 176 27 = some (.return_, 1) := by decide +kernel
theorem q_176_65 : js_I 176 65 = some (.return_, 1) := by decide +kernel
theorem q_177_0 : js_I 177 0 = some (.aload_n 0, 1) := by decide +kernel
theorem q_177_1 : js_I 177 1 = some (.getfield 46, 3) := by decide +kernel
theorem q_177_4 : js_I 177 4 = some (.getfield 141, 3) := by decide +kernel
theorem q_177_7 : js_I 177 7 = some (.ifCond .ne 13, 3) := by decide +kernel
theorem q_177_10 : js_I 177 10 = some (.new 61, 3) := by decide +kernel
theorem q_177_20 : js_I 177 20 = some (.aload_n 0, 1) := by decide +kernel
theorem q_177_21 : js_I 177 21 = some (.getfield 46, 3) := by decide +kernel
theorem q_177_24 : js_I 177 24 = some (.ldc 151, 2) := by decide +kernel
theorem q_177_26 : js_I 177 26 = some (.invokevirtual 148, 3) := by decide +kernel
theorem q_177_29 : js_I 177 29 = some (.pop, 1) := by decide +kernel
theorem q_177_30 : js_I 177 30 = some (.aload_n 0, 1) := by decide +kernel
theorem q_177_31 : js_I 177 31 = some (.getfield 46, 3) := by decide +kernel
theorem q_177_34 : js_I 177 34 = some (.getfield 152, 3) := by decide +kernel
theorem q_177_37 : js_I 177 37 = some (.ifCond .ne 7, 3) := by decide +kernel
theorem q_177_40 : js_I 177 40 = some (.iconst 1, 1) := by decide +kernel
theorem q_177_41 : js_I 177 41 = some (.goto 4, 3) := by decide +kernel
theorem q_177_45 : js_I 177 45 = some (.ireturn, 1) := by decide +kernel
theorem q_177_44 : js_I 177 44 = some (.iconst 0, 1) := by decide +kernel
theorem q_178_0 : js_I 178 0 = some (.iload_n 1, 1) := by decide +kernel
theorem q_178_1 : js_I 178 1 = some (.ifCond .lt 17, 3) := by decide +kernel
theorem q_178_4 : js_I 178 4 = some (.iload_n 1, 1) := by decide +kernel
theorem q_178_5 : js_I 178 5 = some (.aload_n 0, 1) := by decide +kernel
theorem q_178_6 : js_I 178 6 = some (.getfield 46, 3) := by decide +kernel
theorem q_178_9 : js_I 178 9 = some (.getfield 155, 3) := by decide +kernel
theorem q_178_12 : js_I 178 12 = some (.getfield 156, 3) := by decide +kernel
theorem q_178_15 : js_I 178 15 = some (.if_icmp .lt 13, 3) := by decide +kernel
theorem q_178_28 : js_I 178 28 = some (.aload_n 0, 1) := by decide +kernel
theorem q_178_29 : js_I 178 29 = some (.getfield 46, 3) := by decide +kernel
theorem q_178_32 : js_I 178 32 = some (.iload_n 1, 1) := by decide +kernel
theorem q_178_33 : js_I 178 33 = some (.invokevirtual 161, 3) := by decide +kernel
theorem q_178_18 : js_I 178 18 = some (.new 109, 3) := by decide +kernel
theorem q_178_36 : js_I 178 36 = some (.ireturn, 1) := by decide +kernel
theorem q_179_0 : js_I 179 0 = some (.aload_n 0, 1) := by decide +kernel
theorem q_179_1 : js_I 179 1 = some (.getfield 90, 3) := by decide +kernel
theorem q_179_4 : js_I 179 4 = some (.ifCond .ne 17, 3) := by decide +kernel
theorem q_179_7 : js_I 179 7 = some (.aload_n 0, 1) := by decide +kernel
theorem q_179_8 : js_I 179 8 = some (.getfield 93, 3) := by decide +kernel
theorem q_179_11 : js_I 179 11 = some (.ifCond .le 10, 3) := by decide +kernel
theorem q_179_14 : js_I 179 14 = some (.aload_n 0, 1) := by decide +kernel
theorem q_179_15 : js_I 179 15 = some (.iconst 0, 1) := by decide +kernel
theorem q_179_16 : js_I 179 16 = some (.iload_n 1, 1) := by decide +kernel
theorem q_179_17 : js_I 179 17 = some (.invokevirtual 158, 3) := by decide +kernel
theorem q_179_20 : js_I 179 20 = some (.ireturn, 1) := by decide +kernel
theorem q_179_21 : js_I 179 21 = some (.aload_n 0, 1) := by decide +kernel
theorem q_179_22 : js_I 179 22 = some (.getfield 39, 3) := by decide +kernel
theorem q_179_25 : js_I 179 25 = some (.iconst 2, 1) := by decide +kernel
theorem q_179_26 : js_I 179 26 = some (.iload_n 1, 1) := by decide +kernel
theorem q_179_27 : js_I 179 27 = some (.invokevirtual 102, 3) := by decide +kernel
theorem q_179_30 : js_I 179 30 = some (.astore_n 2, 1) := by decide +kernel
theorem q_179_31 : js_I 179 31 = some (.aload_n 2, 1) := by decide +kernel
theorem q_179_32 : js_I 179 32 = some (.ifnonnull 7, 3) := by decide +kernel
theorem q_179_35 : js_I 179 35 = some (.iconst 0, 1) := by decide +kernel
theorem q_179_36 : js_I 179 36 = some (.goto 7, 3) := by decide +kernel
theorem q_179_43 : js_I 179 43 = some (.ireturn, 1) := by decide +kernel
theorem q_179_39 : js_I 179 39 = some (.aload_n 2, 1) := by decide +kernel
theorem q_179_40 : js_I 179 40 = some (.getfield 83, 3) := by decide +kernel
theorem q_180_0 : js_I 180 0 = some (.aload_n 0, 1) := by decide +kernel
theorem q_180_1 : js_I 180 1 = some (.getfield 93, 3) := by decide +kernel
theorem q_180_4 : js_I 180 4 = some (.iload_n 1, 1) := by decide +kernel
theorem q_180_5 : js_I 180 5 = some (.isub, 1) := by decide +kernel
theorem q_180_6 : js_I 180 6 = some (.bipush 16, 2) := by decide +kernel
theorem q_180_8 : js_I 180 8 = some (.invokestatic 161, 3) := by decide +kernel
theorem q_180_11 : js_I 180 11 = some (.aload_n 0, 1) := by decide +kernel
theorem q_180_12 : js_I 180 12 = some (.getfield 39, 3) := by decide +kernel
theorem q_180_15 : js_I 180 15 = some (.getfield 147, 3) := by decide +kernel
theorem q_180_18 : js_I 180 18 = some (.imul, 1) := by decide +kernel
theorem q_180_19 : js_I 180 19 = some (.iload_n 2, 1) := by decide +kernel
theorem q_180_20 : js_I 180 20 = some (.iadd, 1) := by decide +kernel
theorem q_180_21 : js_I 180 21 = some (.istore_n 3, 1) := by decide +kernel
theorem q_180_22 : js_I 180 22 = some (.iload_n 3, 1) := by decide +kernel
theorem q_180_23 : js_I 180 23 = some (.ifCond .lt 21, 3) := by decide +kernel
theorem q_180_44 : js_I 180 44 = some (.iconst 0, 1) := by decide +kernel
theorem q_180_45 : js_I 180 45 = some (.ireturn, 1) := by decide +kernel
theorem q_180_26 : js_I 180 26 = some (.iload_n 3, 1) := by decide +kernel
theorem q_180_27 : js_I 180 27 = some (.aload_n 0, 1) := by decide +kernel
theorem q_180_28 : js_I 180 28 = some (.getfield 36, 3) := by decide +kernel
theorem q_180_31 : js_I 180 31 = some (.arraylength, 1) := by decide +kernel
theorem q_180_32 : js_I 180 32 = some (.if_icmp .ge 12, 3) := by decide +kernel
theorem q_180_35 : js_I 180 35 = some (.aload_n 0, 1) := by decide +kernel
theorem q_180_36 : js_I 180 36 = some (.getfield 36, 3) := by decide +kernel
theorem q_180_39 : js_I 180 39 = some (.iload_n 3, 1) := by decide +kernel
theorem q_180_40 : js_I 180 40 = some (.iaload, 1) := by decide +kernel
theorem q_180_41 : js_I 180 41 = some (.goto 4, 3) := by decide +kernel
theorem q_181_0 : js_I 181 0 = some (.iload_n 2, 1) := by decide +kernel
theorem q_181_1 : js_I 181 1 = some (.ifCond .lt 28, 3) := by decide +kernel
theorem q_181_4 : js_I 181 4 = some (.iload_n 2, 1) := by decide +kernel
theorem q_181_5 : js_I 181 5 = some (.aload_n 0, 1) := by decide +kernel
theorem q_181_6 : js_I 181 6 = some (.getfield 46, 3) := by decide +kernel
theorem q_181_9 : js_I 181 9 = some (.getfield 155, 3) := by decide +kernel
theorem q_181_12 : js_I 181 12 = some (.getfield 156, 3) := by decide +kernel
theorem q_181_15 : js_I 181 15 = some (.if_icmp .ge 14, 3) := by decide +kernel
theorem q_181_18 : js_I 181 18 = some (.aload_n 0, 1) := by decide +kernel
theorem q_181_19 : js_I 181 19 = some (.getfield 46, 3) := by decide +kernel
theorem q_181_22 : js_I 181 22 = some (.iload_n 1, 1) := by decide +kernel
theorem q_181_23 : js_I 181 23 = some (.invokevirtual 164, 3) := by decide +kernel
theorem q_181_26 : js_I 181 26 = some (.ifCond .ne 13, 3) := by decide +kernel
theorem q_181_39 : js_I 181 39 = some (.aload_n 0, 1) := by decide +kernel
theorem q_181_40 : js_I 181 40 = some (.getfield 46, 3) := by decide +kernel
theorem q_181_43 : js_I 181 43 = some (.iload_n 1, 1) := by decide +kernel
theorem q_181_44 : js_I 181 44 = some (.iload_n 2, 1) := by decide +kernel
theorem q_181_45 : js_I 181 45 = some (.invokevirtual 169, 3) := by decide +kernel
theorem q_181_29 : js_I 181 29 = some (.new 109, 3) := by decide +kernel
theorem q_181_48 : js_I 181 48 = some (.ireturn, 1) := by decide +kernel
theorem q_182_0 : js_I 182 0 = some (.iload_n 1, 1) := by decide +kernel
theorem q_182_1 : js_I 182 1 = some (.ifCond .lt 21, 3) := by decide +kernel
theorem q_182_22 : js_I 182 22 = some (.iconst 0, 1) := by decide +kernel
theorem q_182_23 : js_I 182 23 = some (.ireturn, 1) := by decide +kernel
theorem q_182_4 : js_I 182 4 = some (.iload_n 1, 1) := by decide +kernel
theorem q_182_5 : js_I 182 5 = some (.bipush 16, 2) := by decide +kernel
theorem q_182_7 : js_I 182 7 = some (.if_icmp .ge 15, 3) := by decide +kernel
theorem q_182_10 : js_I 182 10 = some (.iload_n 1, 1) := by decide +kernel
theorem q_182_11 : js_I 182 11 = some (.aload_n 0, 1) := by decide +kernel
theorem q_182_12 : js_I 182 12 = some (.getfield 93, 3) := by decide +kernel
theorem q_182_15 : js_I 182 15 = some (.if_icmp .ge 7, 3) := by decide +kernel
theorem q_182_18 : js_I 182 18 = some (.iconst 1, 1) := by decide +kernel
theorem q_182_19 : js_I 182 19 = some (.goto 4, 3) := by decide +kernel
theorem q_183_0 : js_I 183 0 = some (.iload_n 2, 1) := by decide +kernel
theorem q_183_1 : js_I 183 1 = some (.ifCond .lt 15, 3) := by decide +kernel
theorem q_183_4 : js_I 183 4 = some (.aload_n 0, 1) := by decide +kernel
theorem q_183_5 : js_I 183 5 = some (.getfield 46, 3) := by decide +kernel
theorem q_183_8 : js_I 183 8 = some (.iload_n 1, 1) := by decide +kernel
theorem q_183_9 : js_I 183 9 = some (.iload_n 2, 1) := by decide +kernel
theorem q_183_10 : js_I 183 10 = some (.invokevirtual 172, 3) := by decide +kernel
theorem q_183_13 : js_I 183 13 = some (.ifCond .ne 13, 3) := by decide +kernel
theorem q_183_26 : js_I 183 26 = some (.aload_n 0, 1) := by decide +kernel
theorem q_183_27 : js_I 183 27 = some (.getfield 46, 3) := by decide +kernel
theorem q_183_30 : js_I 183 30 = some (.getfield 185, 3) := by decide +kernel
theorem q_183_33 : js_I 183 33 = some (.iload_n 1, 1) := by decide +kernel
theorem q_183_34 : js_I 183 34 = some (.invokevirtual 189, 3) := by decide +kernel
theorem q_183_16 : js_I 183 16 = some (.new 109, 3) := by decide +kernel
theorem q_183_37 : js_I 183 37 = some (.iload_n 2, 1) := by decide +kernel
theorem q_183_38 : js_I 183 38 = some (.invokevirtual 195, 3) := by decide +kernel
theorem q_183_41 : js_I 183 41 = some (.lreturn, 1) := by decide +kernel
theorem q_184_0 : js_I 184 0 = some (.iload_n 1, 1) := by decide +kernel
theorem q_184_1 : js_I 184 1 = some (.ifCond .lt 17, 3) := by decide +kernel
theorem q_184_4 : js_I 184 4 = some (.iload_n 1, 1) := by decide +kernel
theorem q_184_5 : js_I 184 5 = some (.iconst 1, 1) := by decide +kernel
theorem q_184_6 : js_I 184 6 = some (.if_icmp .gt 12, 3) := by decide +kernel
theorem q_184_9 : js_I 184 9 = some (.iload_n 2, 1) := by decide +kernel
theorem q_184_10 : js_I 184 10 = some (.ifCond .lt 8, 3) := by decide +kernel
theorem q_184_13 : js_I 184 13 = some (.iload_n 2, 1) := by decide +kernel
theorem q_184_14 : js_I 184 14 = some (.iconst 3, 1) := by decide +kernel
theorem q_184_15 : js_I 184 15 = some (.if_icmp .le 13, 3) := by decide +kernel
theorem q_184_28 : js_I 184 28 = some (.aload_n 0, 1) := by decide +kernel
theorem q_184_29 : js_I 184 29 = some (.getfield 46, 3) := by decide +kernel
theorem q_184_32 : js_I 184 32 = some (.getfield 185, 3) := by decide +kernel
theorem q_184_35 : js_I 184 35 = some (.iload_n 1, 1) := by decide +kernel
theorem q_184_36 : js_I 184 36 = some (.invokevirtual 189, 3) := by decide +kernel
theorem q_184_18 : js_I 184 18 = some (.new 109, 3) := by decide +kernel
theorem q_184_39 : js_I 184 39 = some (.astore_n 3, 1) := by decide +kernel
theorem q_184_40 : js_I 184 40 = some (.iload_n 2, 1) := by decide +kernel
theorem q_184_41 : js_I 184 41 = some (.iconst 2, 1) := by decide +kernel
theorem q_184_42 : js_I 184 42 = some (.if_icmp .ge 19, 3) := by decide +kernel
theorem q_184_45 : js_I 184 45 = some (.iload_n 2, 1) := by decide +kernel
theorem q_184_46 : js_I 184 46 = some (.ifCond .ne 10, 3) := by decide +kernel
theorem q_184_49 : js_I 184 49 = some (.aload_n 3, 1) := by decide +kernel
theorem q_184_50 : js_I 184 50 = some (.getfield 203, 3) := by decide +kernel
theorem q_184_53 : js_I 184 53 = some (.goto 7, 3) := by decide +kernel
theorem q_184_60 : js_I 184 60 = some (.lreturn, 1) := by decide +kernel
theorem q_184_56 : js_I 184 56 = some (.aload_n 3, 1) := by decide +kernel
theorem q_184_57 : js_I 184 57 = some (.getfield 207, 3) := by decide +kernel
theorem q_184_61 : js_I 184 61 = some (.aload_n 0, 1) := by decide +kernel
theorem q_184_62 : js_I 184 62 = some (.getfield 46, 3) := by decide +kernel
theorem q_184_65 : js_I 184 65 = some (.getfield 185, 3) := by decide +kernel
theorem q_184_68 : js_I 184 68 = some (.getfield 210, 3) := by decide +kernel
theorem q_184_71 : js_I 184 71 = some (.iload_n 1, 1) := by decide +kernel
theorem q_184_72 : js_I 184 72 = some (.iconst 1, 1) := by decide +kernel
theorem q_184_73 : js_I 184 73 = some (.iadd, 1) := by decide +kernel
theorem q_184_74 : js_I 184 74 = some (.if_icmp .ne 7, 3) := by decide +kernel
theorem q_184_77 : js_I 184 77 = some (.iconst 1, 1) := by decide +kernel
theorem q_184_78 : js_I 184 78 = some (.goto 4, 3) := by decide +kernel
theorem q_184_81 : js_I 184 81 = some (.iconst 0, 1) := by decide +kernel
theorem q_184_82 : js_I 184 82 = some (.istore 4, 2) := by decide +kernel
theorem q_184_84 : js_I 184 84 = some (.iload_n 2, 1) := by decide +kernel
theorem q_184_85 : js_I 184 85 = some (.iconst 2, 1) := by decide +kernel
theorem q_184_86 : js_I 184 86 = some (.if_icmp .ne 20, 3) := by decide +kernel
theorem q_184_89 : js_I 184 89 = some (.iload 4, 2) := by decide +kernel
theorem q_184_91 : js_I 184 91 = some (.ifCond .eq 11, 3) := by decide +kernel
theorem q_184_102 : js_I 184 102 = some (.ldc2_w 216, 3) := by decide +kernel
theorem q_184_105 : js_I 184 105 = some (.lreturn, 1) := by decide +kernel
theorem q_184_94 : js_I 184 94 = some (.aload_n 3, 1) := by decide +kernel
theorem q_184_95 : js_I 184 95 = some (.getfield 213, 3) := by decide +kernel
theorem q_184_98 : js_I 184 98 = some (.i2l, 1) := by decide +kernel
theorem q_184_99 : js_I 184 99 = some (.goto 6, 3) := by decide +kernel
theorem q_184_106 : js_I 184 106 = some (.iload 4, 2) := by decide +kernel
theorem q_184_108 : js_I 184 108 = some (.ifCond .eq 11, 3) := by decide +kernel
theorem q_184_119 : js_I 184 119 = some (.lconst 0, 1) := by decide +kernel
theorem q_184_120 : js_I 184 120 = some (.lreturn, 1) := by decide +kernel
theorem q_184_111 : js_I 184 111 = some (.aload_n 3, 1) := by decide +kernel
theorem q_184_112 : js_I 184 112 = some (.getfield 218, 3) := by decide +kernel
theorem q_184_115 : js_I 184 115 = some (.i2l, 1) := by decide +kernel
theorem q_184_116 : js_I 184 116 = some (.goto 4, 3) := by decide +kernel
theorem q_299_0 : js_I 299 0 = some (.iconst 0, 1) := by decide +kernel
theorem q_299_1 : js_I 299 1 = some (.istore_n 1, 1) := by decide +kernel
theorem q_299_2 : js_I 299 2 = some (.aload_n 0, 1) := by decide +kernel
theorem q_299_3 : js_I 299 3 = some (.getfield 34, 3) := by decide +kernel
theorem q_299_6 : js_I 299 6 = some (.invokevirtual 58, 3) := by decide +kernel
theorem q_299_9 : js_I 299 9 = some (.goto 12, 3) := by decide +kernel
theorem q_299_21 : js_I 299 21 = some (.aload_n 0, 1) := by decide +kernel
theorem q_299_22 : js_I 299 22 = some (.getfield 24, 3) := by decide +kernel
theorem q_299_25 : js_I 299 25 = some (.invokevirtual 67, 3) := by decide +kernel
theorem q_299_28 : js_I 299 28 = some (.iload_n 1, 1) := by decide +kernel
theorem q_299_29 : js_I 299 29 = some (.ifCond .ne 32, 3) := by decide +kernel
theorem q_299_32 : js_I 299 32 = some (.aload_n 0, 1) := by decide +kernel
theorem q_299_33 : js_I 299 33 = some (.getfield 34, 3) := by decide +kernel
theorem q_299_36 : js_I 299 36 = some (.astore_n 2, 1) := by decide +kernel
theorem q_299_37 : js_I 299 37 = some (.aload_n 0, 1) := by decide +kernel
theorem q_299_38 : js_I 299 38 = some (.aload_n 0, 1) := by decide +kernel
theorem q_299_39 : js_I 299 39 = some (.getfield 30, 3) := by decide +kernel
theorem q_299_42 : js_I 299 42 = some (.putfield 34, 3) := by decide +kernel
theorem q_299_45 : js_I 299 45 = some (.aload_n 0, 1) := by decide +kernel
theorem q_299_46 : js_I 299 46 = some (.aload_n 2, 1) := by decide +kernel
theorem q_299_47 : js_I 299 47 = some (.putfield 30, 3) := by decide +kernel
theorem q_299_50 : js_I 299 50 = some (.aload_n 0, 1) := by decide +kernel
theorem q_299_51 : js_I 299 51 = some (.getfield 46, 3) := by decide +kernel
theorem q_299_54 : js_I 299 54 = some (.aload_n 2, 1) := by decide +kernel
theorem q_299_55 : js_I 299 55 = some (.getfield 39, 3) := by decide +kernel
theorem q_299_58 : js_I 299 58 = some (.invokevirtual 70, 3) := by decide +kernel
theorem q_299_61 : js_I 299 61 = some (.iload_n 1, 1) := by decide +kernel
theorem q_299_62 : js_I 299 62 = some (.ireturn, 1) := by decide +kernel
theorem q_300_0 : js_I 300 0 = some (.aload_n 3, 1) := by decide +kernel
theorem q_300_1 : js_I 300 1 = some (.iconst 0, 1) := by decide +kernel
theorem q_300_2 : js_I 300 2 = some (.aload_n 0, 1) := by decide +kernel
theorem q_300_3 : js_I 300 3 = some (.iload_n 1, 1) := by decide +kernel
theorem q_300_4 : js_I 300 4 = some (.iload_n 2, 1) := by decide +kernel
theorem q_300_5 : js_I 300 5 = some (.invokevirtual 7, 3) := by decide +kernel
theorem q_300_8 : js_I 300 8 = some (.lastore, 1) := by decide +kernel
theorem q_300_9 : js_I 300 9 = some (.goto 7, 3) := by decide +kernel
theorem q_300_16 : js_I 300 16 = some (.iconst 0, 1) := by decide +kernel
theorem q_300_17 : js_I 300 17 = some (.ireturn, 1) := by decide +kernel
theorem q_301_0 : js_I 301 0 = some (.aload_n 2, 1) := by decide +kernel
theorem q_301_1 : js_I 301 1 = some (.iconst 0, 1) := by decide +kernel
theorem q_301_2 : js_I 301 2 = some (.aload_n 0, 1) := by decide +kernel
theorem q_301_3 : js_I 301 3 = some (.iload_n 1, 1) := by decide +kernel
theorem q_301_4 : js_I 301 4 = some (.invokevirtual 15, 3) := by decide +kernel
theorem q_301_7 : js_I 301 7 = some (.i2l, 1) := by decide +kernel
theorem q_301_8 : js_I 301 8 = some (.lastore, 1) := by decide +kernel
theorem q_301_9 : js_I 301 9 = some (.goto 9, 3) := by decide +kernel
theorem q_301_18 : js_I 301 18 = some (.iconst 0, 1) := by decide +kernel
theorem q_301_19 : js_I 301 19 = some (.ireturn, 1) := by decide +kernel
theorem q_302_0 : js_I 302 0 = some (.aload_n 1, 1) := by decide +kernel
theorem q_302_1 : js_I 302 1 = some (.iconst 0, 1) := by decide +kernel
theorem q_302_2 : js_I 302 2 = some (.aload_n 0, 1) := by decide +kernel
theorem q_302_3 : js_I 302 3 = some (.invokevirtual 23, 3) := by decide +kernel
theorem q_302_6 : js_I 302 6 = some (.i2l, 1) := by decide +kernel
theorem q_302_7 : js_I 302 7 = some (.lastore, 1) := by decide +kernel
theorem q_302_8 : js_I 302 8 = some (.goto 6, 3) := by decide +kernel
theorem q_302_14 : js_I 302 14 = some (.iconst 0, 1) := by decide +kernel
theorem q_302_15 : js_I 302 15 = some (.ireturn, 1) := by decide +kernel
theorem q_303_0 : js_I 303 0 = some (.aload_n 2, 1) := by decide +kernel
theorem q_303_1 : js_I 303 1 = some (.iconst 0, 1) := by decide +kernel
theorem q_303_2 : js_I 303 2 = some (.aload_n 0, 1) := by decide +kernel
theorem q_303_3 : js_I 303 3 = some (.iload_n 1, 1) := by decide +kernel
theorem q_303_4 : js_I 303 4 = some (.invokevirtual 27, 3) := by decide +kernel
theorem q_303_7 : js_I 303 7 = some (.i2l, 1) := by decide +kernel
theorem q_303_8 : js_I 303 8 = some (.lastore, 1) := by decide +kernel
theorem q_303_9 : js_I 303 9 = some (.goto 6, 3) := by decide +kernel
theorem q_303_15 : js_I 303 15 = some (.iconst 0, 1) := by decide +kernel
theorem q_303_16 : js_I 303 16 = some (.ireturn, 1) := by decide +kernel
theorem q_304_0 : js_I 304 0 = some (.aload_n 3, 1) := by decide +kernel
theorem q_304_1 : js_I 304 1 = some (.iconst 0, 1) := by decide +kernel
theorem q_304_2 : js_I 304 2 = some (.aload_n 0, 1) := by decide +kernel
theorem q_304_3 : js_I 304 3 = some (.iload_n 1, 1) := by decide +kernel
theorem q_304_4 : js_I 304 4 = some (.iload_n 2, 1) := by decide +kernel
theorem q_304_5 : js_I 304 5 = some (.invokevirtual 30, 3) := by decide +kernel
theorem q_304_8 : js_I 304 8 = some (.i2l, 1) := by decide +kernel
theorem q_304_9 : js_I 304 9 = some (.lastore, 1) := by decide +kernel
theorem q_304_10 : js_I 304 10 = some (.goto 7, 3) := by decide +kernel
theorem q_304_17 : js_I 304 17 = some (.iconst 0, 1) := by decide +kernel
theorem q_304_18 : js_I 304 18 = some (.ireturn, 1) := by decide +kernel
theorem q_305_0 : js_I 305 0 = some (.aload_n 3, 1) := by decide +kernel
theorem q_305_1 : js_I 305 1 = some (.iconst 0, 1) := by decide +kernel
theorem q_305_2 : js_I 305 2 = some (.aload_n 0, 1) := by decide +kernel
theorem q_305_3 : js_I 305 3 = some (.iload_n 1, 1) := by decide +kernel
theorem q_305_4 : js_I 305 4 = some (.iload_n 2, 1) := by decide +kernel
theorem q_305_5 : js_I 305 5 = some (.invokevirtual 34, 3) := by decide +kernel
theorem q_305_8 : js_I 305 8 = some (.lastore, 1) := by decide +kernel
theorem q_305_9 : js_I 305 9 = some (.goto 7, 3) := by decide +kernel
theorem q_305_16 : js_I 305 16 = some (.iconst 0, 1) := by decide +kernel
theorem q_305_17 : js_I 305 17 = some (.ireturn, 1) := by decide +kernel
theorem q_306_0 : js_I 306 0 = some (.aload_n 3, 1) := by decide +kernel
theorem q_306_1 : js_I 306 1 = some (.iconst 0, 1) := by decide +kernel
theorem q_306_2 : js_I 306 2 = some (.aload_n 0, 1) := by decide +kernel
theorem q_306_3 : js_I 306 3 = some (.iload_n 1, 1) := by decide +kernel
theorem q_306_4 : js_I 306 4 = some (.iload_n 2, 1) := by decide +kernel
theorem q_306_5 : js_I 306 5 = some (.invokevirtual 37, 3) := by decide +kernel
theorem q_306_8 : js_I 306 8 = some (.lastore, 1) := by decide +kernel
theorem q_306_9 : js_I 306 9 = some (.goto 7, 3) := by decide +kernel
theorem q_306_16 : js_I 306 16 = some (.iconst 0, 1) := by decide +kernel
theorem q_306_17 : js_I 306 17 = some (.ireturn, 1) := by decide +kernel
theorem q_307_0 : js_I 307 0 = some (.iload_n 1, 1) := by decide +kernel
theorem q_307_1 : js_I 307 1 = some (.aload_n 0, 1) := by decide +kernel
theorem q_307_2 : js_I 307 2 = some (.arraylength, 1) := by decide +kernel
theorem q_307_3 : js_I 307 3 = some (.if_icmp .ge 9, 3) := by decide +kernel
theorem q_307_6 : js_I 307 6 = some (.aload_n 0, 1) := by decide +kernel
theorem q_307_7 : js_I 307 7 = some (.iload_n 1, 1) := by decide +kernel
theorem q_307_8 : js_I 307 8 = some (.iaload, 1) := by decide +kernel
theorem q_307_9 : js_I 307 9 = some (.goto 4, 3) := by decide +kernel
theorem q_307_13 : js_I 307 13 = some (.ireturn, 1) := by decide +kernel
theorem q_307_12 : js_I 307 12 = some (.iconst 0, 1) := by decide +kernel
theorem q_308_0 : js_I 308 0 = some (.iload_n 0, 1) := by decide +kernel
theorem q_308_1 : js_I 308 1 = some (.iload_n 1, 1) := by decide +kernel
theorem q_308_2 : js_I 308 2 = some (.irem, 1) := by decide +kernel
theorem q_308_3 : js_I 308 3 = some (.istore_n 2, 1) := by decide +kernel
theorem q_308_4 : js_I 308 4 = some (.iload_n 0, 1) := by decide +kernel
theorem q_308_5 : js_I 308 5 = some (.iload_n 1, 1) := by decide +kernel
theorem q_308_6 : js_I 308 6 = some (.ixor, 1) := by decide +kernel
theorem q_308_7 : js_I 308 7 = some (.ifCond .ge 11, 3) := by decide +kernel
theorem q_308_10 : js_I 308 10 = some (.iload_n 2, 1) := by decide +kernel
theorem q_308_11 : js_I 308 11 = some (.ifCond .eq 7, 3) := by decide +kernel
theorem q_308_18 : js_I 308 18 = some (.iload_n 2, 1) := by decide +kernel
theorem q_308_19 : js_I 308 19 = some (.ireturn, 1) := by decide +kernel
theorem q_308_14 : js_I 308 14 = some (.iload_n 2, 1) := by decide +kernel
theorem q_308_15 : js_I 308 15 = some (.iload_n 1, 1) := by decide +kernel
theorem q_308_16 : js_I 308 16 = some (.iadd, 1) := by decide +kernel
theorem q_308_17 : js_I 308 17 = some (.ireturn, 1) := by decide +kernel
theorem qf_6_36 : ip_lk (vt_FL.getD 6 []) 36 = some (6, 6) := by decide +kernel
theorem qf_6_147 : ip_lk (vt_FL.getD 6 []) 147 = some (7, 6) := by decide +kernel
theorem qf_0_152 : ip_lk (vt_FL.getD 0 []) 152 = some (6, 3) := by decide +kernel
theorem qf_0_156 : ip_lk (vt_FL.getD 0 []) 156 = some (7, 6) := by decide +kernel
theorem qf_0_185 : ip_lk (vt_FL.getD 0 []) 185 = some (6, 0) := by decide +kernel
theorem qf_0_203 : ip_lk (vt_FL.getD 0 []) 203 = some (3, 0) := by decide +kernel
theorem qf_0_207 : ip_lk (vt_FL.getD 0 []) 207 = some (3, 1) := by decide +kernel
theorem qf_0_210 : ip_lk (vt_FL.getD 0 []) 210 = some (9, 0) := by decide +kernel
theorem qf_0_213 : ip_lk (vt_FL.getD 0 []) 213 = some (3, 2) := by decide +kernel
theorem qf_0_218 : ip_lk (vt_FL.getD 0 []) 218 = some (3, 3) := by decide +kernel
theorem qf_0_34 : ip_lk (vt_FL.getD 0 []) 34 = some (0, 5) := by decide +kernel
theorem qm_6_120 : ip_lk (vt_ML.getD 6 []) 120 = some (175, 0, 1, 6) := by decide +kernel
theorem qm_6_127 : ip_lk (vt_ML.getD 6 []) 127 = some (176, 0, 1, 6) := by decide +kernel
theorem qm_0_161 : ip_lk (vt_ML.getD 0 []) 161 = some (179, 1, 1, 6) := by decide +kernel
theorem qm_6_158 : ip_lk (vt_ML.getD 6 []) 158 = some (180, 2, 1, 6) := by decide +kernel
theorem qm_6_161 : ip_lk (vt_ML.getD 6 []) 161 = some (308, 2, 0, 0) := by decide +kernel
theorem qm_0_164 : ip_lk (vt_ML.getD 0 []) 164 = some (182, 1, 1, 6) := by decide +kernel
theorem qm_0_169 : ip_lk (vt_ML.getD 0 []) 169 = some (180, 2, 1, 6) := by decide +kernel
theorem qm_0_189 : ip_lk (vt_ML.getD 0 []) 189 = some (146, 1, 1, 9) := by decide +kernel
theorem qm_0_195 : ip_lk (vt_ML.getD 0 []) 195 = some (148, 1, 1, 3) := by decide +kernel
theorem qm_0_58 : ip_lk (vt_ML.getD 0 []) 58 = some (16, 0, 1, 4) := by decide +kernel
theorem qm_0_67 : ip_lk (vt_ML.getD 0 []) 67 = some (115, 0, 1, 8) := by decide +kernel
theorem qm_0_70 : ip_lk (vt_ML.getD 0 []) 70 = some (116, 1, 1, 6) := by decide +kernel
theorem qm_19_7 : ip_lk (vt_ML.getD 19 []) 7 = some (172, 2, 1, 0) := by decide +kernel
theorem qm_19_15 : ip_lk (vt_ML.getD 19 []) 15 = some (173, 1, 1, 0) := by decide +kernel
theorem qm_19_23 : ip_lk (vt_ML.getD 19 []) 23 = some (177, 0, 1, 0) := by decide +kernel
theorem qm_19_27 : ip_lk (vt_ML.getD 19 []) 27 = some (178, 1, 1, 0) := by decide +kernel
theorem qm_19_30 : ip_lk (vt_ML.getD 19 []) 30 = some (181, 2, 1, 0) := by decide +kernel
theorem qm_19_34 : ip_lk (vt_ML.getD 19 []) 34 = some (183, 2, 1, 0) := by decide +kernel
theorem qm_19_37 : ip_lk (vt_ML.getD 19 []) 37 = some (184, 2, 1, 0) := by decide +kernel
theorem qc_0_151 : ip_lk (vt_CL.getD 0 []) 151 = some (js_V (0, 1000000)) := by decide +kernel
theorem qc_0_216 : ip_lk (vt_CL.getD 0 []) 216 = some (js_V (1, (-1))) := by decide +kernel
-- 174: VitalTwin$Machine.go (I)I
theorem b_174_0 {E : js_E} {d : Nat} {σ : js_S} {x1 : Int} : js_J E d 174 0 [(2, 56), (0, x1), (9, 0)] [] σ = (if js_w (σ 56 3) = 0 then (if js_w (σ 58 0) = 0 then js_J E d 174 24 [(2, 56), (0, x1), (9, 0)] [(2, 58), (2, 56)] σ else js_J E d 174 27 [(2, 56), (0, x1), (9, 0)] [] σ) else js_r E (0, 0) σ) :=
  (j_aload_n q_174_0 rfl).trans <| (j_get (ji := 3) (v := (0, σ 56 3)) q_174_1 (js_Fo qy_174 qf_6_90) js_o56 rfl rfl rfl rfl).trans <| (j_ifeq (t := 9) q_174_4 rfl).trans (js_ite ((j_aload_n q_174_9 rfl).trans <| (j_get (ji := 0) (v := (2, 58)) q_174_10 (js_Fo qy_174 qf_6_20) js_o56 rfl rfl rfl rfl).trans <| (j_get (ji := 0) (v := (0, σ 58 0)) q_174_13 (js_Fo qy_174 qf_6_110) js_o58 rfl rfl rfl rfl).trans <| (j_ifne (t := 27) q_174_16 rfl).trans (js_ite ((j_aload_n q_174_19 rfl).trans <| (j_aload_n q_174_20 rfl).trans <| (j_get (ji := 0) (v := (2, 58)) q_174_21 (js_Fo qy_174 qf_6_20) js_o56 rfl rfl rfl rfl).trans <| rfl) (rfl))) ((j_iconst q_174_7).trans <| j_ireturn q_174_8 qr_174))
theorem k_174_24 {E : js_E} {d : Nat} {σ σ2 : js_S} {x1 : Int} (hd : 1 ≤ d) (hz : js_J E (d - 1) 142 0 [(2, 56), (2, 58), (9, 0), (9, 0), (9, 0)] [] σ = js_r0 E σ2) : js_J E d 174 24 [(2, 56), (0, x1), (9, 0)] [(2, 58), (2, 56)] σ = js_J E d 174 27 [(2, 56), (0, x1), (9, 0)] [] σ2 :=
  j_call0 (m := 3) (js_caV q_174_24 (js_Mo qy_174 qm_6_116)) (js_agV (av := [(2, 58)]) (st := []) rfl rfl js_o56 rfl) rfl rfl (by rw [ql_142]; exact Nat.le_of_ble_eq_true rfl) (Nat.le_of_ble_eq_true rfl) hd hz
theorem kt_174_24 {E : js_E} {d : Nat} {σ σ2 : js_S} {x1 : Int} {w : Int} (hd : 1 ≤ d) (hz : js_J E (d - 1) 142 0 [(2, 56), (2, 58), (9, 0), (9, 0), (9, 0)] [] σ = js_t E w σ2) : js_J E d 174 24 [(2, 56), (0, x1), (9, 0)] [(2, 58), (2, 56)] σ = js_t E w σ2 :=
  j_callT (m := 3) (js_caV q_174_24 (js_Mo qy_174 qm_6_116)) (js_agV (av := [(2, 58)]) (st := []) rfl rfl js_o56 rfl) rfl rfl (by rw [ql_142]; exact Nat.le_of_ble_eq_true rfl) (Nat.le_of_ble_eq_true rfl) hd rfl hz
theorem b_174_27 {E : js_E} {d : Nat} {σ : js_S} {x1 : Int} : js_J E d 174 27 [(2, 56), (0, x1), (9, 0)] [] σ = js_J E d 174 29 [(2, 56), (0, x1), (0, 0)] [] σ :=
  (j_iconst q_174_27).trans <| (j_istore_n (l2 := [(2, 56), (0, x1), (0, 0)]) q_174_28 rfl (Nat.le_of_ble_eq_true rfl)).trans <| rfl
theorem b_174_29 {E : js_E} {d : Nat} {σ : js_S} {x1 x2 : Int} : js_J E d 174 29 [(2, 56), (0, x1), (0, x2)] [] σ = (if js_w x2 < js_w x1 then (if js_w (σ 58 0) = 0 then js_J E d 174 65 [(2, 56), (0, x1), (0, x2)] [] σ else js_J E d 174 45 [(2, 56), (0, x1), (0, x2)] [(2, 56)] σ) else js_J E d 174 65 [(2, 56), (0, x1), (0, x2)] [] σ) :=
  (j_iload_n q_174_29 rfl).trans <| (j_iload_n q_174_30 rfl).trans <| (j_cmpge (t := 65) q_174_31 rfl).trans (js_ite ((j_aload_n q_174_34 rfl).trans <| (j_get (ji := 0) (v := (2, 58)) q_174_35 (js_Fo qy_174 qf_6_20) js_o56 rfl rfl rfl rfl).trans <| (j_get (ji := 0) (v := (0, σ 58 0)) q_174_38 (js_Fo qy_174 qf_6_110) js_o58 rfl rfl rfl rfl).trans <| (j_ifeq (t := 65) q_174_41 rfl).trans (js_ite (rfl) ((j_aload_n q_174_44 rfl).trans <| rfl))) (rfl))
theorem k_174_45 {E : js_E} {d : Nat} {σ σ2 : js_S} {x1 x2 : Int} (hd : 1 ≤ d) (hz : js_J E (d - 1) 175 0 [(2, 56), (9, 0)] [] σ = js_r0 E σ2) : js_J E d 174 45 [(2, 56), (0, x1), (0, x2)] [(2, 56)] σ = js_J E d 174 48 [(2, 56), (0, x1), (0, x2)] [] σ2 :=
  j_call0 (m := 1) (js_caV q_174_45 (js_Mo qy_174 qm_6_120)) (js_agV (av := []) (st := []) rfl rfl js_o56 rfl) rfl rfl (by rw [ql_175]; exact Nat.le_of_ble_eq_true rfl) (Nat.le_of_ble_eq_true rfl) hd hz
theorem kt_174_45 {E : js_E} {d : Nat} {σ σ2 : js_S} {x1 x2 : Int} {w : Int} (hd : 1 ≤ d) (hz : js_J E (d - 1) 175 0 [(2, 56), (9, 0)] [] σ = js_t E w σ2) : js_J E d 174 45 [(2, 56), (0, x1), (0, x2)] [(2, 56)] σ = js_t E w σ2 :=
  j_callT (m := 1) (js_caV q_174_45 (js_Mo qy_174 qm_6_120)) (js_agV (av := []) (st := []) rfl rfl js_o56 rfl) rfl rfl (by rw [ql_175]; exact Nat.le_of_ble_eq_true rfl) (Nat.le_of_ble_eq_true rfl) hd rfl hz
theorem b_174_48 {E : js_E} {d : Nat} {σ : js_S} {x1 x2 b : Int} (hb : b = 0 ∨ b = 25) (hp : σ 56 1 = 7 + b) : js_J E d 174 48 [(2, 56), (0, x1), (0, x2)] [] σ = js_J E d 174 56 [(2, 56), (0, x1), (0, x2)] [(2, 7 + b), (2, 58)] σ :=
  (j_aload_n q_174_48 rfl).trans <| (j_get (ji := 0) (v := (2, 58)) q_174_49 (js_Fo qy_174 qf_6_20) js_o56 rfl rfl rfl rfl).trans <| (j_aload_n q_174_52 rfl).trans <| (j_get (ji := 1) (v := (2, 7 + b)) q_174_53 (js_Fo qy_174 qf_6_39) js_o56 rfl rfl rfl (congrArg (Prod.mk 2) hp)).trans <| rfl
theorem k_174_56 {E : js_E} {d : Nat} {σ σ2 : js_S} {x1 x2 b : Int} (hd : 1 ≤ d) (hz : js_J E (d - 1) 145 0 [(2, 58), (2, 7 + b), (9, 0)] [] σ = js_r0 E σ2) : js_J E d 174 56 [(2, 56), (0, x1), (0, x2)] [(2, 7 + b), (2, 58)] σ = js_J E d 174 59 [(2, 56), (0, x1), (0, x2)] [] σ2 :=
  j_call0 (m := 1) (js_caV q_174_56 (js_Mo qy_174 qm_6_123)) (js_agV (av := [(2, 7 + b)]) (st := []) rfl rfl js_o58 rfl) rfl rfl (by rw [ql_145]; exact Nat.le_of_ble_eq_true rfl) (Nat.le_of_ble_eq_true rfl) hd hz
theorem kt_174_56 {E : js_E} {d : Nat} {σ σ2 : js_S} {x1 x2 b : Int} {w : Int} (hd : 1 ≤ d) (hz : js_J E (d - 1) 145 0 [(2, 58), (2, 7 + b), (9, 0)] [] σ = js_t E w σ2) : js_J E d 174 56 [(2, 56), (0, x1), (0, x2)] [(2, 7 + b), (2, 58)] σ = js_t E w σ2 :=
  j_callT (m := 1) (js_caV q_174_56 (js_Mo qy_174 qm_6_123)) (js_agV (av := [(2, 7 + b)]) (st := []) rfl rfl js_o58 rfl) rfl rfl (by rw [ql_145]; exact Nat.le_of_ble_eq_true rfl) (Nat.le_of_ble_eq_true rfl) hd rfl hz
theorem b_174_59 {E : js_E} {d : Nat} {σ : js_S} {x1 x2 : Int} : js_J E d 174 59 [(2, 56), (0, x1), (0, x2)] [] σ = js_J E d 174 29 [(2, 56), (0, x1), (0, x2 + 1)] [] σ :=
  (j_iinc (l2 := [(2, 56), (0, x1), (0, x2 + 1)]) q_174_59 rfl rfl).trans <| (j_goto (t := 29) q_174_62 rfl).trans <| rfl
theorem b_174_65 {E : js_E} {d : Nat} {σ : js_S} {x1 x2 : Int} : js_J E d 174 65 [(2, 56), (0, x1), (0, x2)] [] σ = (if js_w (σ 58 0) = 0 then js_J E d 174 76 [(2, 56), (0, x1), (0, x2)] [(2, 56)] σ else js_J E d 174 79 [(2, 56), (0, x1), (0, x2)] [] σ) :=
  (j_aload_n q_174_65 rfl).trans <| (j_get (ji := 0) (v := (2, 58)) q_174_66 (js_Fo qy_174 qf_6_20) js_o56 rfl rfl rfl rfl).trans <| (j_get (ji := 0) (v := (0, σ 58 0)) q_174_69 (js_Fo qy_174 qf_6_110) js_o58 rfl rfl rfl rfl).trans <| (j_ifne (t := 79) q_174_72 rfl).trans (js_ite ((j_aload_n q_174_75 rfl).trans <| rfl) (rfl))
theorem k_174_76 {E : js_E} {d : Nat} {σ σ2 : js_S} {x1 x2 : Int} (hd : 1 ≤ d) (hz : js_J E (d - 1) 176 0 [(2, 56)] [] σ = js_r0 E σ2) : js_J E d 174 76 [(2, 56), (0, x1), (0, x2)] [(2, 56)] σ = js_J E d 174 79 [(2, 56), (0, x1), (0, x2)] [] σ2 :=
  j_call0 (m := 0) (js_caV q_174_76 (js_Mo qy_174 qm_6_127)) (js_agV (av := []) (st := []) rfl rfl js_o56 rfl) rfl rfl (by rw [ql_176]; exact Nat.le_of_ble_eq_true rfl) (Nat.le_of_ble_eq_true rfl) hd hz
theorem kt_174_76 {E : js_E} {d : Nat} {σ σ2 : js_S} {x1 x2 : Int} {w : Int} (hd : 1 ≤ d) (hz : js_J E (d - 1) 176 0 [(2, 56)] [] σ = js_t E w σ2) : js_J E d 174 76 [(2, 56), (0, x1), (0, x2)] [(2, 56)] σ = js_t E w σ2 :=
  j_callT (m := 0) (js_caV q_174_76 (js_Mo qy_174 qm_6_127)) (js_agV (av := []) (st := []) rfl rfl js_o56 rfl) rfl rfl (by rw [ql_176]; exact Nat.le_of_ble_eq_true rfl) (Nat.le_of_ble_eq_true rfl) hd rfl hz
theorem b_174_79 {E : js_E} {d : Nat} {σ : js_S} {x1 x2 : Int} : js_J E d 174 79 [(2, 56), (0, x1), (0, x2)] [] σ = js_r E (0, x2) σ :=
  (j_iload_n q_174_79 rfl).trans <| j_ireturn q_174_80 qr_174
-- 175: VitalTwin$Machine.turnPlanned ()V
theorem b_175_0 {E : js_E} {d : Nat} {σ : js_S} : js_J E d 175 0 [(2, 56), (9, 0)] [] σ = js_J E d 175 2 [(2, 56), (0, 0)] [] σ :=
  (j_iconst q_175_0).trans <| (j_istore_n (l2 := [(2, 56), (0, 0)]) q_175_1 rfl (Nat.le_of_ble_eq_true rfl)).trans <| rfl
theorem b_175_2 {E : js_E} {d : Nat} {σ : js_S} {x1 : Int} : js_J E d 175 2 [(2, 56), (0, x1)] [] σ = (if js_w x1 < js_w (σ 56 8) then (if js_w x1 < 8 then (if 0 ≤ js_w ((4 * x1) + 3) ∧ js_w ((4 * x1) + 3) < 32 then (if js_w (σ 57 (js_w ((4 * x1) + 3))) = js_w (σ 58 1) then (if 0 ≤ js_w (4 * x1) ∧ js_w (4 * x1) < 32 then js_J E d 175 48 [(2, 56), (0, x1)] [(0, σ 57 (js_w (4 * x1))), (2, 58)] σ else none) else js_J E d 175 84 [(2, 56), (0, x1)] [] σ) else none) else js_r0 E σ) else js_r0 E σ) :=
  (j_iload_n q_175_2 rfl).trans <| (j_aload_n q_175_3 rfl).trans <| (j_get (ji := 8) (v := (0, σ 56 8)) q_175_4 (js_Fo qy_175 qf_6_96) js_o56 rfl rfl rfl rfl).trans <| (j_cmpge (t := 90) q_175_7 rfl).trans (js_ite ((j_iload_n q_175_10 rfl).trans <| (j_bi q_175_11 rfl).trans <| (j_cmpgeB (t := 90) q_175_13 rfl ww_8).trans (js_ite ((j_aload_n q_175_16 rfl).trans <| (j_get (ji := 7) (v := (2, 57)) q_175_17 (js_Fo qy_175 qf_6_9) js_o56 rfl rfl rfl rfl).trans <| (j_iconst q_175_20).trans <| (j_iload_n q_175_21 rfl).trans <| (j_imul q_175_22).trans <| (j_iconst q_175_23).trans <| (j_iadd q_175_24).trans <| (j_iaload q_175_25 js_o57).trans <| js_itp fun g0 => (j_aload_n q_175_26 rfl).trans <| (j_get (ji := 0) (v := (2, 58)) q_175_27 (js_Fo qy_175 qf_6_20) js_o56 rfl rfl rfl rfl).trans <| (j_get (ji := 1) (v := (0, σ 58 1)) q_175_30 (js_Fo qy_175 qf_6_113) js_o58 rfl rfl rfl rfl).trans <| (j_cmpne (t := 84) q_175_33 rfl).trans (js_ite ((j_aload_n q_175_36 rfl).trans <| (j_get (ji := 0) (v := (2, 58)) q_175_37 (js_Fo qy_175 qf_6_20) js_o56 rfl rfl rfl rfl).trans <| (j_aload_n q_175_40 rfl).trans <| (j_get (ji := 7) (v := (2, 57)) q_175_41 (js_Fo qy_175 qf_6_9) js_o56 rfl rfl rfl rfl).trans <| (j_iconst q_175_44).trans <| (j_iload_n q_175_45 rfl).trans <| (j_imul q_175_46).trans <| (j_iaload q_175_47 js_o57).trans <| js_itp fun g1 => rfl) (rfl))) (j_return q_175_90 qr_175))) (j_return q_175_90 qr_175))
theorem k_175_48 {E : js_E} {d : Nat} {σ σ2 : js_S} {x1 z1 : Int} {v : Int} (hd : 1 ≤ d) (hz : js_J E (d - 1) 146 0 [(2, 58), (0, z1)] [] σ = js_r E (2, v) σ2) : js_J E d 175 48 [(2, 56), (0, x1)] [(0, z1), (2, 58)] σ = js_J E d 175 51 [(2, 56), (0, x1)] [(2, v)] σ2 :=
  j_call (m := 0) (js_caV q_175_48 (js_Mo qy_175 qm_6_135)) (js_agV (av := [(0, z1)]) (st := []) rfl rfl js_o58 rfl) rfl rfl (by rw [ql_146]; exact Nat.le_of_ble_eq_true rfl) (Nat.le_of_ble_eq_true rfl) hd hz
theorem kt_175_48 {E : js_E} {d : Nat} {σ σ2 : js_S} {x1 z1 : Int} {w : Int} (hd : 1 ≤ d) (hz : js_J E (d - 1) 146 0 [(2, 58), (0, z1)] [] σ = js_t E w σ2) : js_J E d 175 48 [(2, 56), (0, x1)] [(0, z1), (2, 58)] σ = js_t E w σ2 :=
  j_callT (m := 0) (js_caV q_175_48 (js_Mo qy_175 qm_6_135)) (js_agV (av := [(0, z1)]) (st := []) rfl rfl js_o58 rfl) rfl rfl (by rw [ql_146]; exact Nat.le_of_ble_eq_true rfl) (Nat.le_of_ble_eq_true rfl) hd rfl hz
theorem b_175_51 {E : js_E} {d : Nat} {σ : js_S} {x1 z0 : Int} : js_J E d 175 51 [(2, 56), (0, x1)] [(2, z0)] σ = (if 0 ≤ js_w ((4 * x1) + 1) ∧ js_w ((4 * x1) + 1) < 32 then (if 0 ≤ js_w ((4 * x1) + 2) ∧ js_w ((4 * x1) + 2) < 32 then js_J E d 175 71 [(2, 56), (0, x1)] [(0, σ 57 (js_w ((4 * x1) + 2))), (0, σ 57 (js_w ((4 * x1) + 1))), (2, z0)] σ else none) else none) :=
  (j_aload_n q_175_51 rfl).trans <| (j_get (ji := 7) (v := (2, 57)) q_175_52 (js_Fo qy_175 qf_6_9) js_o56 rfl rfl rfl rfl).trans <| (j_iconst q_175_55).trans <| (j_iload_n q_175_56 rfl).trans <| (j_imul q_175_57).trans <| (j_iconst q_175_58).trans <| (j_iadd q_175_59).trans <| (j_iaload q_175_60 js_o57).trans <| js_itp fun g0 => (j_aload_n q_175_61 rfl).trans <| (j_get (ji := 7) (v := (2, 57)) q_175_62 (js_Fo qy_175 qf_6_9) js_o56 rfl rfl rfl rfl).trans <| (j_iconst q_175_65).trans <| (j_iload_n q_175_66 rfl).trans <| (j_imul q_175_67).trans <| (j_iconst q_175_68).trans <| (j_iadd q_175_69).trans <| (j_iaload q_175_70 js_o57).trans <| js_itp fun g1 => rfl
theorem k_175_71 {E : js_E} {d : Nat} {σ σ2 : js_S} {x1 z0 z1 z2 oz0 : Int} (hC_z0 : js_isC E.1 z0 oz0) (hd : 1 ≤ d) (hz : js_J E (d - 1) 164 0 [(2, z0), (0, z1), (0, z2), (9, 0), (9, 0)] [] σ = js_r0 E σ2) : js_J E d 175 71 [(2, 56), (0, x1)] [(0, z2), (0, z1), (2, z0)] σ = js_J E d 175 74 [(2, 56), (0, x1)] [] σ2 :=
  j_call0 (m := 2) (js_caV q_175_71 (js_Mo qy_175 qm_6_139)) (js_agV (av := [(0, z1), (0, z2)]) (st := []) rfl rfl (hC_z0 _).1 rfl) rfl rfl (by rw [ql_164]; exact Nat.le_of_ble_eq_true rfl) (Nat.le_of_ble_eq_true rfl) hd hz
theorem kt_175_71 {E : js_E} {d : Nat} {σ σ2 : js_S} {x1 z0 z1 z2 oz0 : Int} (hC_z0 : js_isC E.1 z0 oz0) {w : Int} (hd : 1 ≤ d) (hz : js_J E (d - 1) 164 0 [(2, z0), (0, z1), (0, z2), (9, 0), (9, 0)] [] σ = js_t E w σ2) : js_J E d 175 71 [(2, 56), (0, x1)] [(0, z2), (0, z1), (2, z0)] σ = js_t E w σ2 :=
  j_callT (m := 2) (js_caV q_175_71 (js_Mo qy_175 qm_6_139)) (js_agV (av := [(0, z1), (0, z2)]) (st := []) rfl rfl (hC_z0 _).1 rfl) rfl rfl (by rw [ql_164]; exact Nat.le_of_ble_eq_true rfl) (Nat.le_of_ble_eq_true rfl) hd rfl hz
theorem b_175_74 {E : js_E} {d : Nat} {σ : js_S} {x1 : Int} : js_J E d 175 74 [(2, 56), (0, x1)] [] σ = js_J E d 175 84 [(2, 56), (0, x1)] [] (js_up σ 56 9 ((σ 56 9) + 1)) :=
  (j_aload_n q_175_74 rfl).trans <| (j_dupr q_175_75).trans <| (j_get (ji := 9) (v := (0, σ 56 9)) q_175_76 (js_Fo qy_175 qf_6_99) js_o56 rfl rfl rfl rfl).trans <| (j_iconst q_175_79).trans <| (j_iadd q_175_80).trans <| (j_putI (ji := 9) q_175_81 (js_Fo qy_175 qf_6_99) rfl js_o56 rfl rfl rfl).trans <| rfl
theorem b_175_84 {E : js_E} {d : Nat} {σ : js_S} {x1 : Int} : js_J E d 175 84 [(2, 56), (0, x1)] [] σ = js_J E d 175 2 [(2, 56), (0, x1 + 1)] [] σ :=
  (j_iinc (l2 := [(2, 56), (0, x1 + 1)]) q_175_84 rfl rfl).trans <| (j_goto (t := 2) q_175_87 rfl).trans <| rfl
-- 176: VitalTwin$Machine.endCycle ()V
theorem b_176_0 {E : js_E} {d : Nat} {σ : js_S} {b : Int} (hb : b = 0 ∨ b = 25) (hp : σ 56 1 = 7 + b) : js_J E d 176 0 [(2, 56)] [] σ = (if js_w (σ 58 2) = 4 then js_J E d 176 62 [(2, 56)] [(0, ((js_w ((σ 56 4) + 1)).tmod 16) * (σ (7 + b) 6)), (2, 81), (2, 58), (2, 56)] (js_up (js_up σ 56 8 0) 56 4 ((σ 56 4) + 1)) else js_r0 E (js_up (js_up σ 56 8 0) 56 3 (σ 58 2))) :=
  (j_aload_n q_176_0 rfl).trans <| (j_iconst q_176_1).trans <| (j_putI (ji := 8) q_176_2 (js_Fo qy_176 qf_6_96) rfl js_o56 rfl rfl rfl).trans <| (j_aload_n q_176_5 rfl).trans <| (j_get (ji := 0) (v := (2, 58)) q_176_6 (js_Fo qy_176 qf_6_20) js_o56 rfl rfl rfl rfl).trans <| (j_get (ji := 2) (v := (0, σ 58 2)) q_176_9 (js_Fo qy_176 qf_6_144) js_o58 rfl rfl rfl (congrArg (Prod.mk 0) ((js_up_na _ (by decide))))).trans <| (j_iconst q_176_12).trans <| (j_cmpeqB (t := 28) q_176_13 rfl ww_4).trans (js_ite ((j_aload_n q_176_28 rfl).trans <| (j_dupr q_176_29).trans <| (j_get (ji := 4) (v := (0, σ 56 4)) q_176_30 (js_Fo qy_176 qf_6_93) js_o56 rfl rfl rfl (congrArg (Prod.mk 0) ((js_up_ni _ (by decide))))).trans <| (j_iconst q_176_33).trans <| (j_iadd q_176_34).trans <| (j_putI (ji := 4) q_176_35 (js_Fo qy_176 qf_6_93) rfl js_o56 rfl rfl rfl).trans <| (j_aload_n q_176_38 rfl).trans <| (j_aload_n q_176_39 rfl).trans <| (j_get (ji := 0) (v := (2, 58)) q_176_40 (js_Fo qy_176 qf_6_20) js_o56 rfl rfl rfl rfl).trans <| (j_aload_n q_176_43 rfl).trans <| (j_get (ji := 6) (v := (2, 81)) q_176_44 (js_Fo qy_176 qf_6_36) js_o56 rfl rfl rfl rfl).trans <| (j_aload_n q_176_47 rfl).trans <| (j_get (ji := 4) (v := (0, (σ 56 4) + 1)) q_176_48 (js_Fo qy_176 qf_6_93) js_o56 rfl rfl rfl (congrArg (Prod.mk 0) ((js_up_same _ _ _ _)))).trans <| (j_bi q_176_51 rfl).trans <| (j_iremk q_176_53 ww_16 (by decide)).trans <| (j_aload_n q_176_54 rfl).trans <| (j_get (ji := 1) (v := (2, 7 + b)) q_176_55 (js_Fo qy_176 qf_6_39) js_o56 rfl rfl rfl (congrArg (Prod.mk 2) (Eq.trans ((js_up_ni _ (by decide)).trans <| (js_up_ni _ (by decide))) hp))).trans <| (j_get (ji := 6) (v := (0, σ (7 + b) 6)) q_176_58 (js_Fo qy_176 qf_6_147) (js_o7b hb) rfl rfl rfl (congrArg (Prod.mk 0) ((js_up_ne _ (by omega)).trans <| (js_up_ne _ (by omega))))).trans <| (j_imul q_176_61).trans <| rfl) ((j_aload_n q_176_16 rfl).trans <| (j_aload_n q_176_17 rfl).trans <| (j_get (ji := 0) (v := (2, 58)) q_176_18 (js_Fo qy_176 qf_6_20) js_o56 rfl rfl rfl rfl).trans <| (j_get (ji := 2) (v := (0, σ 58 2)) q_176_21 (js_Fo qy_176 qf_6_144) js_o58 rfl rfl rfl (congrArg (Prod.mk 0) ((js_up_na _ (by decide))))).trans <| (j_putI (ji := 3) q_176_24 (js_Fo qy_176 qf_6_90) rfl js_o56 rfl rfl rfl).trans <| j_return q_176_27 qr_176))
theorem k_176_62 {E : js_E} {d : Nat} {σ σ2 : js_S} {z3 : Int} (hd : 1 ≤ d) (hz : js_J E (d - 1) 163 0 [(2, 56), (2, 58), (2, 81), (0, z3), (9, 0), (9, 0), (9, 0), (9, 0)] [] σ = js_r0 E σ2) : js_J E d 176 62 [(2, 56)] [(0, z3), (2, 81), (2, 58), (2, 56)] σ = js_J E d 176 65 [(2, 56)] [] σ2 :=
  j_call0 (m := 4) (js_caV q_176_62 (js_Mo qy_176 qm_6_150)) (js_agV (av := [(2, 58), (2, 81), (0, z3)]) (st := []) rfl rfl js_o56 rfl) rfl rfl (by rw [ql_163]; exact Nat.le_of_ble_eq_true rfl) (Nat.le_of_ble_eq_true rfl) hd hz
theorem kt_176_62 {E : js_E} {d : Nat} {σ σ2 : js_S} {z3 : Int} {w : Int} (hd : 1 ≤ d) (hz : js_J E (d - 1) 163 0 [(2, 56), (2, 58), (2, 81), (0, z3), (9, 0), (9, 0), (9, 0), (9, 0)] [] σ = js_t E w σ2) : js_J E d 176 62 [(2, 56)] [(0, z3), (2, 81), (2, 58), (2, 56)] σ = js_t E w σ2 :=
  j_callT (m := 4) (js_caV q_176_62 (js_Mo qy_176 qm_6_150)) (js_agV (av := [(2, 58), (2, 81), (0, z3)]) (st := []) rfl rfl js_o56 rfl) rfl rfl (by rw [ql_163]; exact Nat.le_of_ble_eq_true rfl) (Nat.le_of_ble_eq_true rfl) hd rfl hz
theorem b_176_65 {E : js_E} {d : Nat} {σ : js_S} : js_J E d 176 65 [(2, 56)] [] σ = js_r0 E σ :=
  j_return q_176_65 qr_176
-- 177: VitalTwin.cycle ()I
theorem b_177_0 {E : js_E} {d : Nat} {σ : js_S} (hd : 6 ≤ d) (hn : 137 ≤ σ (-1) 0) (hn1 : 0 ≤ σ (-1) 1) : js_J E d 177 0 [(2, 0)] [] σ = (if js_w (σ 56 2) = 0 then js_t E (σ (-1) 0) (js_ne σ 16) else js_J E d 177 26 [(2, 0)] [(0, 1000000), (2, 56)] σ) :=
  (j_aload_n q_177_0 rfl).trans <| (j_get (ji := 1) (v := (2, 56)) q_177_1 (js_Fo qy_177 qf_0_46) js_o0 rfl rfl rfl rfl).trans <| (j_get (ji := 2) (v := (0, σ 56 2)) q_177_4 (js_Fo qy_177 qf_0_141) js_o56 rfl rfl rfl rfl).trans <| (j_ifne (t := 20) q_177_7 rfl).trans (js_ite (j_throw q_177_10 (js_No qy_177 qn_0_61) (by decide) rfl rfl (Nat.le_of_ble_eq_true rfl) hd hn hn1) ((j_aload_n q_177_20 rfl).trans <| (j_get (ji := 1) (v := (2, 56)) q_177_21 (js_Fo qy_177 qf_0_46) js_o0 rfl rfl rfl rfl).trans <| (j_ldc (v := (0, 1000000)) q_177_24 (js_Co qy_177 qc_0_151)).trans <| rfl))
theorem k_177_26 {E : js_E} {d : Nat} {σ σ2 : js_S} {z1 : Int} {v : Int} (hd : 1 ≤ d) (hz : js_J E (d - 1) 174 0 [(2, 56), (0, z1), (9, 0)] [] σ = js_r E (0, v) σ2) : js_J E d 177 26 [(2, 0)] [(0, z1), (2, 56)] σ = js_J E d 177 29 [(2, 0)] [(0, v)] σ2 :=
  j_call (m := 1) (js_caV q_177_26 (js_Mo qy_177 qm_0_148)) (js_agV (av := [(0, z1)]) (st := []) rfl rfl js_o56 rfl) rfl rfl (by rw [ql_174]; exact Nat.le_of_ble_eq_true rfl) (Nat.le_of_ble_eq_true rfl) hd hz
theorem kt_177_26 {E : js_E} {d : Nat} {σ σ2 : js_S} {z1 : Int} {w : Int} (hd : 1 ≤ d) (hz : js_J E (d - 1) 174 0 [(2, 56), (0, z1), (9, 0)] [] σ = js_t E w σ2) : js_J E d 177 26 [(2, 0)] [(0, z1), (2, 56)] σ = js_t E w σ2 :=
  j_callT (m := 1) (js_caV q_177_26 (js_Mo qy_177 qm_0_148)) (js_agV (av := [(0, z1)]) (st := []) rfl rfl js_o56 rfl) rfl rfl (by rw [ql_174]; exact Nat.le_of_ble_eq_true rfl) (Nat.le_of_ble_eq_true rfl) hd rfl hz
theorem b_177_29 {E : js_E} {d : Nat} {σ : js_S} {z0 : Int} : js_J E d 177 29 [(2, 0)] [(0, z0)] σ = (if js_w (σ 56 3) = 0 then js_r E (0, 1) σ else js_r E (0, 0) σ) :=
  (j_pop0 q_177_29).trans <| (j_aload_n q_177_30 rfl).trans <| (j_get (ji := 1) (v := (2, 56)) q_177_31 (js_Fo qy_177 qf_0_46) js_o0 rfl rfl rfl rfl).trans <| (j_get (ji := 3) (v := (0, σ 56 3)) q_177_34 (js_Fo qy_177 qf_0_152) js_o56 rfl rfl rfl rfl).trans <| (j_ifne (t := 44) q_177_37 rfl).trans (js_ite ((j_iconst q_177_40).trans <| (j_goto (t := 45) q_177_41 rfl).trans <| j_ireturn q_177_45 qr_177) ((j_iconst q_177_44).trans <| j_ireturn q_177_45 qr_177))
-- 178: VitalTwin.output (I)I
theorem b_178_0 {E : js_E} {d : Nat} {σ : js_S} {x1 b : Int} (hb : b = 0 ∨ b = 25) (hp : σ 56 1 = 7 + b) : js_J E d 178 0 [(2, 0), (0, x1)] [] σ = (if js_w x1 < 0 then js_J E d 178 18 [(2, 0), (0, x1)] [] σ else (if js_w x1 < js_w (σ (7 + b) 6) then js_J E d 178 33 [(2, 0), (0, x1)] [(0, x1), (2, 56)] σ else js_J E d 178 18 [(2, 0), (0, x1)] [] σ)) :=
  (j_iload_n q_178_0 rfl).trans <| (j_iflt (t := 18) q_178_1 rfl).trans (js_ite (rfl) ((j_iload_n q_178_4 rfl).trans <| (j_aload_n q_178_5 rfl).trans <| (j_get (ji := 1) (v := (2, 56)) q_178_6 (js_Fo qy_178 qf_0_46) js_o0 rfl rfl rfl rfl).trans <| (j_get (ji := 1) (v := (2, 7 + b)) q_178_9 (js_Fo qy_178 qf_0_155) js_o56 rfl rfl rfl (congrArg (Prod.mk 2) hp)).trans <| (j_get (ji := 6) (v := (0, σ (7 + b) 6)) q_178_12 (js_Fo qy_178 qf_0_156) (js_o7b hb) rfl rfl rfl rfl).trans <| (j_cmplt (t := 28) q_178_15 rfl).trans (js_ite ((j_aload_n q_178_28 rfl).trans <| (j_get (ji := 1) (v := (2, 56)) q_178_29 (js_Fo qy_178 qf_0_46) js_o0 rfl rfl rfl rfl).trans <| (j_iload_n q_178_32 rfl).trans <| rfl) (rfl))))
theorem b_178_18 {E : js_E} {d : Nat} {σ : js_S} {x1 : Int} (hd : 6 ≤ d) (hn : 137 ≤ σ (-1) 0) (hn1 : 0 ≤ σ (-1) 1) : js_J E d 178 18 [(2, 0), (0, x1)] [] σ = js_t E (σ (-1) 0) (js_ne σ 18) :=
  j_throw q_178_18 (js_No qy_178 qn_0_109) (by decide) rfl rfl (Nat.le_of_ble_eq_true rfl) hd hn hn1
theorem k_178_33 {E : js_E} {d : Nat} {σ σ2 : js_S} {x1 z1 : Int} {v : Int} (hd : 1 ≤ d) (hz : js_J E (d - 1) 179 0 [(2, 56), (0, z1), (9, 0)] [] σ = js_r E (0, v) σ2) : js_J E d 178 33 [(2, 0), (0, x1)] [(0, z1), (2, 56)] σ = js_J E d 178 36 [(2, 0), (0, x1)] [(0, v)] σ2 :=
  j_call (m := 1) (js_caV q_178_33 (js_Mo qy_178 qm_0_161)) (js_agV (av := [(0, z1)]) (st := []) rfl rfl js_o56 rfl) rfl rfl (by rw [ql_179]; exact Nat.le_of_ble_eq_true rfl) (Nat.le_of_ble_eq_true rfl) hd hz
theorem kt_178_33 {E : js_E} {d : Nat} {σ σ2 : js_S} {x1 z1 : Int} {w : Int} (hd : 1 ≤ d) (hz : js_J E (d - 1) 179 0 [(2, 56), (0, z1), (9, 0)] [] σ = js_t E w σ2) : js_J E d 178 33 [(2, 0), (0, x1)] [(0, z1), (2, 56)] σ = js_t E w σ2 :=
  j_callT (m := 1) (js_caV q_178_33 (js_Mo qy_178 qm_0_161)) (js_agV (av := [(0, z1)]) (st := []) rfl rfl js_o56 rfl) rfl rfl (by rw [ql_179]; exact Nat.le_of_ble_eq_true rfl) (Nat.le_of_ble_eq_true rfl) hd rfl hz
theorem b_178_36 {E : js_E} {d : Nat} {σ : js_S} {x1 z0 : Int} : js_J E d 178 36 [(2, 0), (0, x1)] [(0, z0)] σ = js_r E (0, z0) σ :=
  j_ireturn q_178_36 qr_178
-- 179: VitalTwin$Machine.isPutOut (I)I
theorem b_179_0 {E : js_E} {d : Nat} {σ : js_S} {x1 : Int} : js_J E d 179 0 [(2, 56), (0, x1), (9, 0)] [] σ = (if js_w (σ 56 3) = 0 then (if 0 < js_w (σ 56 4) then js_J E d 179 17 [(2, 56), (0, x1), (9, 0)] [(0, x1), (0, 0), (2, 56)] σ else js_J E d 179 21 [(2, 56), (0, x1), (9, 0)] [] σ) else js_J E d 179 21 [(2, 56), (0, x1), (9, 0)] [] σ) :=
  (j_aload_n q_179_0 rfl).trans <| (j_get (ji := 3) (v := (0, σ 56 3)) q_179_1 (js_Fo qy_179 qf_6_90) js_o56 rfl rfl rfl rfl).trans <| (j_ifne (t := 21) q_179_4 rfl).trans (js_ite ((j_aload_n q_179_7 rfl).trans <| (j_get (ji := 4) (v := (0, σ 56 4)) q_179_8 (js_Fo qy_179 qf_6_93) js_o56 rfl rfl rfl rfl).trans <| (j_ifle (t := 21) q_179_11 rfl).trans (js_ite ((j_aload_n q_179_14 rfl).trans <| (j_iconst q_179_15).trans <| (j_iload_n q_179_16 rfl).trans <| rfl) (rfl))) (rfl))
theorem k_179_17 {E : js_E} {d : Nat} {σ σ2 : js_S} {x1 z1 z2 : Int} {v : Int} (hd : 1 ≤ d) (hz : js_J E (d - 1) 180 0 [(2, 56), (0, z1), (0, z2), (9, 0)] [] σ = js_r E (0, v) σ2) : js_J E d 179 17 [(2, 56), (0, x1), (9, 0)] [(0, z2), (0, z1), (2, 56)] σ = js_J E d 179 20 [(2, 56), (0, x1), (9, 0)] [(0, v)] σ2 :=
  j_call (m := 1) (js_caV q_179_17 (js_Mo qy_179 qm_6_158)) (js_agV (av := [(0, z1), (0, z2)]) (st := []) rfl rfl js_o56 rfl) rfl rfl (by rw [ql_180]; exact Nat.le_of_ble_eq_true rfl) (Nat.le_of_ble_eq_true rfl) hd hz
theorem kt_179_17 {E : js_E} {d : Nat} {σ σ2 : js_S} {x1 z1 z2 : Int} {w : Int} (hd : 1 ≤ d) (hz : js_J E (d - 1) 180 0 [(2, 56), (0, z1), (0, z2), (9, 0)] [] σ = js_t E w σ2) : js_J E d 179 17 [(2, 56), (0, x1), (9, 0)] [(0, z2), (0, z1), (2, 56)] σ = js_t E w σ2 :=
  j_callT (m := 1) (js_caV q_179_17 (js_Mo qy_179 qm_6_158)) (js_agV (av := [(0, z1), (0, z2)]) (st := []) rfl rfl js_o56 rfl) rfl rfl (by rw [ql_180]; exact Nat.le_of_ble_eq_true rfl) (Nat.le_of_ble_eq_true rfl) hd rfl hz
theorem b_179_20 {E : js_E} {d : Nat} {σ : js_S} {x1 z0 : Int} : js_J E d 179 20 [(2, 56), (0, x1), (9, 0)] [(0, z0)] σ = js_r E (0, z0) σ :=
  j_ireturn q_179_20 qr_179
theorem b_179_21 {E : js_E} {d : Nat} {σ : js_S} {x1 b : Int} (hb : b = 0 ∨ b = 25) (hp : σ 56 1 = 7 + b) : js_J E d 179 21 [(2, 56), (0, x1), (9, 0)] [] σ = js_J E d 179 27 [(2, 56), (0, x1), (9, 0)] [(0, x1), (0, 2), (2, 7 + b)] σ :=
  (j_aload_n q_179_21 rfl).trans <| (j_get (ji := 1) (v := (2, 7 + b)) q_179_22 (js_Fo qy_179 qf_6_39) js_o56 rfl rfl rfl (congrArg (Prod.mk 2) hp)).trans <| (j_iconst q_179_25).trans <| (j_iload_n q_179_26 rfl).trans <| rfl
theorem k_179_27 {E : js_E} {d : Nat} {σ σ2 : js_S} {x1 z1 z2 b : Int} (hb : b = 0 ∨ b = 25) {v : Int} (hd : 1 ≤ d) (hz : js_J E (d - 1) 134 0 [(2, 7 + b), (0, z1), (0, z2), (9, 0), (9, 0), (9, 0)] [] σ = js_r E (2, v) σ2) : js_J E d 179 27 [(2, 56), (0, x1), (9, 0)] [(0, z2), (0, z1), (2, 7 + b)] σ = js_J E d 179 30 [(2, 56), (0, x1), (9, 0)] [(2, v)] σ2 :=
  j_call (m := 3) (js_caV q_179_27 (js_Mo qy_179 qm_6_102)) (js_agV (av := [(0, z1), (0, z2)]) (st := []) rfl rfl (js_o7b hb) rfl) rfl rfl (by rw [ql_134]; exact Nat.le_of_ble_eq_true rfl) (Nat.le_of_ble_eq_true rfl) hd hz
theorem kt_179_27 {E : js_E} {d : Nat} {σ σ2 : js_S} {x1 z1 z2 b : Int} (hb : b = 0 ∨ b = 25) {w : Int} (hd : 1 ≤ d) (hz : js_J E (d - 1) 134 0 [(2, 7 + b), (0, z1), (0, z2), (9, 0), (9, 0), (9, 0)] [] σ = js_t E w σ2) : js_J E d 179 27 [(2, 56), (0, x1), (9, 0)] [(0, z2), (0, z1), (2, 7 + b)] σ = js_t E w σ2 :=
  j_callT (m := 3) (js_caV q_179_27 (js_Mo qy_179 qm_6_102)) (js_agV (av := [(0, z1), (0, z2)]) (st := []) rfl rfl (js_o7b hb) rfl) rfl rfl (by rw [ql_134]; exact Nat.le_of_ble_eq_true rfl) (Nat.le_of_ble_eq_true rfl) hd rfl hz
theorem b_179_30 {E : js_E} {d : Nat} {σ : js_S} {x1 z0 : Int} : js_J E d 179 30 [(2, 56), (0, x1), (9, 0)] [(2, z0)] σ = (if z0 < 0 then js_r E (0, 0) σ else js_J E d 179 39 [(2, 56), (0, x1), (2, z0)] [] σ) :=
  (j_astore_n (l2 := [(2, 56), (0, x1), (2, z0)]) q_179_30 rfl (Nat.le_of_ble_eq_true rfl)).trans <| (j_aload_n q_179_31 rfl).trans <| (j_ifnonnull (t := 39) q_179_32 rfl).trans (js_ite ((j_iconst q_179_35).trans <| (j_goto (t := 43) q_179_36 rfl).trans <| j_ireturn q_179_43 qr_179) (rfl))
theorem b_179_39 {E : js_E} {d : Nat} {σ : js_S} {x1 x2 : Int} (hs_x2 : js_desc E.1 σ x2 = some (0, 11, js_sym)) : js_J E d 179 39 [(2, 56), (0, x1), (2, x2)] [] σ = js_r E (0, σ x2 8) σ :=
  (j_aload_n q_179_39 rfl).trans <| (j_get (ji := 8) (v := (0, σ x2 8)) q_179_40 (js_Fo qy_179 qf_6_83) hs_x2 rfl rfl rfl rfl).trans <| j_ireturn q_179_43 qr_179
-- 180: VitalTwin$Machine.wasPutOut (II)I
theorem b_180_0 {E : js_E} {d : Nat} {σ : js_S} {x1 x2 : Int} : js_J E d 180 0 [(2, 56), (0, x1), (0, x2), (9, 0)] [] σ = js_J E d 180 8 [(2, 56), (0, x1), (0, x2), (9, 0)] [(0, 16), (0, (σ 56 4) - x1)] σ :=
  (j_aload_n q_180_0 rfl).trans <| (j_get (ji := 4) (v := (0, σ 56 4)) q_180_1 (js_Fo qy_180 qf_6_93) js_o56 rfl rfl rfl rfl).trans <| (j_iload_n q_180_4 rfl).trans <| (j_isub q_180_5).trans <| (j_bi q_180_6 rfl).trans <| rfl
theorem k_180_8 {E : js_E} {d : Nat} {σ σ2 : js_S} {x1 x2 z0 z1 : Int} {v : Int} (hd : 1 ≤ d) (hz : js_J E (d - 1) 308 0 [(0, z0), (0, z1), (9, 0)] [] σ = js_r E (0, v) σ2) : js_J E d 180 8 [(2, 56), (0, x1), (0, x2), (9, 0)] [(0, z1), (0, z0)] σ = js_J E d 180 11 [(2, 56), (0, x1), (0, x2), (9, 0)] [(0, v)] σ2 :=
  j_call (m := 1) (js_caS q_180_8 (js_Mo qy_180 qm_6_161)) (js_agS (av := [(0, z0), (0, z1)]) (st := []) rfl rfl) rfl rfl (by rw [ql_308]; exact Nat.le_of_ble_eq_true rfl) (Nat.le_of_ble_eq_true rfl) hd hz
theorem kt_180_8 {E : js_E} {d : Nat} {σ σ2 : js_S} {x1 x2 z0 z1 : Int} {w : Int} (hd : 1 ≤ d) (hz : js_J E (d - 1) 308 0 [(0, z0), (0, z1), (9, 0)] [] σ = js_t E w σ2) : js_J E d 180 8 [(2, 56), (0, x1), (0, x2), (9, 0)] [(0, z1), (0, z0)] σ = js_t E w σ2 :=
  j_callT (m := 1) (js_caS q_180_8 (js_Mo qy_180 qm_6_161)) (js_agS (av := [(0, z0), (0, z1)]) (st := []) rfl rfl) rfl rfl (by rw [ql_308]; exact Nat.le_of_ble_eq_true rfl) (Nat.le_of_ble_eq_true rfl) hd rfl hz
theorem b_180_11 {E : js_E} {d : Nat} {σ : js_S} {x1 x2 z0 b : Int} (hb : b = 0 ∨ b = 25) (hp : σ 56 1 = 7 + b) (hM : 0 ≤ E.1) : js_J E d 180 11 [(2, 56), (0, x1), (0, x2), (9, 0)] [(0, z0)] σ = (if js_w ((z0 * (σ (7 + b) 6)) + x2) < 0 then js_r E (0, 0) σ else (if js_w ((z0 * (σ (7 + b) 6)) + x2) < js_w (16 * E.1) then (if 0 ≤ js_w ((z0 * (σ (7 + b) 6)) + x2) ∧ js_w ((z0 * (σ (7 + b) 6)) + x2) < 16 * E.1 then js_r E (0, σ 81 (js_w ((z0 * (σ (7 + b) 6)) + x2))) σ else none) else js_r E (0, 0) σ)) :=
  (j_aload_n q_180_11 rfl).trans <| (j_get (ji := 1) (v := (2, 7 + b)) q_180_12 (js_Fo qy_180 qf_6_39) js_o56 rfl rfl rfl (congrArg (Prod.mk 2) hp)).trans <| (j_get (ji := 6) (v := (0, σ (7 + b) 6)) q_180_15 (js_Fo qy_180 qf_6_147) (js_o7b hb) rfl rfl rfl rfl).trans <| (j_imul q_180_18).trans <| (j_iload_n q_180_19 rfl).trans <| (j_iadd q_180_20).trans <| (j_istore_n (l2 := [(2, 56), (0, x1), (0, x2), (0, (z0 * (σ (7 + b) 6)) + x2)]) q_180_21 rfl (Nat.le_of_ble_eq_true rfl)).trans <| (j_iload_n q_180_22 rfl).trans <| (j_iflt (t := 44) q_180_23 rfl).trans (js_ite ((j_iconst q_180_44).trans <| j_ireturn q_180_45 qr_180) ((j_iload_n q_180_26 rfl).trans <| (j_aload_n q_180_27 rfl).trans <| (j_get (ji := 6) (v := (2, 81)) q_180_28 (js_Fo qy_180 qf_6_36) js_o56 rfl rfl rfl rfl).trans <| (j_alen q_180_31 js_o81 (by decide) (by omega)).trans <| (j_cmpge (t := 44) q_180_32 rfl).trans (js_ite ((j_aload_n q_180_35 rfl).trans <| (j_get (ji := 6) (v := (2, 81)) q_180_36 (js_Fo qy_180 qf_6_36) js_o56 rfl rfl rfl rfl).trans <| (j_iload_n q_180_39 rfl).trans <| (j_iaload q_180_40 js_o81).trans <| js_itp fun g0 => (j_goto (t := 45) q_180_41 rfl).trans <| j_ireturn q_180_45 qr_180) ((j_iconst q_180_44).trans <| j_ireturn q_180_45 qr_180))))
-- 181: VitalTwin.past (II)I
theorem b_181_0 {E : js_E} {d : Nat} {σ : js_S} {x1 x2 b : Int} (hb : b = 0 ∨ b = 25) (hp : σ 56 1 = 7 + b) : js_J E d 181 0 [(2, 0), (0, x1), (0, x2)] [] σ = (if js_w x2 < 0 then js_J E d 181 29 [(2, 0), (0, x1), (0, x2)] [] σ else (if js_w x2 < js_w (σ (7 + b) 6) then js_J E d 181 23 [(2, 0), (0, x1), (0, x2)] [(0, x1), (2, 56)] σ else js_J E d 181 29 [(2, 0), (0, x1), (0, x2)] [] σ)) :=
  (j_iload_n q_181_0 rfl).trans <| (j_iflt (t := 29) q_181_1 rfl).trans (js_ite (rfl) ((j_iload_n q_181_4 rfl).trans <| (j_aload_n q_181_5 rfl).trans <| (j_get (ji := 1) (v := (2, 56)) q_181_6 (js_Fo qy_181 qf_0_46) js_o0 rfl rfl rfl rfl).trans <| (j_get (ji := 1) (v := (2, 7 + b)) q_181_9 (js_Fo qy_181 qf_0_155) js_o56 rfl rfl rfl (congrArg (Prod.mk 2) hp)).trans <| (j_get (ji := 6) (v := (0, σ (7 + b) 6)) q_181_12 (js_Fo qy_181 qf_0_156) (js_o7b hb) rfl rfl rfl rfl).trans <| (j_cmpge (t := 29) q_181_15 rfl).trans (js_ite ((j_aload_n q_181_18 rfl).trans <| (j_get (ji := 1) (v := (2, 56)) q_181_19 (js_Fo qy_181 qf_0_46) js_o0 rfl rfl rfl rfl).trans <| (j_iload_n q_181_22 rfl).trans <| rfl) (rfl))))
theorem k_181_23 {E : js_E} {d : Nat} {σ σ2 : js_S} {x1 x2 z1 : Int} {v : Int} (hd : 1 ≤ d) (hz : js_J E (d - 1) 182 0 [(2, 56), (0, z1)] [] σ = js_r E (0, v) σ2) : js_J E d 181 23 [(2, 0), (0, x1), (0, x2)] [(0, z1), (2, 56)] σ = js_J E d 181 26 [(2, 0), (0, x1), (0, x2)] [(0, v)] σ2 :=
  j_call (m := 0) (js_caV q_181_23 (js_Mo qy_181 qm_0_164)) (js_agV (av := [(0, z1)]) (st := []) rfl rfl js_o56 rfl) rfl rfl (by rw [ql_182]; exact Nat.le_of_ble_eq_true rfl) (Nat.le_of_ble_eq_true rfl) hd hz
theorem kt_181_23 {E : js_E} {d : Nat} {σ σ2 : js_S} {x1 x2 z1 : Int} {w : Int} (hd : 1 ≤ d) (hz : js_J E (d - 1) 182 0 [(2, 56), (0, z1)] [] σ = js_t E w σ2) : js_J E d 181 23 [(2, 0), (0, x1), (0, x2)] [(0, z1), (2, 56)] σ = js_t E w σ2 :=
  j_callT (m := 0) (js_caV q_181_23 (js_Mo qy_181 qm_0_164)) (js_agV (av := [(0, z1)]) (st := []) rfl rfl js_o56 rfl) rfl rfl (by rw [ql_182]; exact Nat.le_of_ble_eq_true rfl) (Nat.le_of_ble_eq_true rfl) hd rfl hz
theorem b_181_26 {E : js_E} {d : Nat} {σ : js_S} {x1 x2 z0 : Int} : js_J E d 181 26 [(2, 0), (0, x1), (0, x2)] [(0, z0)] σ = (if js_w z0 = 0 then js_J E d 181 29 [(2, 0), (0, x1), (0, x2)] [] σ else js_J E d 181 45 [(2, 0), (0, x1), (0, x2)] [(0, x2), (0, x1), (2, 56)] σ) :=
  (j_ifne (t := 39) q_181_26 rfl).trans (js_ite (rfl) ((j_aload_n q_181_39 rfl).trans <| (j_get (ji := 1) (v := (2, 56)) q_181_40 (js_Fo qy_181 qf_0_46) js_o0 rfl rfl rfl rfl).trans <| (j_iload_n q_181_43 rfl).trans <| (j_iload_n q_181_44 rfl).trans <| rfl))
theorem b_181_29 {E : js_E} {d : Nat} {σ : js_S} {x1 x2 : Int} (hd : 6 ≤ d) (hn : 137 ≤ σ (-1) 0) (hn1 : 0 ≤ σ (-1) 1) : js_J E d 181 29 [(2, 0), (0, x1), (0, x2)] [] σ = js_t E (σ (-1) 0) (js_ne σ 18) :=
  j_throw q_181_29 (js_No qy_181 qn_0_109) (by decide) rfl rfl (Nat.le_of_ble_eq_true rfl) hd hn hn1
theorem k_181_45 {E : js_E} {d : Nat} {σ σ2 : js_S} {x1 x2 z1 z2 : Int} {v : Int} (hd : 1 ≤ d) (hz : js_J E (d - 1) 180 0 [(2, 56), (0, z1), (0, z2), (9, 0)] [] σ = js_r E (0, v) σ2) : js_J E d 181 45 [(2, 0), (0, x1), (0, x2)] [(0, z2), (0, z1), (2, 56)] σ = js_J E d 181 48 [(2, 0), (0, x1), (0, x2)] [(0, v)] σ2 :=
  j_call (m := 1) (js_caV q_181_45 (js_Mo qy_181 qm_0_169)) (js_agV (av := [(0, z1), (0, z2)]) (st := []) rfl rfl js_o56 rfl) rfl rfl (by rw [ql_180]; exact Nat.le_of_ble_eq_true rfl) (Nat.le_of_ble_eq_true rfl) hd hz
theorem kt_181_45 {E : js_E} {d : Nat} {σ σ2 : js_S} {x1 x2 z1 z2 : Int} {w : Int} (hd : 1 ≤ d) (hz : js_J E (d - 1) 180 0 [(2, 56), (0, z1), (0, z2), (9, 0)] [] σ = js_t E w σ2) : js_J E d 181 45 [(2, 0), (0, x1), (0, x2)] [(0, z2), (0, z1), (2, 56)] σ = js_t E w σ2 :=
  j_callT (m := 1) (js_caV q_181_45 (js_Mo qy_181 qm_0_169)) (js_agV (av := [(0, z1), (0, z2)]) (st := []) rfl rfl js_o56 rfl) rfl rfl (by rw [ql_180]; exact Nat.le_of_ble_eq_true rfl) (Nat.le_of_ble_eq_true rfl) hd rfl hz
theorem b_181_48 {E : js_E} {d : Nat} {σ : js_S} {x1 x2 z0 : Int} : js_J E d 181 48 [(2, 0), (0, x1), (0, x2)] [(0, z0)] σ = js_r E (0, z0) σ :=
  j_ireturn q_181_48 qr_181
-- 182: VitalTwin$Machine.keeps (I)Z
theorem b_182_0 {E : js_E} {d : Nat} {σ : js_S} {x1 : Int} : js_J E d 182 0 [(2, 56), (0, x1)] [] σ = (if js_w x1 < 0 then js_r E (0, 0) σ else (if js_w x1 < 16 then (if js_w x1 < js_w (σ 56 4) then js_r E (0, 1) σ else js_r E (0, 0) σ) else js_r E (0, 0) σ)) :=
  (j_iload_n q_182_0 rfl).trans <| (j_iflt (t := 22) q_182_1 rfl).trans (js_ite ((j_iconst q_182_22).trans <| j_breturn0 q_182_23 qr_182) ((j_iload_n q_182_4 rfl).trans <| (j_bi q_182_5 rfl).trans <| (j_cmpgeB (t := 22) q_182_7 rfl ww_16).trans (js_ite ((j_iload_n q_182_10 rfl).trans <| (j_aload_n q_182_11 rfl).trans <| (j_get (ji := 4) (v := (0, σ 56 4)) q_182_12 (js_Fo qy_182 qf_6_93) js_o56 rfl rfl rfl rfl).trans <| (j_cmpge (t := 22) q_182_15 rfl).trans (js_ite ((j_iconst q_182_18).trans <| (j_goto (t := 23) q_182_19 rfl).trans <| j_breturn1 q_182_23 qr_182) ((j_iconst q_182_22).trans <| j_breturn0 q_182_23 qr_182))) ((j_iconst q_182_22).trans <| j_breturn0 q_182_23 qr_182))))
-- 183: VitalTwin.cell (II)J
theorem b_183_0 {E : js_E} {d : Nat} {σ : js_S} {x1 x2 : Int} : js_J E d 183 0 [(2, 0), (0, x1), (0, x2)] [] σ = (if js_w x2 < 0 then js_J E d 183 16 [(2, 0), (0, x1), (0, x2)] [] σ else js_J E d 183 10 [(2, 0), (0, x1), (0, x2)] [(0, x2), (0, x1), (2, 56)] σ) :=
  (j_iload_n q_183_0 rfl).trans <| (j_iflt (t := 16) q_183_1 rfl).trans (js_ite (rfl) ((j_aload_n q_183_4 rfl).trans <| (j_get (ji := 1) (v := (2, 56)) q_183_5 (js_Fo qy_183 qf_0_46) js_o0 rfl rfl rfl rfl).trans <| (j_iload_n q_183_8 rfl).trans <| (j_iload_n q_183_9 rfl).trans <| rfl))
theorem k_183_10 {E : js_E} {d : Nat} {σ σ2 : js_S} {x1 x2 z1 z2 : Int} {v : Int} (hd : 1 ≤ d) (hz : js_J E (d - 1) 137 0 [(2, 56), (0, z1), (0, z2)] [] σ = js_r E (0, v) σ2) : js_J E d 183 10 [(2, 0), (0, x1), (0, x2)] [(0, z2), (0, z1), (2, 56)] σ = js_J E d 183 13 [(2, 0), (0, x1), (0, x2)] [(0, v)] σ2 :=
  j_call (m := 0) (js_caV q_183_10 (js_Mo qy_183 qm_0_172)) (js_agV (av := [(0, z1), (0, z2)]) (st := []) rfl rfl js_o56 rfl) rfl rfl (by rw [ql_137]; exact Nat.le_of_ble_eq_true rfl) (Nat.le_of_ble_eq_true rfl) hd hz
theorem kt_183_10 {E : js_E} {d : Nat} {σ σ2 : js_S} {x1 x2 z1 z2 : Int} {w : Int} (hd : 1 ≤ d) (hz : js_J E (d - 1) 137 0 [(2, 56), (0, z1), (0, z2)] [] σ = js_t E w σ2) : js_J E d 183 10 [(2, 0), (0, x1), (0, x2)] [(0, z2), (0, z1), (2, 56)] σ = js_t E w σ2 :=
  j_callT (m := 0) (js_caV q_183_10 (js_Mo qy_183 qm_0_172)) (js_agV (av := [(0, z1), (0, z2)]) (st := []) rfl rfl js_o56 rfl) rfl rfl (by rw [ql_137]; exact Nat.le_of_ble_eq_true rfl) (Nat.le_of_ble_eq_true rfl) hd rfl hz
theorem b_183_13 {E : js_E} {d : Nat} {σ : js_S} {x1 x2 z0 : Int} : js_J E d 183 13 [(2, 0), (0, x1), (0, x2)] [(0, z0)] σ = (if js_w z0 = 0 then js_J E d 183 16 [(2, 0), (0, x1), (0, x2)] [] σ else js_J E d 183 34 [(2, 0), (0, x1), (0, x2)] [(0, x1), (2, 58)] σ) :=
  (j_ifne (t := 26) q_183_13 rfl).trans (js_ite (rfl) ((j_aload_n q_183_26 rfl).trans <| (j_get (ji := 1) (v := (2, 56)) q_183_27 (js_Fo qy_183 qf_0_46) js_o0 rfl rfl rfl rfl).trans <| (j_get (ji := 0) (v := (2, 58)) q_183_30 (js_Fo qy_183 qf_0_185) js_o56 rfl rfl rfl rfl).trans <| (j_iload_n q_183_33 rfl).trans <| rfl))
theorem b_183_16 {E : js_E} {d : Nat} {σ : js_S} {x1 x2 : Int} (hd : 6 ≤ d) (hn : 137 ≤ σ (-1) 0) (hn1 : 0 ≤ σ (-1) 1) : js_J E d 183 16 [(2, 0), (0, x1), (0, x2)] [] σ = js_t E (σ (-1) 0) (js_ne σ 18) :=
  j_throw q_183_16 (js_No qy_183 qn_0_109) (by decide) rfl rfl (Nat.le_of_ble_eq_true rfl) hd hn hn1
theorem k_183_34 {E : js_E} {d : Nat} {σ σ2 : js_S} {x1 x2 z1 : Int} {v : Int} (hd : 1 ≤ d) (hz : js_J E (d - 1) 146 0 [(2, 58), (0, z1)] [] σ = js_r E (2, v) σ2) : js_J E d 183 34 [(2, 0), (0, x1), (0, x2)] [(0, z1), (2, 58)] σ = js_J E d 183 37 [(2, 0), (0, x1), (0, x2)] [(2, v)] σ2 :=
  j_call (m := 0) (js_caV q_183_34 (js_Mo qy_183 qm_0_189)) (js_agV (av := [(0, z1)]) (st := []) rfl rfl js_o58 rfl) rfl rfl (by rw [ql_146]; exact Nat.le_of_ble_eq_true rfl) (Nat.le_of_ble_eq_true rfl) hd hz
theorem kt_183_34 {E : js_E} {d : Nat} {σ σ2 : js_S} {x1 x2 z1 : Int} {w : Int} (hd : 1 ≤ d) (hz : js_J E (d - 1) 146 0 [(2, 58), (0, z1)] [] σ = js_t E w σ2) : js_J E d 183 34 [(2, 0), (0, x1), (0, x2)] [(0, z1), (2, 58)] σ = js_t E w σ2 :=
  j_callT (m := 0) (js_caV q_183_34 (js_Mo qy_183 qm_0_189)) (js_agV (av := [(0, z1)]) (st := []) rfl rfl js_o58 rfl) rfl rfl (by rw [ql_146]; exact Nat.le_of_ble_eq_true rfl) (Nat.le_of_ble_eq_true rfl) hd rfl hz
theorem b_183_37 {E : js_E} {d : Nat} {σ : js_S} {x1 x2 z0 : Int} : js_J E d 183 37 [(2, 0), (0, x1), (0, x2)] [(2, z0)] σ = js_J E d 183 38 [(2, 0), (0, x1), (0, x2)] [(0, x2), (2, z0)] σ :=
  (j_iload_n q_183_37 rfl).trans <| rfl
theorem k_183_38 {E : js_E} {d : Nat} {σ σ2 : js_S} {x1 x2 z0 z1 oz0 : Int} (hC_z0 : js_isC E.1 z0 oz0) {v : Int} (hd : 1 ≤ d) (hz : js_J E (d - 1) 148 0 [(2, z0), (0, z1)] [] σ = js_r E (1, v) σ2) : js_J E d 183 38 [(2, 0), (0, x1), (0, x2)] [(0, z1), (2, z0)] σ = js_J E d 183 41 [(2, 0), (0, x1), (0, x2)] [(1, v)] σ2 :=
  j_call (m := 0) (js_caV q_183_38 (js_Mo qy_183 qm_0_195)) (js_agV (av := [(0, z1)]) (st := []) rfl rfl (hC_z0 _).1 rfl) rfl rfl (by rw [ql_148]; exact Nat.le_of_ble_eq_true rfl) (Nat.le_of_ble_eq_true rfl) hd hz
theorem kt_183_38 {E : js_E} {d : Nat} {σ σ2 : js_S} {x1 x2 z0 z1 oz0 : Int} (hC_z0 : js_isC E.1 z0 oz0) {w : Int} (hd : 1 ≤ d) (hz : js_J E (d - 1) 148 0 [(2, z0), (0, z1)] [] σ = js_t E w σ2) : js_J E d 183 38 [(2, 0), (0, x1), (0, x2)] [(0, z1), (2, z0)] σ = js_t E w σ2 :=
  j_callT (m := 0) (js_caV q_183_38 (js_Mo qy_183 qm_0_195)) (js_agV (av := [(0, z1)]) (st := []) rfl rfl (hC_z0 _).1 rfl) rfl rfl (by rw [ql_148]; exact Nat.le_of_ble_eq_true rfl) (Nat.le_of_ble_eq_true rfl) hd rfl hz
theorem b_183_41 {E : js_E} {d : Nat} {σ : js_S} {x1 x2 z0 : Int} : js_J E d 183 41 [(2, 0), (0, x1), (0, x2)] [(1, z0)] σ = js_r E (1, z0) σ :=
  j_lreturn q_183_41 qr_183
-- 184: VitalTwin.register (II)J
theorem b_184_0 {E : js_E} {d : Nat} {σ : js_S} {x1 x2 : Int} : js_J E d 184 0 [(2, 0), (0, x1), (0, x2), (9, 0), (9, 0)] [] σ = (if js_w x1 < 0 then js_J E d 184 18 [(2, 0), (0, x1), (0, x2), (9, 0), (9, 0)] [] σ else (if 1 < js_w x1 then js_J E d 184 18 [(2, 0), (0, x1), (0, x2), (9, 0), (9, 0)] [] σ else (if js_w x2 < 0 then js_J E d 184 18 [(2, 0), (0, x1), (0, x2), (9, 0), (9, 0)] [] σ else (if 3 < js_w x2 then js_J E d 184 18 [(2, 0), (0, x1), (0, x2), (9, 0), (9, 0)] [] σ else js_J E d 184 36 [(2, 0), (0, x1), (0, x2), (9, 0), (9, 0)] [(0, x1), (2, 58)] σ)))) :=
  (j_iload_n q_184_0 rfl).trans <| (j_iflt (t := 18) q_184_1 rfl).trans (js_ite (rfl) ((j_iload_n q_184_4 rfl).trans <| (j_iconst q_184_5).trans <| (j_cmpgtB (t := 18) q_184_6 rfl ww_1).trans (js_ite (rfl) ((j_iload_n q_184_9 rfl).trans <| (j_iflt (t := 18) q_184_10 rfl).trans (js_ite (rfl) ((j_iload_n q_184_13 rfl).trans <| (j_iconst q_184_14).trans <| (j_cmpleB (t := 28) q_184_15 rfl ww_3).trans (js_ite (rfl) ((j_aload_n q_184_28 rfl).trans <| (j_get (ji := 1) (v := (2, 56)) q_184_29 (js_Fo qy_184 qf_0_46) js_o0 rfl rfl rfl rfl).trans <| (j_get (ji := 0) (v := (2, 58)) q_184_32 (js_Fo qy_184 qf_0_185) js_o56 rfl rfl rfl rfl).trans <| (j_iload_n q_184_35 rfl).trans <| rfl))))))))
theorem b_184_18 {E : js_E} {d : Nat} {σ : js_S} {x1 x2 : Int} (hd : 6 ≤ d) (hn : 137 ≤ σ (-1) 0) (hn1 : 0 ≤ σ (-1) 1) : js_J E d 184 18 [(2, 0), (0, x1), (0, x2), (9, 0), (9, 0)] [] σ = js_t E (σ (-1) 0) (js_ne σ 18) :=
  j_throw q_184_18 (js_No qy_184 qn_0_109) (by decide) rfl rfl (Nat.le_of_ble_eq_true rfl) hd hn hn1
theorem k_184_36 {E : js_E} {d : Nat} {σ σ2 : js_S} {x1 x2 z1 : Int} {v : Int} (hd : 1 ≤ d) (hz : js_J E (d - 1) 146 0 [(2, 58), (0, z1)] [] σ = js_r E (2, v) σ2) : js_J E d 184 36 [(2, 0), (0, x1), (0, x2), (9, 0), (9, 0)] [(0, z1), (2, 58)] σ = js_J E d 184 39 [(2, 0), (0, x1), (0, x2), (9, 0), (9, 0)] [(2, v)] σ2 :=
  j_call (m := 0) (js_caV q_184_36 (js_Mo qy_184 qm_0_189)) (js_agV (av := [(0, z1)]) (st := []) rfl rfl js_o58 rfl) rfl rfl (by rw [ql_146]; exact Nat.le_of_ble_eq_true rfl) (Nat.le_of_ble_eq_true rfl) hd hz
theorem kt_184_36 {E : js_E} {d : Nat} {σ σ2 : js_S} {x1 x2 z1 : Int} {w : Int} (hd : 1 ≤ d) (hz : js_J E (d - 1) 146 0 [(2, 58), (0, z1)] [] σ = js_t E w σ2) : js_J E d 184 36 [(2, 0), (0, x1), (0, x2), (9, 0), (9, 0)] [(0, z1), (2, 58)] σ = js_t E w σ2 :=
  j_callT (m := 0) (js_caV q_184_36 (js_Mo qy_184 qm_0_189)) (js_agV (av := [(0, z1)]) (st := []) rfl rfl js_o58 rfl) rfl rfl (by rw [ql_146]; exact Nat.le_of_ble_eq_true rfl) (Nat.le_of_ble_eq_true rfl) hd rfl hz
theorem b_184_39 {E : js_E} {d : Nat} {σ : js_S} {x1 x2 z0 oz0 : Int} (hC_z0 : js_isC E.1 z0 oz0) : js_J E d 184 39 [(2, 0), (0, x1), (0, x2), (9, 0), (9, 0)] [(2, z0)] σ = (if js_w x2 < 2 then (if js_w x2 = 0 then js_r E (1, σ z0 0) σ else js_r E (1, σ z0 1) σ) else (if js_w (σ 58 0) = js_w (x1 + 1) then js_J E d 184 82 [(2, 0), (0, x1), (0, x2), (2, z0), (9, 0)] [(0, 1)] σ else js_J E d 184 82 [(2, 0), (0, x1), (0, x2), (2, z0), (9, 0)] [(0, 0)] σ)) :=
  (j_astore_n (l2 := [(2, 0), (0, x1), (0, x2), (2, z0), (9, 0)]) q_184_39 rfl (Nat.le_of_ble_eq_true rfl)).trans <| (j_iload_n q_184_40 rfl).trans <| (j_iconst q_184_41).trans <| (j_cmpgeB (t := 61) q_184_42 rfl ww_2).trans (js_ite ((j_iload_n q_184_45 rfl).trans <| (j_ifne (t := 56) q_184_46 rfl).trans (js_ite ((j_aload_n q_184_49 rfl).trans <| (j_get (ji := 0) (v := (1, σ z0 0)) q_184_50 (js_Fo qy_184 qf_0_203) (hC_z0 _).1 rfl rfl rfl rfl).trans <| (j_goto (t := 60) q_184_53 rfl).trans <| j_lreturn q_184_60 qr_184) ((j_aload_n q_184_56 rfl).trans <| (j_get (ji := 1) (v := (1, σ z0 1)) q_184_57 (js_Fo qy_184 qf_0_207) (hC_z0 _).1 rfl rfl rfl rfl).trans <| j_lreturn q_184_60 qr_184))) ((j_aload_n q_184_61 rfl).trans <| (j_get (ji := 1) (v := (2, 56)) q_184_62 (js_Fo qy_184 qf_0_46) js_o0 rfl rfl rfl rfl).trans <| (j_get (ji := 0) (v := (2, 58)) q_184_65 (js_Fo qy_184 qf_0_185) js_o56 rfl rfl rfl rfl).trans <| (j_get (ji := 0) (v := (0, σ 58 0)) q_184_68 (js_Fo qy_184 qf_0_210) js_o58 rfl rfl rfl rfl).trans <| (j_iload_n q_184_71 rfl).trans <| (j_iconst q_184_72).trans <| (j_iadd q_184_73).trans <| (j_cmpne (t := 81) q_184_74 rfl).trans (js_ite ((j_iconst q_184_77).trans <| (j_goto (t := 82) q_184_78 rfl).trans <| rfl) ((j_iconst q_184_81).trans <| rfl))))
theorem b_184_82 {E : js_E} {d : Nat} {σ : js_S} {x1 x2 x3 z0 ox3 : Int} (hC_x3 : js_isC E.1 x3 ox3) : js_J E d 184 82 [(2, 0), (0, x1), (0, x2), (2, x3), (9, 0)] [(0, z0)] σ = (if js_w x2 = 2 then (if js_w z0 = 0 then js_r E (1, (-1)) σ else js_r E (1, js_w (σ x3 2)) σ) else (if js_w z0 = 0 then js_r E (1, 0) σ else js_r E (1, js_w (σ x3 3)) σ)) :=
  (j_istore (l2 := [(2, 0), (0, x1), (0, x2), (2, x3), (0, z0)]) q_184_82 rfl (Nat.le_of_ble_eq_true rfl)).trans <| (j_iload_n q_184_84 rfl).trans <| (j_iconst q_184_85).trans <| (j_cmpneB (t := 106) q_184_86 rfl ww_2).trans (js_ite ((j_iload q_184_89 rfl).trans <| (j_ifeq (t := 102) q_184_91 rfl).trans (js_ite ((j_ldc2 (v := (1, (-1))) q_184_102 (js_Co qy_184 qc_0_216)).trans <| j_lreturn q_184_105 qr_184) ((j_aload_n q_184_94 rfl).trans <| (j_get (ji := 2) (v := (0, σ x3 2)) q_184_95 (js_Fo qy_184 qf_0_213) (hC_x3 _).1 rfl rfl rfl rfl).trans <| (j_i2l q_184_98).trans <| (j_goto (t := 105) q_184_99 rfl).trans <| j_lreturn q_184_105 qr_184))) ((j_iload q_184_106 rfl).trans <| (j_ifeq (t := 119) q_184_108 rfl).trans (js_ite ((j_lconst0 q_184_119).trans <| j_lreturn q_184_120 qr_184) ((j_aload_n q_184_111 rfl).trans <| (j_get (ji := 3) (v := (0, σ x3 3)) q_184_112 (js_Fo qy_184 qf_0_218) (hC_x3 _).1 rfl rfl rfl rfl).trans <| (j_i2l q_184_115).trans <| (j_goto (t := 120) q_184_116 rfl).trans <| j_lreturn q_184_120 qr_184))))
-- 299: VitalTwin.compile ()I
theorem b_299_0 {E : js_E} {d : Nat} {σ : js_S} {c : Int} (hc : c = 0 ∨ c = 25) (h5 : σ 0 5 = 6 + c) : js_J E d 299 0 [(2, 0), (9, 0), (9, 0)] [] σ = js_J E d 299 6 [(2, 0), (0, 0), (9, 0)] [(2, 6 + c)] σ :=
  (j_iconst q_299_0).trans <| (j_istore_n (l2 := [(2, 0), (0, 0), (9, 0)]) q_299_1 rfl (Nat.le_of_ble_eq_true rfl)).trans <| (j_aload_n q_299_2 rfl).trans <| (j_get (ji := 5) (v := (2, 6 + c)) q_299_3 (js_Fo qy_299 qf_0_34) js_o0 rfl rfl rfl (congrArg (Prod.mk 2) h5)).trans <| rfl
theorem k_299_6 {E : js_E} {d : Nat} {σ σ2 : js_S} {x1 c : Int} (hc : c = 0 ∨ c = 25) (hd : 1 ≤ d) (hz : js_J E (d - 1) 16 0 [(2, 6 + c), (9, 0)] [] σ = js_r0 E σ2) : js_J E d 299 6 [(2, 0), (0, x1), (9, 0)] [(2, 6 + c)] σ = js_J E d 299 9 [(2, 0), (0, x1), (9, 0)] [] σ2 :=
  j_call0 (m := 1) (js_caV q_299_6 (js_Mo qy_299 qm_0_58)) (js_agV (av := []) (st := []) rfl rfl (js_o6b hc) rfl) rfl rfl (by rw [ql_16]; exact Nat.le_of_ble_eq_true rfl) (Nat.le_of_ble_eq_true rfl) hd hz
theorem b_299_9 {E : js_E} {d : Nat} {σ : js_S} {x1 : Int} : js_J E d 299 9 [(2, 0), (0, x1), (9, 0)] [] σ = js_J E d 299 21 [(2, 0), (0, x1), (9, 0)] [] σ :=
  (j_goto (t := 21) q_299_9 rfl).trans <| rfl
theorem b_299_21 {E : js_E} {d : Nat} {σ : js_S} {x1 : Int} : js_J E d 299 21 [(2, 0), (0, x1), (9, 0)] [] σ = js_J E d 299 25 [(2, 0), (0, x1), (9, 0)] [(2, 1)] σ :=
  (j_aload_n q_299_21 rfl).trans <| (j_get (ji := 0) (v := (2, 1)) q_299_22 (js_Fo qy_299 qf_0_24) js_o0 rfl rfl rfl rfl).trans <| rfl
theorem k_299_25 {E : js_E} {d : Nat} {σ σ2 : js_S} {x1 : Int} (hd : 1 ≤ d) (hz : js_J E (d - 1) 115 0 [(2, 1)] [] σ = js_r0 E σ2) : js_J E d 299 25 [(2, 0), (0, x1), (9, 0)] [(2, 1)] σ = js_J E d 299 28 [(2, 0), (0, x1), (9, 0)] [] σ2 :=
  j_call0 (m := 0) (js_caV q_299_25 (js_Mo qy_299 qm_0_67)) (js_agV (av := []) (st := []) rfl rfl js_o1 rfl) rfl rfl (by rw [ql_115]; exact Nat.le_of_ble_eq_true rfl) (Nat.le_of_ble_eq_true rfl) hd hz
theorem b_299_28 {E : js_E} {d : Nat} {σ : js_S} {x1 b c : Int} (hc : c = 0 ∨ c = 25) (h5 : σ 0 5 = 6 + c) (hb : b = 0 ∨ b = 25) (h4 : σ 0 4 = 6 + b) : js_J E d 299 28 [(2, 0), (0, x1), (9, 0)] [] σ = (if js_w x1 = 0 then js_J E d 299 58 [(2, 0), (0, x1), (2, 6 + c)] [(2, 7 + c), (2, 56)] (js_up (js_up σ 0 5 (6 + b)) 0 4 (6 + c)) else js_J E d 299 61 [(2, 0), (0, x1), (9, 0)] [] σ) :=
  (j_iload_n q_299_28 rfl).trans <| (j_ifne (t := 61) q_299_29 rfl).trans (js_ite ((j_aload_n q_299_32 rfl).trans <| (j_get (ji := 5) (v := (2, 6 + c)) q_299_33 (js_Fo qy_299 qf_0_34) js_o0 rfl rfl rfl (congrArg (Prod.mk 2) h5)).trans <| (j_astore_n (l2 := [(2, 0), (0, x1), (2, 6 + c)]) q_299_36 rfl (Nat.le_of_ble_eq_true rfl)).trans <| (j_aload_n q_299_37 rfl).trans <| (j_aload_n q_299_38 rfl).trans <| (j_get (ji := 4) (v := (2, 6 + b)) q_299_39 (js_Fo qy_299 qf_0_30) js_o0 rfl rfl rfl (congrArg (Prod.mk 2) h4)).trans <| (j_putR (ji := 5) q_299_42 (js_Fo qy_299 qf_0_34) rfl js_o0 rfl rfl rfl).trans <| (j_aload_n q_299_45 rfl).trans <| (j_aload_n q_299_46 rfl).trans <| (j_putR (ji := 4) q_299_47 (js_Fo qy_299 qf_0_30) rfl js_o0 rfl rfl rfl).trans <| (j_aload_n q_299_50 rfl).trans <| (j_get (ji := 1) (v := (2, 56)) q_299_51 (js_Fo qy_299 qf_0_46) js_o0 rfl rfl rfl rfl).trans <| (j_aload_n q_299_54 rfl).trans <| (j_get (ji := 0) (v := (2, 7 + c)) q_299_55 (js_Fo qy_299 qf_0_39) (js_o6b hc) rfl rfl rfl rfl).trans <| rfl) (rfl))
theorem k_299_58 {E : js_E} {d : Nat} {σ σ2 : js_S} {x1 c : Int} (hd : 1 ≤ d) (hz : js_J E (d - 1) 116 0 [(2, 56), (2, 7 + c), (9, 0), (9, 0), (9, 0), (9, 0)] [] σ = js_r0 E σ2) : js_J E d 299 58 [(2, 0), (0, x1), (2, 6 + c)] [(2, 7 + c), (2, 56)] σ = js_J E d 299 61 [(2, 0), (0, x1), (2, 6 + c)] [] σ2 :=
  j_call0 (m := 4) (js_caV q_299_58 (js_Mo qy_299 qm_0_70)) (js_agV (av := [(2, 7 + c)]) (st := []) rfl rfl js_o56 rfl) rfl rfl (by rw [ql_116]; exact Nat.le_of_ble_eq_true rfl) (Nat.le_of_ble_eq_true rfl) hd hz
theorem b_299_61 {E : js_E} {d : Nat} {σ : js_S} {x1 : Int} {ux2 : js_v} : js_J E d 299 61 [(2, 0), (0, x1), ux2] [] σ = js_r E (0, x1) σ :=
  (j_iload_n q_299_61 rfl).trans <| j_ireturn q_299_62 qr_299
-- 300: VitalTwinLaw.range (LVitalTwin;II[J)I
theorem b_300_0 {E : js_E} {d : Nat} {σ : js_S} {x1 x2 : Int} : js_J E d 300 0 [(2, 0), (0, x1), (0, x2), (2, 136), (9, 0)] [] σ = js_J E d 300 5 [(2, 0), (0, x1), (0, x2), (2, 136), (9, 0)] [(0, x2), (0, x1), (2, 0), (0, 0), (2, 136)] σ :=
  (j_aload_n q_300_0 rfl).trans <| (j_iconst q_300_1).trans <| (j_aload_n q_300_2 rfl).trans <| (j_iload_n q_300_3 rfl).trans <| (j_iload_n q_300_4 rfl).trans <| rfl
theorem k_300_5 {E : js_E} {d : Nat} {σ σ2 : js_S} {x1 x2 z1 z3 z4 : Int} {v : Int} (hd : 1 ≤ d) (hz : js_J E (d - 1) 172 0 [(2, 0), (0, z3), (0, z4), (9, 0)] [] σ = js_r E (1, v) σ2) : js_J E d 300 5 [(2, 0), (0, x1), (0, x2), (2, 136), (9, 0)] [(0, z4), (0, z3), (2, 0), (0, z1), (2, 136)] σ = js_J E d 300 8 [(2, 0), (0, x1), (0, x2), (2, 136), (9, 0)] [(1, v), (0, z1), (2, 136)] σ2 :=
  j_call (m := 1) (js_caV q_300_5 (js_Mo qy_300 qm_19_7)) (js_agV (av := [(0, z3), (0, z4)]) (st := [(0, z1), (2, 136)]) rfl rfl js_o0 rfl) rfl rfl (by rw [ql_172]; exact Nat.le_of_ble_eq_true rfl) (Nat.le_of_ble_eq_true rfl) hd hz
theorem b_300_8 {E : js_E} {d : Nat} {σ : js_S} {x1 x2 z1 z2 : Int} : js_J E d 300 8 [(2, 0), (0, x1), (0, x2), (2, 136), (9, 0)] [(1, z2), (0, z1), (2, 136)] σ = (if 0 ≤ js_w z1 ∧ js_w z1 < 1 then js_r E (0, 0) (js_up σ 136 (js_w z1) z2) else none) :=
  (j_lastore q_300_8 js_o136).trans <| js_itp fun g0 => (j_goto (t := 16) q_300_9 rfl).trans <| (j_iconst q_300_16).trans <| j_ireturn q_300_17 qr_300
-- 301: VitalTwinLaw.steps (LVitalTwin;I[J)I
theorem b_301_0 {E : js_E} {d : Nat} {σ : js_S} {x1 : Int} : js_J E d 301 0 [(2, 0), (0, x1), (2, 136), (9, 0)] [] σ = js_J E d 301 4 [(2, 0), (0, x1), (2, 136), (9, 0)] [(0, x1), (2, 0), (0, 0), (2, 136)] σ :=
  (j_aload_n q_301_0 rfl).trans <| (j_iconst q_301_1).trans <| (j_aload_n q_301_2 rfl).trans <| (j_iload_n q_301_3 rfl).trans <| rfl
theorem k_301_4 {E : js_E} {d : Nat} {σ σ2 : js_S} {x1 z1 z3 : Int} {v : Int} (hd : 1 ≤ d) (hz : js_J E (d - 1) 173 0 [(2, 0), (0, z3)] [] σ = js_r E (0, v) σ2) : js_J E d 301 4 [(2, 0), (0, x1), (2, 136), (9, 0)] [(0, z3), (2, 0), (0, z1), (2, 136)] σ = js_J E d 301 7 [(2, 0), (0, x1), (2, 136), (9, 0)] [(0, v), (0, z1), (2, 136)] σ2 :=
  j_call (m := 0) (js_caV q_301_4 (js_Mo qy_301 qm_19_15)) (js_agV (av := [(0, z3)]) (st := [(0, z1), (2, 136)]) rfl rfl js_o0 rfl) rfl rfl (by rw [ql_173]; exact Nat.le_of_ble_eq_true rfl) (Nat.le_of_ble_eq_true rfl) hd hz
theorem b_301_7 {E : js_E} {d : Nat} {σ : js_S} {x1 z1 z2 : Int} : js_J E d 301 7 [(2, 0), (0, x1), (2, 136), (9, 0)] [(0, z2), (0, z1), (2, 136)] σ = (if 0 ≤ js_w z1 ∧ js_w z1 < 1 then js_r E (0, 0) (js_up σ 136 (js_w z1) (js_w z2)) else none) :=
  (j_i2l q_301_7).trans <| (j_lastore q_301_8 js_o136).trans <| js_itp fun g0 => (j_goto (t := 18) q_301_9 rfl).trans <| (j_iconst q_301_18).trans <| j_ireturn q_301_19 qr_301
-- 302: VitalTwinLaw.cycle (LVitalTwin;[J)I
theorem b_302_0 {E : js_E} {d : Nat} {σ : js_S} : js_J E d 302 0 [(2, 0), (2, 136), (9, 0)] [] σ = js_J E d 302 3 [(2, 0), (2, 136), (9, 0)] [(2, 0), (0, 0), (2, 136)] σ :=
  (j_aload_n q_302_0 rfl).trans <| (j_iconst q_302_1).trans <| (j_aload_n q_302_2 rfl).trans <| rfl
theorem k_302_3 {E : js_E} {d : Nat} {σ σ2 : js_S} {z1 : Int} {v : Int} (hd : 1 ≤ d) (hz : js_J E (d - 1) 177 0 [(2, 0)] [] σ = js_r E (0, v) σ2) : js_J E d 302 3 [(2, 0), (2, 136), (9, 0)] [(2, 0), (0, z1), (2, 136)] σ = js_J E d 302 6 [(2, 0), (2, 136), (9, 0)] [(0, v), (0, z1), (2, 136)] σ2 :=
  j_call (m := 0) (js_caV q_302_3 (js_Mo qy_302 qm_19_23)) (js_agV (av := []) (st := [(0, z1), (2, 136)]) rfl rfl js_o0 rfl) rfl rfl (by rw [ql_177]; exact Nat.le_of_ble_eq_true rfl) (Nat.le_of_ble_eq_true rfl) hd hz
theorem b_302_6 {E : js_E} {d : Nat} {σ : js_S} {z1 z2 : Int} : js_J E d 302 6 [(2, 0), (2, 136), (9, 0)] [(0, z2), (0, z1), (2, 136)] σ = (if 0 ≤ js_w z1 ∧ js_w z1 < 1 then js_r E (0, 0) (js_up σ 136 (js_w z1) (js_w z2)) else none) :=
  (j_i2l q_302_6).trans <| (j_lastore q_302_7 js_o136).trans <| js_itp fun g0 => (j_goto (t := 14) q_302_8 rfl).trans <| (j_iconst q_302_14).trans <| j_ireturn q_302_15 qr_302
-- 303: VitalTwinLaw.output (LVitalTwin;I[J)I
theorem b_303_0 {E : js_E} {d : Nat} {σ : js_S} {x1 : Int} : js_J E d 303 0 [(2, 0), (0, x1), (2, 136), (9, 0)] [] σ = js_J E d 303 4 [(2, 0), (0, x1), (2, 136), (9, 0)] [(0, x1), (2, 0), (0, 0), (2, 136)] σ :=
  (j_aload_n q_303_0 rfl).trans <| (j_iconst q_303_1).trans <| (j_aload_n q_303_2 rfl).trans <| (j_iload_n q_303_3 rfl).trans <| rfl
theorem k_303_4 {E : js_E} {d : Nat} {σ σ2 : js_S} {x1 z1 z3 : Int} {v : Int} (hd : 1 ≤ d) (hz : js_J E (d - 1) 178 0 [(2, 0), (0, z3)] [] σ = js_r E (0, v) σ2) : js_J E d 303 4 [(2, 0), (0, x1), (2, 136), (9, 0)] [(0, z3), (2, 0), (0, z1), (2, 136)] σ = js_J E d 303 7 [(2, 0), (0, x1), (2, 136), (9, 0)] [(0, v), (0, z1), (2, 136)] σ2 :=
  j_call (m := 0) (js_caV q_303_4 (js_Mo qy_303 qm_19_27)) (js_agV (av := [(0, z3)]) (st := [(0, z1), (2, 136)]) rfl rfl js_o0 rfl) rfl rfl (by rw [ql_178]; exact Nat.le_of_ble_eq_true rfl) (Nat.le_of_ble_eq_true rfl) hd hz
theorem b_303_7 {E : js_E} {d : Nat} {σ : js_S} {x1 z1 z2 : Int} : js_J E d 303 7 [(2, 0), (0, x1), (2, 136), (9, 0)] [(0, z2), (0, z1), (2, 136)] σ = (if 0 ≤ js_w z1 ∧ js_w z1 < 1 then js_r E (0, 0) (js_up σ 136 (js_w z1) (js_w z2)) else none) :=
  (j_i2l q_303_7).trans <| (j_lastore q_303_8 js_o136).trans <| js_itp fun g0 => (j_goto (t := 15) q_303_9 rfl).trans <| (j_iconst q_303_15).trans <| j_ireturn q_303_16 qr_303
-- 304: VitalTwinLaw.past (LVitalTwin;II[J)I
theorem b_304_0 {E : js_E} {d : Nat} {σ : js_S} {x1 x2 : Int} : js_J E d 304 0 [(2, 0), (0, x1), (0, x2), (2, 136), (9, 0)] [] σ = js_J E d 304 5 [(2, 0), (0, x1), (0, x2), (2, 136), (9, 0)] [(0, x2), (0, x1), (2, 0), (0, 0), (2, 136)] σ :=
  (j_aload_n q_304_0 rfl).trans <| (j_iconst q_304_1).trans <| (j_aload_n q_304_2 rfl).trans <| (j_iload_n q_304_3 rfl).trans <| (j_iload_n q_304_4 rfl).trans <| rfl
theorem k_304_5 {E : js_E} {d : Nat} {σ σ2 : js_S} {x1 x2 z1 z3 z4 : Int} {v : Int} (hd : 1 ≤ d) (hz : js_J E (d - 1) 181 0 [(2, 0), (0, z3), (0, z4)] [] σ = js_r E (0, v) σ2) : js_J E d 304 5 [(2, 0), (0, x1), (0, x2), (2, 136), (9, 0)] [(0, z4), (0, z3), (2, 0), (0, z1), (2, 136)] σ = js_J E d 304 8 [(2, 0), (0, x1), (0, x2), (2, 136), (9, 0)] [(0, v), (0, z1), (2, 136)] σ2 :=
  j_call (m := 0) (js_caV q_304_5 (js_Mo qy_304 qm_19_30)) (js_agV (av := [(0, z3), (0, z4)]) (st := [(0, z1), (2, 136)]) rfl rfl js_o0 rfl) rfl rfl (by rw [ql_181]; exact Nat.le_of_ble_eq_true rfl) (Nat.le_of_ble_eq_true rfl) hd hz
theorem b_304_8 {E : js_E} {d : Nat} {σ : js_S} {x1 x2 z1 z2 : Int} : js_J E d 304 8 [(2, 0), (0, x1), (0, x2), (2, 136), (9, 0)] [(0, z2), (0, z1), (2, 136)] σ = (if 0 ≤ js_w z1 ∧ js_w z1 < 1 then js_r E (0, 0) (js_up σ 136 (js_w z1) (js_w z2)) else none) :=
  (j_i2l q_304_8).trans <| (j_lastore q_304_9 js_o136).trans <| js_itp fun g0 => (j_goto (t := 17) q_304_10 rfl).trans <| (j_iconst q_304_17).trans <| j_ireturn q_304_18 qr_304
-- 305: VitalTwinLaw.cell (LVitalTwin;II[J)I
theorem b_305_0 {E : js_E} {d : Nat} {σ : js_S} {x1 x2 : Int} : js_J E d 305 0 [(2, 0), (0, x1), (0, x2), (2, 136), (9, 0)] [] σ = js_J E d 305 5 [(2, 0), (0, x1), (0, x2), (2, 136), (9, 0)] [(0, x2), (0, x1), (2, 0), (0, 0), (2, 136)] σ :=
  (j_aload_n q_305_0 rfl).trans <| (j_iconst q_305_1).trans <| (j_aload_n q_305_2 rfl).trans <| (j_iload_n q_305_3 rfl).trans <| (j_iload_n q_305_4 rfl).trans <| rfl
theorem k_305_5 {E : js_E} {d : Nat} {σ σ2 : js_S} {x1 x2 z1 z3 z4 : Int} {v : Int} (hd : 1 ≤ d) (hz : js_J E (d - 1) 183 0 [(2, 0), (0, z3), (0, z4)] [] σ = js_r E (1, v) σ2) : js_J E d 305 5 [(2, 0), (0, x1), (0, x2), (2, 136), (9, 0)] [(0, z4), (0, z3), (2, 0), (0, z1), (2, 136)] σ = js_J E d 305 8 [(2, 0), (0, x1), (0, x2), (2, 136), (9, 0)] [(1, v), (0, z1), (2, 136)] σ2 :=
  j_call (m := 0) (js_caV q_305_5 (js_Mo qy_305 qm_19_34)) (js_agV (av := [(0, z3), (0, z4)]) (st := [(0, z1), (2, 136)]) rfl rfl js_o0 rfl) rfl rfl (by rw [ql_183]; exact Nat.le_of_ble_eq_true rfl) (Nat.le_of_ble_eq_true rfl) hd hz
theorem b_305_8 {E : js_E} {d : Nat} {σ : js_S} {x1 x2 z1 z2 : Int} : js_J E d 305 8 [(2, 0), (0, x1), (0, x2), (2, 136), (9, 0)] [(1, z2), (0, z1), (2, 136)] σ = (if 0 ≤ js_w z1 ∧ js_w z1 < 1 then js_r E (0, 0) (js_up σ 136 (js_w z1) z2) else none) :=
  (j_lastore q_305_8 js_o136).trans <| js_itp fun g0 => (j_goto (t := 16) q_305_9 rfl).trans <| (j_iconst q_305_16).trans <| j_ireturn q_305_17 qr_305
-- 306: VitalTwinLaw.register (LVitalTwin;II[J)I
theorem b_306_0 {E : js_E} {d : Nat} {σ : js_S} {x1 x2 : Int} : js_J E d 306 0 [(2, 0), (0, x1), (0, x2), (2, 136), (9, 0)] [] σ = js_J E d 306 5 [(2, 0), (0, x1), (0, x2), (2, 136), (9, 0)] [(0, x2), (0, x1), (2, 0), (0, 0), (2, 136)] σ :=
  (j_aload_n q_306_0 rfl).trans <| (j_iconst q_306_1).trans <| (j_aload_n q_306_2 rfl).trans <| (j_iload_n q_306_3 rfl).trans <| (j_iload_n q_306_4 rfl).trans <| rfl
theorem k_306_5 {E : js_E} {d : Nat} {σ σ2 : js_S} {x1 x2 z1 z3 z4 : Int} {v : Int} (hd : 1 ≤ d) (hz : js_J E (d - 1) 184 0 [(2, 0), (0, z3), (0, z4), (9, 0), (9, 0)] [] σ = js_r E (1, v) σ2) : js_J E d 306 5 [(2, 0), (0, x1), (0, x2), (2, 136), (9, 0)] [(0, z4), (0, z3), (2, 0), (0, z1), (2, 136)] σ = js_J E d 306 8 [(2, 0), (0, x1), (0, x2), (2, 136), (9, 0)] [(1, v), (0, z1), (2, 136)] σ2 :=
  j_call (m := 2) (js_caV q_306_5 (js_Mo qy_306 qm_19_37)) (js_agV (av := [(0, z3), (0, z4)]) (st := [(0, z1), (2, 136)]) rfl rfl js_o0 rfl) rfl rfl (by rw [ql_184]; exact Nat.le_of_ble_eq_true rfl) (Nat.le_of_ble_eq_true rfl) hd hz
theorem b_306_8 {E : js_E} {d : Nat} {σ : js_S} {x1 x2 z1 z2 : Int} : js_J E d 306 8 [(2, 0), (0, x1), (0, x2), (2, 136), (9, 0)] [(1, z2), (0, z1), (2, 136)] σ = (if 0 ≤ js_w z1 ∧ js_w z1 < 1 then js_r E (0, 0) (js_up σ 136 (js_w z1) z2) else none) :=
  (j_lastore q_306_8 js_o136).trans <| js_itp fun g0 => (j_goto (t := 16) q_306_9 rfl).trans <| (j_iconst q_306_16).trans <| j_ireturn q_306_17 qr_306
-- 307: VitalTwinLaw.cell ([II)I
theorem b_307_0 {E : js_E} {d : Nat} {σ : js_S} {x1 : Int} : js_J E d 307 0 [(3, 100), (0, x1)] [] σ = (if js_w x1 < js_w (E.2.1 : Int) then (if 0 ≤ js_w x1 ∧ js_w x1 < (E.2.1 : Int) then js_r E (0, (E.2.2 (js_w x1).toNat).toInt) σ else none) else js_r E (0, 0) σ) :=
  (j_iload_n q_307_0 rfl).trans <| (j_aload_n3 q_307_1 rfl).trans <| (j_slen q_307_2 rfl).trans <| (j_cmpge (t := 12) q_307_3 rfl).trans (js_ite ((j_aload_n3 q_307_6 rfl).trans <| (j_iload_n q_307_7 rfl).trans <| (j_sloadi q_307_8 rfl).trans <| js_itn <| (j_goto (t := 13) q_307_9 rfl).trans <| j_ireturn q_307_13 qr_307) ((j_iconst q_307_12).trans <| j_ireturn q_307_13 qr_307))
-- 308: java/lang/Math.floorMod (II)I
theorem b_308_0 {E : js_E} {d : Nat} {σ : js_S} {x0 x1 : Int} : js_J E d 308 0 [(0, x0), (0, x1), (9, 0)] [] σ = (if js_w x1 = 0 then none else (if js_w (js_ixor x0 x1) < 0 then (if js_w ((js_w x0).tmod (js_w x1)) = 0 then js_r E (0, (js_w x0).tmod (js_w x1)) σ else js_r E (0, ((js_w x0).tmod (js_w x1)) + x1) σ) else js_r E (0, (js_w x0).tmod (js_w x1)) σ)) :=
  (j_iload_n q_308_0 rfl).trans <| (j_iload_n q_308_1 rfl).trans <| (j_irem q_308_2).trans <| js_ite rfl <| (j_istore_n (l2 := [(0, x0), (0, x1), (0, (js_w x0).tmod (js_w x1))]) q_308_3 rfl (Nat.le_of_ble_eq_true rfl)).trans <| (j_iload_n q_308_4 rfl).trans <| (j_iload_n q_308_5 rfl).trans <| (j_ixor q_308_6).trans <| (j_ifge (t := 18) q_308_7 rfl).trans (js_ite ((j_iload_n q_308_10 rfl).trans <| (j_ifeq (t := 18) q_308_11 rfl).trans (js_ite ((j_iload_n q_308_18 rfl).trans <| j_ireturn q_308_19 qr_308) ((j_iload_n q_308_14 rfl).trans <| (j_iload_n q_308_15 rfl).trans <| (j_iadd q_308_16).trans <| j_ireturn q_308_17 qr_308))) ((j_iload_n q_308_18 rfl).trans <| j_ireturn q_308_19 qr_308))
