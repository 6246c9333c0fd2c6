/-! part 70.r11: block equations of the reference's methods 279 to 290 (printed by wip/whole/tools/gen71.py) -/
theorem qy_279 : vt_O 279 = 12 := by decide +kernel
theorem qr_279 : vt_rc.getD 279 0 = 2 := by decide +kernel
theorem ql_279 : vt_ml.getD 279 0 = 4 := by decide +kernel
theorem qy_280 : vt_O 280 = 12 := by decide +kernel
theorem qr_280 : vt_rc.getD 280 0 = 1 := by decide +kernel
theorem ql_280 : vt_ml.getD 280 0 = 5 := by decide +kernel
theorem qy_281 : vt_O 281 = 12 := by decide +kernel
theorem qr_281 : vt_rc.getD 281 0 = 1 := by decide +kernel
theorem ql_281 : vt_ml.getD 281 0 = 3 := by decide +kernel
theorem qy_282 : vt_O 282 = 12 := by decide +kernel
theorem qr_282 : vt_rc.getD 282 0 = 1 := by decide +kernel
theorem ql_282 : vt_ml.getD 282 0 = 4 := by decide +kernel
theorem qy_283 : vt_O 283 = 12 := by decide +kernel
theorem qr_283 : vt_rc.getD 283 0 = 3 := by decide +kernel
theorem ql_283 : vt_ml.getD 283 0 = 4 := by decide +kernel
theorem qy_284 : vt_O 284 = 12 := by decide +kernel
theorem qr_284 : vt_rc.getD 284 0 = 3 := by decide +kernel
theorem ql_284 : vt_ml.getD 284 0 = 4 := by decide +kernel
theorem qy_285 : vt_O 285 = 12 := by decide +kernel
theorem qr_285 : vt_rc.getD 285 0 = 2 := by decide +kernel
theorem ql_285 : vt_ml.getD 285 0 = 5 := by decide +kernel
theorem qy_286 : vt_O 286 = 12 := by decide +kernel
theorem qr_286 : vt_rc.getD 286 0 = 2 := by decide +kernel
theorem ql_286 : vt_ml.getD 286 0 = 3 := by decide +kernel
theorem qy_287 : vt_O 287 = 12 := by decide +kernel
theorem qr_287 : vt_rc.getD 287 0 = 2 := by decide +kernel
theorem ql_287 : vt_ml.getD 287 0 = 1 := by decide +kernel
theorem qy_288 : vt_O 288 = 12 := by decide +kernel
theorem qr_288 : vt_rc.getD 288 0 = 1 := by decide +kernel
theorem ql_288 : vt_ml.getD 288 0 = 14 := by decide +kernel
theorem qy_289 : vt_O 289 = 12 := by decide +kernel
theorem qr_289 : vt_rc.getD 289 0 = 0 := by decide +kernel
theorem ql_289 : vt_ml.getD 289 0 = 2 := by decide +kernel
theorem qy_290 : vt_O 290 = 12 := by decide +kernel
theorem qr_290 : vt_rc.getD 290 0 = 0 := by decide +kernel
theorem ql_290 : vt_ml.getD 290 0 = 4 := by decide +kernel
theorem q_279_0 : js_I 279 0 = some (.aload_n 0, 1) := by decide +kernel
theorem q_279_1 : js_I 279 1 = some (.iconst 0, 1) := by decide +kernel
theorem q_279_2 : js_I 279 2 = some (.putfield 3, 3) := by decide +kernel
theorem q_279_5 : js_I 279 5 = some (.aload_n 0, 1) := by decide +kernel
theorem q_279_6 : js_I 279 6 = some (.getfield 464, 3) := by decide +kernel
theorem q_279_9 : js_I 279 9 = some (.ifCond .eq 23, 3) := by decide +kernel
theorem q_279_12 : js_I 279 12 = some (.aload_n 0, 1) := by decide +kernel
theorem q_279_13 : js_I 279 13 = some (.getfield 573, 3) := by decide +kernel
theorem q_279_16 : js_I 279 16 = some (.ifCond .ne 16, 3) := by decide +kernel
theorem q_279_19 : js_I 279 19 = some (.iload_n 1, 1) := by decide +kernel
theorem q_279_20 : js_I 279 20 = some (.ifCond .lt 12, 3) := by decide +kernel
theorem q_279_23 : js_I 279 23 = some (.aload_n 0, 1) := by decide +kernel
theorem q_279_24 : js_I 279 24 = some (.iconst 1, 1) := by decide +kernel
theorem q_279_25 : js_I 279 25 = some (.iload_n 1, 1) := by decide +kernel
theorem q_279_26 : js_I 279 26 = some (.invokevirtual 640, 3) := by decide +kernel
theorem q_279_29 : js_I 279 29 = some (.goto 4, 3) := by decide +kernel
theorem q_279_32 : js_I 279 32 = some (.iconst (-1), 1) := by decide +kernel
theorem q_279_33 : js_I 279 33 = some (.istore_n 3, 1) := by decide +kernel
theorem q_279_34 : js_I 279 34 = some (.iload_n 3, 1) := by decide +kernel
theorem q_279_35 : js_I 279 35 = some (.ifCond .lt 23, 3) := by decide +kernel
theorem q_279_58 : js_I 279 58 = some (.iconst 0, 1) := by decide +kernel
theorem q_279_59 : js_I 279 59 = some (.ireturn, 1) := by decide +kernel
theorem q_279_38 : js_I 279 38 = some (.iload_n 2, 1) := by decide +kernel
theorem q_279_39 : js_I 279 39 = some (.aload_n 0, 1) := by decide +kernel
theorem q_279_40 : js_I 279 40 = some (.getfield 105, 3) := by decide +kernel
theorem q_279_43 : js_I 279 43 = some (.iload_n 3, 1) := by decide +kernel
theorem q_279_44 : js_I 279 44 = some (.iaload, 1) := by decide +kernel
theorem q_279_45 : js_I 279 45 = some (.if_icmp .lt 13, 3) := by decide +kernel
theorem q_279_48 : js_I 279 48 = some (.iload_n 2, 1) := by decide +kernel
theorem q_279_49 : js_I 279 49 = some (.aload_n 0, 1) := by decide +kernel
theorem q_279_50 : js_I 279 50 = some (.getfield 108, 3) := by decide +kernel
theorem q_279_53 : js_I 279 53 = some (.iload_n 3, 1) := by decide +kernel
theorem q_279_54 : js_I 279 54 = some (.iaload, 1) := by decide +kernel
theorem q_279_55 : js_I 279 55 = some (.if_icmp .le 5, 3) := by decide +kernel
theorem q_279_60 : js_I 279 60 = some (.aload_n 0, 1) := by decide +kernel
theorem q_279_61 : js_I 279 61 = some (.getfield 389, 3) := by decide +kernel
theorem q_279_64 : js_I 279 64 = some (.iload_n 1, 1) := by decide +kernel
theorem q_279_65 : js_I 279 65 = some (.iload_n 2, 1) := by decide +kernel
theorem q_279_66 : js_I 279 66 = some (.iastore, 1) := by decide +kernel
theorem q_279_67 : js_I 279 67 = some (.iconst 1, 1) := by decide +kernel
theorem q_279_68 : js_I 279 68 = some (.ireturn, 1) := by decide +kernel
theorem q_280_0 : js_I 280 0 = some (.iload_n 2, 1) := by decide +kernel
theorem q_280_1 : js_I 280 1 = some (.istore_n 3, 1) := by decide +kernel
theorem q_280_2 : js_I 280 2 = some (.iconst 0, 1) := by decide +kernel
theorem q_280_3 : js_I 280 3 = some (.istore 4, 2) := by decide +kernel
theorem q_280_5 : js_I 280 5 = some (.iload 4, 2) := by decide +kernel
theorem q_280_7 : js_I 280 7 = some (.aload_n 0, 1) := by decide +kernel
theorem q_280_8 : js_I 280 8 = some (.getfield 86, 3) := by decide +kernel
theorem q_280_11 : js_I 280 11 = some (.if_icmp .ge 56, 3) := by decide +kernel
theorem q_280_14 : js_I 280 14 = some (.iload_n 3, 1) := by decide +kernel
theorem q_280_15 : js_I 280 15 = some (.ifCond .lt 52, 3) := by decide +kernel
theorem q_280_67 : js_I 280 67 = some (.iconst (-1), 1) := by decide +kernel
theorem q_280_68 : js_I 280 68 = some (.ireturn, 1) := by decide +kernel
theorem q_280_18 : js_I 280 18 = some (.aload_n 0, 1) := by decide +kernel
theorem q_280_19 : js_I 280 19 = some (.getfield 99, 3) := by decide +kernel
theorem q_280_22 : js_I 280 22 = some (.iload 4, 2) := by decide +kernel
theorem q_280_24 : js_I 280 24 = some (.iaload, 1) := by decide +kernel
theorem q_280_25 : js_I 280 25 = some (.iload_n 1, 1) := by decide +kernel
theorem q_280_26 : js_I 280 26 = some (.if_icmp .eq 6, 3) := by decide +kernel
theorem q_280_32 : js_I 280 32 = some (.iload_n 3, 1) := by decide +kernel
theorem q_280_33 : js_I 280 33 = some (.aload_n 0, 1) := by decide +kernel
theorem q_280_34 : js_I 280 34 = some (.getfield 114, 3) := by decide +kernel
theorem q_280_37 : js_I 280 37 = some (.iload 4, 2) := by decide +kernel
theorem q_280_39 : js_I 280 39 = some (.iaload, 1) := by decide +kernel
theorem q_280_40 : js_I 280 40 = some (.if_icmp .ge 11, 3) := by decide +kernel
theorem q_280_43 : js_I 280 43 = some (.aload_n 0, 1) := by decide +kernel
theorem q_280_44 : js_I 280 44 = some (.iload_n 3, 1) := by decide +kernel
theorem q_280_45 : js_I 280 45 = some (.putfield 637, 3) := by decide +kernel
theorem q_280_48 : js_I 280 48 = some (.iload 4, 2) := by decide +kernel
theorem q_280_50 : js_I 280 50 = some (.ireturn, 1) := by decide +kernel
theorem q_280_51 : js_I 280 51 = some (.iload_n 3, 1) := by decide +kernel
theorem q_280_52 : js_I 280 52 = some (.aload_n 0, 1) := by decide +kernel
theorem q_280_53 : js_I 280 53 = some (.getfield 114, 3) := by decide +kernel
theorem q_280_56 : js_I 280 56 = some (.iload 4, 2) := by decide +kernel
theorem q_280_58 : js_I 280 58 = some (.iaload, 1) := by decide +kernel
theorem q_280_59 : js_I 280 59 = some (.isub, 1) := by decide +kernel
theorem q_280_60 : js_I 280 60 = some (.istore_n 3, 1) := by decide +kernel
theorem q_280_29 : js_I 280 29 = some (.goto 32, 3) := by decide +kernel
theorem q_280_61 : js_I 280 61 = some (.iinc 4 1, 3) := by decide +kernel
theorem q_280_64 : js_I 280 64 = some (.goto (-59), 3) := by decide +kernel
theorem q_281_0 : js_I 281 0 = some (.aload_n 0, 1) := by decide +kernel
theorem q_281_1 : js_I 281 1 = some (.getfield 464, 3) := by decide +kernel
theorem q_281_4 : js_I 281 4 = some (.ifCond .eq 16, 3) := by decide +kernel
theorem q_281_7 : js_I 281 7 = some (.iload_n 1, 1) := by decide +kernel
theorem q_281_8 : js_I 281 8 = some (.ifCond .lt 12, 3) := by decide +kernel
theorem q_281_11 : js_I 281 11 = some (.aload_n 0, 1) := by decide +kernel
theorem q_281_12 : js_I 281 12 = some (.iconst 2, 1) := by decide +kernel
theorem q_281_13 : js_I 281 13 = some (.iload_n 1, 1) := by decide +kernel
theorem q_281_14 : js_I 281 14 = some (.invokevirtual 640, 3) := by decide +kernel
theorem q_281_17 : js_I 281 17 = some (.goto 4, 3) := by decide +kernel
theorem q_281_20 : js_I 281 20 = some (.iconst (-1), 1) := by decide +kernel
theorem q_281_21 : js_I 281 21 = some (.istore_n 2, 1) := by decide +kernel
theorem q_281_22 : js_I 281 22 = some (.aload_n 0, 1) := by decide +kernel
theorem q_281_23 : js_I 281 23 = some (.iload_n 2, 1) := by decide +kernel
theorem q_281_24 : js_I 281 24 = some (.ifCond .ge 7, 3) := by decide +kernel
theorem q_281_27 : js_I 281 27 = some (.iconst 1, 1) := by decide +kernel
theorem q_281_28 : js_I 281 28 = some (.goto 4, 3) := by decide +kernel
theorem q_281_31 : js_I 281 31 = some (.iconst 0, 1) := by decide +kernel
theorem q_281_32 : js_I 281 32 = some (.putfield 3, 3) := by decide +kernel
theorem q_281_35 : js_I 281 35 = some (.aload_n 0, 1) := by decide +kernel
theorem q_281_36 : js_I 281 36 = some (.getfield 3, 3) := by decide +kernel
theorem q_281_39 : js_I 281 39 = some (.ifCond .le 5, 3) := by decide +kernel
theorem q_281_42 : js_I 281 42 = some (.iconst 0, 1) := by decide +kernel
theorem q_281_43 : js_I 281 43 = some (.ireturn, 1) := by decide +kernel
theorem q_281_44 : js_I 281 44 = some (.aload_n 0, 1) := by decide +kernel
theorem q_281_45 : js_I 281 45 = some (.getfield 585, 3) := by decide +kernel
theorem q_281_48 : js_I 281 48 = some (.ifCond .gt 10, 3) := by decide +kernel
theorem q_281_51 : js_I 281 51 = some (.aload_n 0, 1) := by decide +kernel
theorem q_281_52 : js_I 281 52 = some (.getfield 588, 3) := by decide +kernel
theorem q_281_55 : js_I 281 55 = some (.ifCond .ne 12, 3) := by decide +kernel
theorem q_281_67 : js_I 281 67 = some (.aload_n 0, 1) := by decide +kernel
theorem q_281_68 : js_I 281 68 = some (.getfield 392, 3) := by decide +kernel
theorem q_281_71 : js_I 281 71 = some (.sipush 4096, 3) := by decide +kernel
theorem q_281_74 : js_I 281 74 = some (.aload_n 0, 1) := by decide +kernel
theorem q_281_75 : js_I 281 75 = some (.getfield 588, 3) := by decide +kernel
theorem q_281_78 : js_I 281 78 = some (.iconst 1, 1) := by decide +kernel
theorem q_281_79 : js_I 281 79 = some (.isub, 1) := by decide +kernel
theorem q_281_80 : js_I 281 80 = some (.bipush 16, 2) := by decide +kernel
theorem q_281_82 : js_I 281 82 = some (.irem, 1) := by decide +kernel
theorem q_281_83 : js_I 281 83 = some (.imul, 1) := by decide +kernel
theorem q_281_84 : js_I 281 84 = some (.iload_n 1, 1) := by decide +kernel
theorem q_281_85 : js_I 281 85 = some (.iadd, 1) := by decide +kernel
theorem q_281_86 : js_I 281 86 = some (.iaload, 1) := by decide +kernel
theorem q_281_87 : js_I 281 87 = some (.ireturn, 1) := by decide +kernel
theorem q_281_58 : js_I 281 58 = some (.aload_n 0, 1) := by decide +kernel
theorem q_281_59 : js_I 281 59 = some (.getfield 126, 3) := by decide +kernel
theorem q_281_62 : js_I 281 62 = some (.iload_n 2, 1) := by decide +kernel
theorem q_281_63 : js_I 281 63 = some (.iaload, 1) := by decide +kernel
theorem q_281_64 : js_I 281 64 = some (.goto 23, 3) := by decide +kernel
theorem q_282_0 : js_I 282 0 = some (.aload_n 0, 1) := by decide +kernel
theorem q_282_1 : js_I 282 1 = some (.getfield 464, 3) := by decide +kernel
theorem q_282_4 : js_I 282 4 = some (.ifCond .eq 37, 3) := by decide +kernel
theorem q_282_7 : js_I 282 7 = some (.iload_n 2, 1) := by decide +kernel
theorem q_282_8 : js_I 282 8 = some (.ifCond .lt 33, 3) := by decide +kernel
theorem q_282_11 : js_I 282 11 = some (.iload_n 2, 1) := by decide +kernel
theorem q_282_12 : js_I 282 12 = some (.aload_n 0, 1) := by decide +kernel
theorem q_282_13 : js_I 282 13 = some (.getfield 443, 3) := by decide +kernel
theorem q_282_16 : js_I 282 16 = some (.if_icmp .ge 25, 3) := by decide +kernel
theorem q_282_19 : js_I 282 19 = some (.iload_n 1, 1) := by decide +kernel
theorem q_282_20 : js_I 282 20 = some (.ifCond .lt 21, 3) := by decide +kernel
theorem q_282_23 : js_I 282 23 = some (.iload_n 1, 1) := by decide +kernel
theorem q_282_24 : js_I 282 24 = some (.bipush 16, 2) := by decide +kernel
theorem q_282_26 : js_I 282 26 = some (.if_icmp .ge 15, 3) := by decide +kernel
theorem q_282_29 : js_I 282 29 = some (.iload_n 1, 1) := by decide +kernel
theorem q_282_30 : js_I 282 30 = some (.aload_n 0, 1) := by decide +kernel
theorem q_282_31 : js_I 282 31 = some (.getfield 588, 3) := by decide +kernel
theorem q_282_34 : js_I 282 34 = some (.if_icmp .ge 7, 3) := by decide +kernel
theorem q_282_37 : js_I 282 37 = some (.iconst 1, 1) := by decide +kernel
theorem q_282_38 : js_I 282 38 = some (.goto 4, 3) := by decide +kernel
theorem q_282_41 : js_I 282 41 = some (.iconst 0, 1) := by decide +kernel
theorem q_282_42 : js_I 282 42 = some (.istore_n 3, 1) := by decide +kernel
theorem q_282_43 : js_I 282 43 = some (.aload_n 0, 1) := by decide +kernel
theorem q_282_44 : js_I 282 44 = some (.iload_n 3, 1) := by decide +kernel
theorem q_282_45 : js_I 282 45 = some (.ifCond .eq 7, 3) := by decide +kernel
theorem q_282_52 : js_I 282 52 = some (.iconst 1, 1) := by decide +kernel
theorem q_282_48 : js_I 282 48 = some (.iconst 0, 1) := by decide +kernel
theorem q_282_49 : js_I 282 49 = some (.goto 4, 3) := by decide +kernel
theorem q_282_53 : js_I 282 53 = some (.putfield 3, 3) := by decide +kernel
theorem q_282_56 : js_I 282 56 = some (.iload_n 3, 1) := by decide +kernel
theorem q_282_57 : js_I 282 57 = some (.ifCond .eq 28, 3) := by decide +kernel
theorem q_282_85 : js_I 282 85 = some (.iconst 0, 1) := by decide +kernel
theorem q_282_86 : js_I 282 86 = some (.ireturn, 1) := by decide +kernel
theorem q_282_60 : js_I 282 60 = some (.aload_n 0, 1) := by decide +kernel
theorem q_282_61 : js_I 282 61 = some (.getfield 392, 3) := by decide +kernel
theorem q_282_64 : js_I 282 64 = some (.sipush 4096, 3) := by decide +kernel
theorem q_282_67 : js_I 282 67 = some (.aload_n 0, 1) := by decide +kernel
theorem q_282_68 : js_I 282 68 = some (.getfield 588, 3) := by decide +kernel
theorem q_282_71 : js_I 282 71 = some (.iconst 1, 1) := by decide +kernel
theorem q_282_72 : js_I 282 72 = some (.isub, 1) := by decide +kernel
theorem q_282_73 : js_I 282 73 = some (.iload_n 1, 1) := by decide +kernel
theorem q_282_74 : js_I 282 74 = some (.isub, 1) := by decide +kernel
theorem q_282_75 : js_I 282 75 = some (.bipush 16, 2) := by decide +kernel
theorem q_282_77 : js_I 282 77 = some (.irem, 1) := by decide +kernel
theorem q_282_78 : js_I 282 78 = some (.imul, 1) := by decide +kernel
theorem q_282_79 : js_I 282 79 = some (.iload_n 2, 1) := by decide +kernel
theorem q_282_80 : js_I 282 80 = some (.iadd, 1) := by decide +kernel
theorem q_282_81 : js_I 282 81 = some (.iaload, 1) := by decide +kernel
theorem q_282_82 : js_I 282 82 = some (.goto 4, 3) := by decide +kernel
theorem q_283_0 : js_I 283 0 = some (.aload_n 0, 1) := by decide +kernel
theorem q_283_1 : js_I 283 1 = some (.getfield 464, 3) := by decide +kernel
theorem q_283_4 : js_I 283 4 = some (.ifCond .eq 28, 3) := by decide +kernel
theorem q_283_7 : js_I 283 7 = some (.iload_n 1, 1) := by decide +kernel
theorem q_283_8 : js_I 283 8 = some (.ifCond .lt 24, 3) := by decide +kernel
theorem q_283_11 : js_I 283 11 = some (.iload_n 1, 1) := by decide +kernel
theorem q_283_12 : js_I 283 12 = some (.iconst 2, 1) := by decide +kernel
theorem q_283_13 : js_I 283 13 = some (.if_icmp .ge 19, 3) := by decide +kernel
theorem q_283_16 : js_I 283 16 = some (.iload_n 2, 1) := by decide +kernel
theorem q_283_17 : js_I 283 17 = some (.ifCond .lt 15, 3) := by decide +kernel
theorem q_283_20 : js_I 283 20 = some (.iload_n 2, 1) := by decide +kernel
theorem q_283_21 : js_I 283 21 = some (.aload_n 0, 1) := by decide +kernel
theorem q_283_22 : js_I 283 22 = some (.getfield 437, 3) := by decide +kernel
theorem q_283_25 : js_I 283 25 = some (.if_icmp .ge 7, 3) := by decide +kernel
theorem q_283_28 : js_I 283 28 = some (.iconst 1, 1) := by decide +kernel
theorem q_283_29 : js_I 283 29 = some (.goto 4, 3) := by decide +kernel
theorem q_283_32 : js_I 283 32 = some (.iconst 0, 1) := by decide +kernel
theorem q_283_33 : js_I 283 33 = some (.istore_n 3, 1) := by decide +kernel
theorem q_283_34 : js_I 283 34 = some (.aload_n 0, 1) := by decide +kernel
theorem q_283_35 : js_I 283 35 = some (.iload_n 3, 1) := by decide +kernel
theorem q_283_36 : js_I 283 36 = some (.ifCond .eq 7, 3) := by decide +kernel
theorem q_283_43 : js_I 283 43 = some (.iconst 1, 1) := by decide +kernel
theorem q_283_39 : js_I 283 39 = some (.iconst 0, 1) := by decide +kernel
theorem q_283_40 : js_I 283 40 = some (.goto 4, 3) := by decide +kernel
theorem q_283_44 : js_I 283 44 = some (.putfield 3, 3) := by decide +kernel
theorem q_283_47 : js_I 283 47 = some (.iload_n 3, 1) := by decide +kernel
theorem q_283_48 : js_I 283 48 = some (.ifCond .eq 18, 3) := by decide +kernel
theorem q_283_66 : js_I 283 66 = some (.lconst 0, 1) := by decide +kernel
theorem q_283_67 : js_I 283 67 = some (.lreturn, 1) := by decide +kernel
theorem q_283_51 : js_I 283 51 = some (.aload_n 0, 1) := by decide +kernel
theorem q_283_52 : js_I 283 52 = some (.getfield 374, 3) := by decide +kernel
theorem q_283_55 : js_I 283 55 = some (.sipush 4096, 3) := by decide +kernel
theorem q_283_58 : js_I 283 58 = some (.iload_n 1, 1) := by decide +kernel
theorem q_283_59 : js_I 283 59 = some (.imul, 1) := by decide +kernel
theorem q_283_60 : js_I 283 60 = some (.iload_n 2, 1) := by decide +kernel
theorem q_283_61 : js_I 283 61 = some (.iadd, 1) := by decide +kernel
theorem q_283_62 : js_I 283 62 = some (.laload, 1) := by decide +kernel
theorem q_283_63 : js_I 283 63 = some (.goto 4, 3) := by decide +kernel
theorem q_284_0 : js_I 284 0 = some (.aload_n 0, 1) := by decide +kernel
theorem q_284_1 : js_I 284 1 = some (.iload_n 1, 1) := by decide +kernel
theorem q_284_2 : js_I 284 2 = some (.ifCond .lt 17, 3) := by decide +kernel
theorem q_284_5 : js_I 284 5 = some (.iload_n 1, 1) := by decide +kernel
theorem q_284_6 : js_I 284 6 = some (.iconst 1, 1) := by decide +kernel
theorem q_284_7 : js_I 284 7 = some (.if_icmp .gt 12, 3) := by decide +kernel
theorem q_284_10 : js_I 284 10 = some (.iload_n 2, 1) := by decide +kernel
theorem q_284_11 : js_I 284 11 = some (.ifCond .lt 8, 3) := by decide +kernel
theorem q_284_14 : js_I 284 14 = some (.iload_n 2, 1) := by decide +kernel
theorem q_284_15 : js_I 284 15 = some (.iconst 3, 1) := by decide +kernel
theorem q_284_16 : js_I 284 16 = some (.if_icmp .le 7, 3) := by decide +kernel
theorem q_284_23 : js_I 284 23 = some (.iconst 0, 1) := by decide +kernel
theorem q_284_19 : js_I 284 19 = some (.iconst 1, 1) := by decide +kernel
theorem q_284_20 : js_I 284 20 = some (.goto 4, 3) := by decide +kernel
theorem q_284_24 : js_I 284 24 = some (.putfield 3, 3) := by decide +kernel
theorem q_284_27 : js_I 284 27 = some (.aload_n 0, 1) := by decide +kernel
theorem q_284_28 : js_I 284 28 = some (.getfield 3, 3) := by decide +kernel
theorem q_284_31 : js_I 284 31 = some (.ifCond .le 5, 3) := by decide +kernel
theorem q_284_34 : js_I 284 34 = some (.lconst 0, 1) := by decide +kernel
theorem q_284_35 : js_I 284 35 = some (.lreturn, 1) := by decide +kernel
theorem q_284_36 : js_I 284 36 = some (.aload_n 0, 1) := by decide +kernel
theorem q_284_37 : js_I 284 37 = some (.getfield 573, 3) := by decide +kernel
theorem q_284_40 : js_I 284 40 = some (.iload_n 1, 1) := by decide +kernel
theorem q_284_41 : js_I 284 41 = some (.iconst 1, 1) := by decide +kernel
theorem q_284_42 : js_I 284 42 = some (.iadd, 1) := by decide +kernel
theorem q_284_43 : js_I 284 43 = some (.if_icmp .ne 7, 3) := by decide +kernel
theorem q_284_46 : js_I 284 46 = some (.iconst 1, 1) := by decide +kernel
theorem q_284_47 : js_I 284 47 = some (.goto 4, 3) := by decide +kernel
theorem q_284_50 : js_I 284 50 = some (.iconst 0, 1) := by decide +kernel
theorem q_284_51 : js_I 284 51 = some (.istore_n 3, 1) := by decide +kernel
theorem q_284_52 : js_I 284 52 = some (.iload_n 2, 1) := by decide +kernel
theorem q_284_53 : js_I 284 53 = some (.ifCond .ne 12, 3) := by decide +kernel
theorem q_284_56 : js_I 284 56 = some (.aload_n 0, 1) := by decide +kernel
theorem q_284_57 : js_I 284 57 = some (.getfield 377, 3) := by decide +kernel
theorem q_284_60 : js_I 284 60 = some (.iload_n 1, 1) := by decide +kernel
theorem q_284_61 : js_I 284 61 = some (.laload, 1) := by decide +kernel
theorem q_284_62 : js_I 284 62 = some (.goto 55, 3) := by decide +kernel
theorem q_284_117 : js_I 284 117 = some (.lreturn, 1) := by decide +kernel
theorem q_284_65 : js_I 284 65 = some (.iload_n 2, 1) := by decide +kernel
theorem q_284_66 : js_I 284 66 = some (.iconst 1, 1) := by decide +kernel
theorem q_284_67 : js_I 284 67 = some (.if_icmp .ne 12, 3) := by decide +kernel
theorem q_284_70 : js_I 284 70 = some (.aload_n 0, 1) := by decide +kernel
theorem q_284_71 : js_I 284 71 = some (.getfield 380, 3) := by decide +kernel
theorem q_284_74 : js_I 284 74 = some (.iload_n 1, 1) := by decide +kernel
theorem q_284_75 : js_I 284 75 = some (.laload, 1) := by decide +kernel
theorem q_284_76 : js_I 284 76 = some (.goto 41, 3) := by decide +kernel
theorem q_284_79 : js_I 284 79 = some (.iload_n 2, 1) := by decide +kernel
theorem q_284_80 : js_I 284 80 = some (.iconst 2, 1) := by decide +kernel
theorem q_284_81 : js_I 284 81 = some (.if_icmp .ne 21, 3) := by decide +kernel
theorem q_284_84 : js_I 284 84 = some (.iload_n 3, 1) := by decide +kernel
theorem q_284_85 : js_I 284 85 = some (.ifCond .eq 11, 3) := by decide +kernel
theorem q_284_96 : js_I 284 96 = some (.ldc2_w 643, 3) := by decide +kernel
theorem q_284_99 : js_I 284 99 = some (.goto 18, 3) := by decide +kernel
theorem q_284_88 : js_I 284 88 = some (.aload_n 0, 1) := by decide +kernel
theorem q_284_89 : js_I 284 89 = some (.getfield 576, 3) := by decide +kernel
theorem q_284_92 : js_I 284 92 = some (.i2l, 1) := by decide +kernel
theorem q_284_93 : js_I 284 93 = some (.goto 24, 3) := by decide +kernel
theorem q_284_102 : js_I 284 102 = some (.iload_n 3, 1) := by decide +kernel
theorem q_284_103 : js_I 284 103 = some (.ifCond .eq 13, 3) := by decide +kernel
theorem q_284_116 : js_I 284 116 = some (.lconst 0, 1) := by decide +kernel
theorem q_284_106 : js_I 284 106 = some (.aload_n 0, 1) := by decide +kernel
theorem q_284_107 : js_I 284 107 = some (.getfield 386, 3) := by decide +kernel
theorem q_284_110 : js_I 284 110 = some (.iload_n 1, 1) := by decide +kernel
theorem q_284_111 : js_I 284 111 = some (.iaload, 1) := by decide +kernel
theorem q_284_112 : js_I 284 112 = some (.i2l, 1) := by decide +kernel
theorem q_284_113 : js_I 284 113 = some (.goto 4, 3) := by decide +kernel
theorem q_285_0 : js_I 285 0 = some (.aload_n 0, 1) := by decide +kernel
theorem q_285_1 : js_I 285 1 = some (.iconst 0, 1) := by decide +kernel
theorem q_285_2 : js_I 285 2 = some (.putfield 3, 3) := by decide +kernel
theorem q_285_5 : js_I 285 5 = some (.aload_n 0, 1) := by decide +kernel
theorem q_285_6 : js_I 285 6 = some (.iload_n 1, 1) := by decide +kernel
theorem q_285_7 : js_I 285 7 = some (.iload_n 2, 1) := by decide +kernel
theorem q_285_8 : js_I 285 8 = some (.invokevirtual 645, 3) := by decide +kernel
theorem q_285_11 : js_I 285 11 = some (.ifCond .eq 49, 3) := by decide +kernel
theorem q_285_60 : js_I 285 60 = some (.iconst 0, 1) := by decide +kernel
theorem q_285_61 : js_I 285 61 = some (.ireturn, 1) := by decide +kernel
theorem q_285_14 : js_I 285 14 = some (.iload_n 3, 1) := by decide +kernel
theorem q_285_15 : js_I 285 15 = some (.ifCond .lt 45, 3) := by decide +kernel
theorem q_285_18 : js_I 285 18 = some (.iload_n 3, 1) := by decide +kernel
theorem q_285_19 : js_I 285 19 = some (.bipush 63, 2) := by decide +kernel
theorem q_285_21 : js_I 285 21 = some (.if_icmp .gt 39, 3) := by decide +kernel
theorem q_285_24 : js_I 285 24 = some (.aload_n 0, 1) := by decide +kernel
theorem q_285_25 : js_I 285 25 = some (.getfield 585, 3) := by decide +kernel
theorem q_285_28 : js_I 285 28 = some (.ifCond .gt 32, 3) := by decide +kernel
theorem q_285_31 : js_I 285 31 = some (.aload_n 0, 1) := by decide +kernel
theorem q_285_32 : js_I 285 32 = some (.getfield 594, 3) := by decide +kernel
theorem q_285_35 : js_I 285 35 = some (.bipush 8, 2) := by decide +kernel
theorem q_285_37 : js_I 285 37 = some (.if_icmp .eq 23, 3) := by decide +kernel
theorem q_285_40 : js_I 285 40 = some (.iload 4, 2) := by decide +kernel
theorem q_285_42 : js_I 285 42 = some (.aload_n 0, 1) := by decide +kernel
theorem q_285_43 : js_I 285 43 = some (.getfield 573, 3) := by decide +kernel
theorem q_285_46 : js_I 285 46 = some (.ifCond .le 10, 3) := by decide +kernel
theorem q_285_49 : js_I 285 49 = some (.aload_n 0, 1) := by decide +kernel
theorem q_285_50 : js_I 285 50 = some (.getfield 579, 3) := by decide +kernel
theorem q_285_53 : js_I 285 53 = some (.goto 4, 3) := by decide +kernel
theorem q_285_56 : js_I 285 56 = some (.iconst 0, 1) := by decide +kernel
theorem q_285_57 : js_I 285 57 = some (.if_icmp .ge 5, 3) := by decide +kernel
theorem q_285_62 : js_I 285 62 = some (.aload_n 0, 1) := by decide +kernel
theorem q_285_63 : js_I 285 63 = some (.getfield 395, 3) := by decide +kernel
theorem q_285_66 : js_I 285 66 = some (.aload_n 0, 1) := by decide +kernel
theorem q_285_67 : js_I 285 67 = some (.getfield 594, 3) := by decide +kernel
theorem q_285_70 : js_I 285 70 = some (.iload_n 1, 1) := by decide +kernel
theorem q_285_71 : js_I 285 71 = some (.iastore, 1) := by decide +kernel
theorem q_285_72 : js_I 285 72 = some (.aload_n 0, 1) := by decide +kernel
theorem q_285_73 : js_I 285 73 = some (.getfield 398, 3) := by decide +kernel
theorem q_285_76 : js_I 285 76 = some (.aload_n 0, 1) := by decide +kernel
theorem q_285_77 : js_I 285 77 = some (.getfield 594, 3) := by decide +kernel
theorem q_285_80 : js_I 285 80 = some (.iload_n 2, 1) := by decide +kernel
theorem q_285_81 : js_I 285 81 = some (.iastore, 1) := by decide +kernel
theorem q_285_82 : js_I 285 82 = some (.aload_n 0, 1) := by decide +kernel
theorem q_285_83 : js_I 285 83 = some (.getfield 401, 3) := by decide +kernel
theorem q_285_86 : js_I 285 86 = some (.aload_n 0, 1) := by decide +kernel
theorem q_285_87 : js_I 285 87 = some (.getfield 594, 3) := by decide +kernel
theorem q_285_90 : js_I 285 90 = some (.iload_n 3, 1) := by decide +kernel
theorem q_285_91 : js_I 285 91 = some (.iastore, 1) := by decide +kernel
theorem q_285_92 : js_I 285 92 = some (.aload_n 0, 1) := by decide +kernel
theorem q_285_93 : js_I 285 93 = some (.getfield 404, 3) := by decide +kernel
theorem q_285_96 : js_I 285 96 = some (.aload_n 0, 1) := by decide +kernel
theorem q_285_97 : js_I 285 97 = some (.getfield 594, 3) := by decide +kernel
theorem q_285_100 : js_I 285 100 = some (.iload 4, 2) := by decide +kernel
theorem q_285_102 : js_I 285 102 = some (.iastore, 1) := by decide +kernel
theorem q_285_103 : js_I 285 103 = some (.aload_n 0, 1) := by decide +kernel
theorem q_285_104 : js_I 285 104 = some (.dup, 1) := by decide +kernel
theorem q_285_105 : js_I 285 105 = some (.getfield 594, 3) := by decide +kernel
theorem q_285_108 : js_I 285 108 = some (.iconst 1, 1) := by decide +kernel
theorem q_285_109 : js_I 285 109 = some (.iadd, 1) := by decide +kernel
theorem q_285_110 : js_I 285 110 = some (.putfield 594, 3) := by decide +kernel
theorem q_285_113 : js_I 285 113 = some (.iconst 1, 1) := by decide +kernel
theorem q_285_114 : js_I 285 114 = some (.ireturn, 1) := by decide +kernel
theorem q_286_0 : js_I 286 0 = some (.aload_n 0, 1) := by decide +kernel
theorem q_286_1 : js_I 286 1 = some (.getfield 464, 3) := by decide +kernel
theorem q_286_4 : js_I 286 4 = some (.ifCond .eq 30, 3) := by decide +kernel
theorem q_286_34 : js_I 286 34 = some (.iconst 0, 1) := by decide +kernel
theorem q_286_35 : js_I 286 35 = some (.ireturn, 1) := by decide +kernel
theorem q_286_7 : js_I 286 7 = some (.iload_n 1, 1) := by decide +kernel
theorem q_286_8 : js_I 286 8 = some (.ifCond .lt 26, 3) := by decide +kernel
theorem q_286_11 : js_I 286 11 = some (.iload_n 1, 1) := by decide +kernel
theorem q_286_12 : js_I 286 12 = some (.iconst 2, 1) := by decide +kernel
theorem q_286_13 : js_I 286 13 = some (.if_icmp .ge 21, 3) := by decide +kernel
theorem q_286_16 : js_I 286 16 = some (.iload_n 2, 1) := by decide +kernel
theorem q_286_17 : js_I 286 17 = some (.bipush (-2), 2) := by decide +kernel
theorem q_286_19 : js_I 286 19 = some (.if_icmp .lt 15, 3) := by decide +kernel
theorem q_286_22 : js_I 286 22 = some (.iload_n 2, 1) := by decide +kernel
theorem q_286_23 : js_I 286 23 = some (.aload_n 0, 1) := by decide +kernel
theorem q_286_24 : js_I 286 24 = some (.getfield 437, 3) := by decide +kernel
theorem q_286_27 : js_I 286 27 = some (.if_icmp .ge 7, 3) := by decide +kernel
theorem q_286_30 : js_I 286 30 = some (.iconst 1, 1) := by decide +kernel
theorem q_286_31 : js_I 286 31 = some (.goto 4, 3) := by decide +kernel
theorem q_287_0 : js_I 287 0 = some (.aload_n 0, 1) := by decide +kernel
theorem q_287_1 : js_I 287 1 = some (.iconst 0, 1) := by decide +kernel
theorem q_287_2 : js_I 287 2 = some (.putfield 3, 3) := by decide +kernel
theorem q_287_5 : js_I 287 5 = some (.aload_n 0, 1) := by decide +kernel
theorem q_287_6 : js_I 287 6 = some (.getfield 464, 3) := by decide +kernel
theorem q_287_9 : js_I 287 9 = some (.ifCond .eq 7, 3) := by decide +kernel
theorem q_287_12 : js_I 287 12 = some (.aload_n 0, 1) := by decide +kernel
theorem q_287_13 : js_I 287 13 = some (.invokevirtual 471, 3) := by decide +kernel
theorem q_287_16 : js_I 287 16 = some (.aload_n 0, 1) := by decide +kernel
theorem q_287_17 : js_I 287 17 = some (.getfield 464, 3) := by decide +kernel
theorem q_287_20 : js_I 287 20 = some (.ireturn, 1) := by decide +kernel
theorem q_288_0 : js_I 288 0 = some (.aload_n 0, 1) := by decide +kernel
theorem q_288_1 : js_I 288 1 = some (.iconst 0, 1) := by decide +kernel
theorem q_288_2 : js_I 288 2 = some (.putfield 3, 3) := by decide +kernel
theorem q_288_5 : js_I 288 5 = some (.aload_n 0, 1) := by decide +kernel
theorem q_288_6 : js_I 288 6 = some (.iload_n 1, 1) := by decide +kernel
theorem q_288_7 : js_I 288 7 = some (.iload_n 2, 1) := by decide +kernel
theorem q_288_8 : js_I 288 8 = some (.invokevirtual 645, 3) := by decide +kernel
theorem q_288_11 : js_I 288 11 = some (.ifCond .eq 39, 3) := by decide +kernel
theorem q_288_50 : js_I 288 50 = some (.iconst (-1), 1) := by decide +kernel
theorem q_288_51 : js_I 288 51 = some (.ireturn, 1) := by decide +kernel
theorem q_288_14 : js_I 288 14 = some (.aload_n 0, 1) := by decide +kernel
theorem q_288_15 : js_I 288 15 = some (.getfield 573, 3) := by decide +kernel
theorem q_288_18 : js_I 288 18 = some (.ifCond .gt 32, 3) := by decide +kernel
theorem q_288_21 : js_I 288 21 = some (.aload_n 0, 1) := by decide +kernel
theorem q_288_22 : js_I 288 22 = some (.getfield 585, 3) := by decide +kernel
theorem q_288_25 : js_I 288 25 = some (.ifCond .gt 25, 3) := by decide +kernel
theorem q_288_28 : js_I 288 28 = some (.aload_n 0, 1) := by decide +kernel
theorem q_288_29 : js_I 288 29 = some (.getfield 594, 3) := by decide +kernel
theorem q_288_32 : js_I 288 32 = some (.ifCond .gt 18, 3) := by decide +kernel
theorem q_288_35 : js_I 288 35 = some (.iload_n 3, 1) := by decide +kernel
theorem q_288_36 : js_I 288 36 = some (.ifCond .lt 14, 3) := by decide +kernel
theorem q_288_39 : js_I 288 39 = some (.iload 4, 2) := by decide +kernel
theorem q_288_41 : js_I 288 41 = some (.ifCond .lt 9, 3) := by decide +kernel
theorem q_288_44 : js_I 288 44 = some (.iload 4, 2) := by decide +kernel
theorem q_288_46 : js_I 288 46 = some (.iconst 4, 1) := by decide +kernel
theorem q_288_47 : js_I 288 47 = some (.if_icmp .le 5, 3) := by decide +kernel
theorem q_288_52 : js_I 288 52 = some (.aload_n 0, 1) := by decide +kernel
theorem q_288_53 : js_I 288 53 = some (.getfield 588, 3) := by decide +kernel
theorem q_288_56 : js_I 288 56 = some (.istore 5, 2) := by decide +kernel
theorem q_288_58 : js_I 288 58 = some (.aload_n 0, 1) := by decide +kernel
theorem q_288_59 : js_I 288 59 = some (.getfield 591, 3) := by decide +kernel
theorem q_288_62 : js_I 288 62 = some (.istore 6, 2) := by decide +kernel
theorem q_288_64 : js_I 288 64 = some (.sipush 4096, 3) := by decide +kernel
theorem q_288_67 : js_I 288 67 = some (.aload_n 0, 1) := by decide +kernel
theorem q_288_68 : js_I 288 68 = some (.getfield 588, 3) := by decide +kernel
theorem q_288_71 : js_I 288 71 = some (.bipush 16, 2) := by decide +kernel
theorem q_288_73 : js_I 288 73 = some (.irem, 1) := by decide +kernel
theorem q_288_74 : js_I 288 74 = some (.imul, 1) := by decide +kernel
theorem q_288_75 : js_I 288 75 = some (.istore 7, 2) := by decide +kernel
theorem q_288_77 : js_I 288 77 = some (.aload_n 0, 1) := by decide +kernel
theorem q_288_78 : js_I 288 78 = some (.invokevirtual 649, 3) := by decide +kernel
theorem q_288_81 : js_I 288 81 = some (.iconst 0, 1) := by decide +kernel
theorem q_288_82 : js_I 288 82 = some (.istore 8, 2) := by decide +kernel
theorem q_288_84 : js_I 288 84 = some (.iload 8, 2) := by decide +kernel
theorem q_288_86 : js_I 288 86 = some (.aload_n 0, 1) := by decide +kernel
theorem q_288_87 : js_I 288 87 = some (.getfield 443, 3) := by decide +kernel
theorem q_288_90 : js_I 288 90 = some (.if_icmp .ge 26, 3) := by decide +kernel
theorem q_288_93 : js_I 288 93 = some (.aload_n 0, 1) := by decide +kernel
theorem q_288_94 : js_I 288 94 = some (.getfield 413, 3) := by decide +kernel
theorem q_288_97 : js_I 288 97 = some (.iload 8, 2) := by decide +kernel
theorem q_288_99 : js_I 288 99 = some (.aload_n 0, 1) := by decide +kernel
theorem q_288_100 : js_I 288 100 = some (.getfield 392, 3) := by decide +kernel
theorem q_288_103 : js_I 288 103 = some (.iload 7, 2) := by decide +kernel
theorem q_288_105 : js_I 288 105 = some (.iload 8, 2) := by decide +kernel
theorem q_288_107 : js_I 288 107 = some (.iadd, 1) := by decide +kernel
theorem q_288_108 : js_I 288 108 = some (.iaload, 1) := by decide +kernel
theorem q_288_109 : js_I 288 109 = some (.iastore, 1) := by decide +kernel
theorem q_288_110 : js_I 288 110 = some (.iinc 8 1, 3) := by decide +kernel
theorem q_288_113 : js_I 288 113 = some (.goto (-29), 3) := by decide +kernel
theorem q_288_116 : js_I 288 116 = some (.aload_n 0, 1) := by decide +kernel
theorem q_288_117 : js_I 288 117 = some (.invokevirtual 634, 3) := by decide +kernel
theorem q_288_120 : js_I 288 120 = some (.aload_n 0, 1) := by decide +kernel
theorem q_288_121 : js_I 288 121 = some (.getfield 585, 3) := by decide +kernel
theorem q_288_124 : js_I 288 124 = some (.ifCond .ne 7, 3) := by decide +kernel
theorem q_288_127 : js_I 288 127 = some (.iconst 1, 1) := by decide +kernel
theorem q_288_128 : js_I 288 128 = some (.goto 4, 3) := by decide +kernel
theorem q_288_131 : js_I 288 131 = some (.iconst 0, 1) := by decide +kernel
theorem q_288_132 : js_I 288 132 = some (.istore 8, 2) := by decide +kernel
theorem q_288_134 : js_I 288 134 = some (.iconst 0, 1) := by decide +kernel
theorem q_288_135 : js_I 288 135 = some (.istore 9, 2) := by decide +kernel
theorem q_288_137 : js_I 288 137 = some (.iload 9, 2) := by decide +kernel
theorem q_288_139 : js_I 288 139 = some (.aload_n 0, 1) := by decide +kernel
theorem q_288_140 : js_I 288 140 = some (.getfield 443, 3) := by decide +kernel
theorem q_288_143 : js_I 288 143 = some (.if_icmp .ge 26, 3) := by decide +kernel
theorem q_288_146 : js_I 288 146 = some (.aload_n 0, 1) := by decide +kernel
theorem q_288_147 : js_I 288 147 = some (.getfield 410, 3) := by decide +kernel
theorem q_288_150 : js_I 288 150 = some (.iload 9, 2) := by decide +kernel
theorem q_288_152 : js_I 288 152 = some (.aload_n 0, 1) := by decide +kernel
theorem q_288_153 : js_I 288 153 = some (.getfield 392, 3) := by decide +kernel
theorem q_288_156 : js_I 288 156 = some (.iload 7, 2) := by decide +kernel
theorem q_288_158 : js_I 288 158 = some (.iload 9, 2) := by decide +kernel
theorem q_288_160 : js_I 288 160 = some (.iadd, 1) := by decide +kernel
theorem q_288_161 : js_I 288 161 = some (.iaload, 1) := by decide +kernel
theorem q_288_162 : js_I 288 162 = some (.iastore, 1) := by decide +kernel
theorem q_288_163 : js_I 288 163 = some (.iinc 9 1, 3) := by decide +kernel
theorem q_288_166 : js_I 288 166 = some (.goto (-29), 3) := by decide +kernel
theorem q_288_169 : js_I 288 169 = some (.aload_n 0, 1) := by decide +kernel
theorem q_288_170 : js_I 288 170 = some (.iload 5, 2) := by decide +kernel
theorem q_288_172 : js_I 288 172 = some (.iload 6, 2) := by decide +kernel
theorem q_288_174 : js_I 288 174 = some (.invokevirtual 652, 3) := by decide +kernel
theorem q_288_177 : js_I 288 177 = some (.iconst 0, 1) := by decide +kernel
theorem q_288_178 : js_I 288 178 = some (.istore 9, 2) := by decide +kernel
theorem q_288_180 : js_I 288 180 = some (.iconst 0, 1) := by decide +kernel
theorem q_288_181 : js_I 288 181 = some (.istore 10, 2) := by decide +kernel
theorem q_288_183 : js_I 288 183 = some (.iload 10, 2) := by decide +kernel
theorem q_288_185 : js_I 288 185 = some (.bipush 64, 2) := by decide +kernel
theorem q_288_187 : js_I 288 187 = some (.if_icmp .ge 125, 3) := by decide +kernel
theorem q_288_190 : js_I 288 190 = some (.iload 8, 2) := by decide +kernel
theorem q_288_192 : js_I 288 192 = some (.ifCond .eq 120, 3) := by decide +kernel
theorem q_288_195 : js_I 288 195 = some (.aload_n 0, 1) := by decide +kernel
theorem q_288_196 : js_I 288 196 = some (.iload_n 1, 1) := by decide +kernel
theorem q_288_197 : js_I 288 197 = some (.iload_n 2, 1) := by decide +kernel
theorem q_288_198 : js_I 288 198 = some (.iload 10, 2) := by decide +kernel
theorem q_288_200 : js_I 288 200 = some (.iload_n 3, 1) := by decide +kernel
theorem q_288_201 : js_I 288 201 = some (.invokevirtual 655, 3) := by decide +kernel
theorem q_288_204 : js_I 288 204 = some (.pop, 1) := by decide +kernel
theorem q_288_205 : js_I 288 205 = some (.aload_n 0, 1) := by decide +kernel
theorem q_288_206 : js_I 288 206 = some (.invokevirtual 634, 3) := by decide +kernel
theorem q_288_209 : js_I 288 209 = some (.aload_n 0, 1) := by decide +kernel
theorem q_288_210 : js_I 288 210 = some (.getfield 585, 3) := by decide +kernel
theorem q_288_213 : js_I 288 213 = some (.istore 11, 2) := by decide +kernel
theorem q_288_215 : js_I 288 215 = some (.iconst 1, 1) := by decide +kernel
theorem q_288_216 : js_I 288 216 = some (.istore 12, 2) := by decide +kernel
theorem q_288_218 : js_I 288 218 = some (.iconst 0, 1) := by decide +kernel
theorem q_288_219 : js_I 288 219 = some (.istore 13, 2) := by decide +kernel
theorem q_288_221 : js_I 288 221 = some (.iload 13, 2) := by decide +kernel
theorem q_288_223 : js_I 288 223 = some (.aload_n 0, 1) := by decide +kernel
theorem q_288_224 : js_I 288 224 = some (.getfield 443, 3) := by decide +kernel
theorem q_288_227 : js_I 288 227 = some (.if_icmp .ge 41, 3) := by decide +kernel
theorem q_288_230 : js_I 288 230 = some (.iload 12, 2) := by decide +kernel
theorem q_288_232 : js_I 288 232 = some (.ifCond .eq 27, 3) := by decide +kernel
theorem q_288_235 : js_I 288 235 = some (.aload_n 0, 1) := by decide +kernel
theorem q_288_236 : js_I 288 236 = some (.getfield 392, 3) := by decide +kernel
theorem q_288_239 : js_I 288 239 = some (.iload 7, 2) := by decide +kernel
theorem q_288_241 : js_I 288 241 = some (.iload 13, 2) := by decide +kernel
theorem q_288_243 : js_I 288 243 = some (.iadd, 1) := by decide +kernel
theorem q_288_244 : js_I 288 244 = some (.iaload, 1) := by decide +kernel
theorem q_288_245 : js_I 288 245 = some (.aload_n 0, 1) := by decide +kernel
theorem q_288_246 : js_I 288 246 = some (.getfield 410, 3) := by decide +kernel
theorem q_288_249 : js_I 288 249 = some (.iload 13, 2) := by decide +kernel
theorem q_288_251 : js_I 288 251 = some (.iaload, 1) := by decide +kernel
theorem q_288_252 : js_I 288 252 = some (.if_icmp .ne 7, 3) := by decide +kernel
theorem q_288_255 : js_I 288 255 = some (.iconst 1, 1) := by decide +kernel
theorem q_288_256 : js_I 288 256 = some (.goto 4, 3) := by decide +kernel
theorem q_288_268 : js_I 288 268 = some (.iload 11, 2) := by decide +kernel
theorem q_288_270 : js_I 288 270 = some (.ifCond .ne 11, 3) := by decide +kernel
theorem q_288_273 : js_I 288 273 = some (.iload 12, 2) := by decide +kernel
theorem q_288_275 : js_I 288 275 = some (.ifCond .ne 6, 3) := by decide +kernel
theorem q_288_278 : js_I 288 278 = some (.iconst 4, 1) := by decide +kernel
theorem q_288_279 : js_I 288 279 = some (.istore 11, 2) := by decide +kernel
theorem q_288_259 : js_I 288 259 = some (.iconst 0, 1) := by decide +kernel
theorem q_288_260 : js_I 288 260 = some (.istore 12, 2) := by decide +kernel
theorem q_288_262 : js_I 288 262 = some (.iinc 13 1, 3) := by decide +kernel
theorem q_288_265 : js_I 288 265 = some (.goto (-44), 3) := by decide +kernel
theorem q_288_281 : js_I 288 281 = some (.iload 9, 2) := by decide +kernel
theorem q_288_283 : js_I 288 283 = some (.iload 11, 2) := by decide +kernel
theorem q_288_285 : js_I 288 285 = some (.iload 4, 2) := by decide +kernel
theorem q_288_287 : js_I 288 287 = some (.if_icmp .ne 7, 3) := by decide +kernel
theorem q_288_290 : js_I 288 290 = some (.iconst 1, 1) := by decide +kernel
theorem q_288_291 : js_I 288 291 = some (.goto 4, 3) := by decide +kernel
theorem q_288_294 : js_I 288 294 = some (.iconst 0, 1) := by decide +kernel
theorem q_288_295 : js_I 288 295 = some (.iadd, 1) := by decide +kernel
theorem q_288_296 : js_I 288 296 = some (.istore 9, 2) := by decide +kernel
theorem q_288_298 : js_I 288 298 = some (.aload_n 0, 1) := by decide +kernel
theorem q_288_299 : js_I 288 299 = some (.iload 5, 2) := by decide +kernel
theorem q_288_301 : js_I 288 301 = some (.iload 6, 2) := by decide +kernel
theorem q_288_303 : js_I 288 303 = some (.invokevirtual 652, 3) := by decide +kernel
theorem q_288_306 : js_I 288 306 = some (.iinc 10 1, 3) := by decide +kernel
theorem q_288_309 : js_I 288 309 = some (.goto (-126), 3) := by decide +kernel
theorem q_288_312 : js_I 288 312 = some (.iconst 0, 1) := by decide +kernel
theorem q_288_313 : js_I 288 313 = some (.istore 10, 2) := by decide +kernel
theorem q_288_315 : js_I 288 315 = some (.iload 10, 2) := by decide +kernel
theorem q_288_317 : js_I 288 317 = some (.aload_n 0, 1) := by decide +kernel
theorem q_288_318 : js_I 288 318 = some (.getfield 443, 3) := by decide +kernel
theorem q_288_321 : js_I 288 321 = some (.if_icmp .ge 26, 3) := by decide +kernel
theorem q_288_324 : js_I 288 324 = some (.aload_n 0, 1) := by decide +kernel
theorem q_288_325 : js_I 288 325 = some (.getfield 392, 3) := by decide +kernel
theorem q_288_328 : js_I 288 328 = some (.iload 7, 2) := by decide +kernel
theorem q_288_330 : js_I 288 330 = some (.iload 10, 2) := by decide +kernel
theorem q_288_332 : js_I 288 332 = some (.iadd, 1) := by decide +kernel
theorem q_288_333 : js_I 288 333 = some (.aload_n 0, 1) := by decide +kernel
theorem q_288_334 : js_I 288 334 = some (.getfield 413, 3) := by decide +kernel
theorem q_288_337 : js_I 288 337 = some (.iload 10, 2) := by decide +kernel
theorem q_288_339 : js_I 288 339 = some (.iaload, 1) := by decide +kernel
theorem q_288_340 : js_I 288 340 = some (.iastore, 1) := by decide +kernel
theorem q_288_341 : js_I 288 341 = some (.iinc 10 1, 3) := by decide +kernel
theorem q_288_344 : js_I 288 344 = some (.goto (-29), 3) := by decide +kernel
theorem q_288_347 : js_I 288 347 = some (.iload 8, 2) := by decide +kernel
theorem q_288_349 : js_I 288 349 = some (.ifCond .eq 8, 3) := by decide +kernel
theorem q_288_357 : js_I 288 357 = some (.iconst (-1), 1) := by decide +kernel
theorem q_288_358 : js_I 288 358 = some (.ireturn, 1) := by decide +kernel
theorem q_288_352 : js_I 288 352 = some (.iload 9, 2) := by decide +kernel
theorem q_288_354 : js_I 288 354 = some (.goto 4, 3) := by decide +kernel
theorem q_289_0 : js_I 289 0 = some (.iconst 0, 1) := by decide +kernel
theorem q_289_1 : js_I 289 1 = some (.istore_n 1, 1) := by decide +kernel
theorem q_289_2 : js_I 289 2 = some (.iload_n 1, 1) := by decide +kernel
theorem q_289_3 : js_I 289 3 = some (.sipush 8192, 3) := by decide +kernel
theorem q_289_6 : js_I 289 6 = some (.if_icmp .ge 21, 3) := by decide +kernel
theorem q_289_9 : js_I 289 9 = some (.aload_n 0, 1) := by decide +kernel
theorem q_289_10 : js_I 289 10 = some (.getfield 407, 3) := by decide +kernel
theorem q_289_13 : js_I 289 13 = some (.iload_n 1, 1) := by decide +kernel
theorem q_289_14 : js_I 289 14 = some (.aload_n 0, 1) := by decide +kernel
theorem q_289_15 : js_I 289 15 = some (.getfield 374, 3) := by decide +kernel
theorem q_289_18 : js_I 289 18 = some (.iload_n 1, 1) := by decide +kernel
theorem q_289_19 : js_I 289 19 = some (.laload, 1) := by decide +kernel
theorem q_289_20 : js_I 289 20 = some (.lastore, 1) := by decide +kernel
theorem q_289_21 : js_I 289 21 = some (.iinc 1 1, 3) := by decide +kernel
theorem q_289_24 : js_I 289 24 = some (.goto (-22), 3) := by decide +kernel
theorem q_289_27 : js_I 289 27 = some (.iconst 0, 1) := by decide +kernel
theorem q_289_28 : js_I 289 28 = some (.istore_n 1, 1) := by decide +kernel
theorem q_289_29 : js_I 289 29 = some (.iload_n 1, 1) := by decide +kernel
theorem q_289_30 : js_I 289 30 = some (.iconst 2, 1) := by decide +kernel
theorem q_289_31 : js_I 289 31 = some (.if_icmp .ge 41, 3) := by decide +kernel
theorem q_289_34 : js_I 289 34 = some (.aload_n 0, 1) := by decide +kernel
theorem q_289_35 : js_I 289 35 = some (.getfield 407, 3) := by decide +kernel
theorem q_289_38 : js_I 289 38 = some (.sipush 8192, 3) := by decide +kernel
theorem q_289_41 : js_I 289 41 = some (.iload_n 1, 1) := by decide +kernel
theorem q_289_42 : js_I 289 42 = some (.iadd, 1) := by decide +kernel
theorem q_289_43 : js_I 289 43 = some (.aload_n 0, 1) := by decide +kernel
theorem q_289_44 : js_I 289 44 = some (.getfield 377, 3) := by decide +kernel
theorem q_289_47 : js_I 289 47 = some (.iload_n 1, 1) := by decide +kernel
theorem q_289_48 : js_I 289 48 = some (.laload, 1) := by decide +kernel
theorem q_289_49 : js_I 289 49 = some (.lastore, 1) := by decide +kernel
theorem q_289_50 : js_I 289 50 = some (.aload_n 0, 1) := by decide +kernel
theorem q_289_51 : js_I 289 51 = some (.getfield 407, 3) := by decide +kernel
theorem q_289_54 : js_I 289 54 = some (.sipush 8194, 3) := by decide +kernel
theorem q_289_57 : js_I 289 57 = some (.iload_n 1, 1) := by decide +kernel
theorem q_289_58 : js_I 289 58 = some (.iadd, 1) := by decide +kernel
theorem q_289_59 : js_I 289 59 = some (.aload_n 0, 1) := by decide +kernel
theorem q_289_60 : js_I 289 60 = some (.getfield 380, 3) := by decide +kernel
theorem q_289_63 : js_I 289 63 = some (.iload_n 1, 1) := by decide +kernel
theorem q_289_64 : js_I 289 64 = some (.laload, 1) := by decide +kernel
theorem q_289_65 : js_I 289 65 = some (.lastore, 1) := by decide +kernel
theorem q_289_66 : js_I 289 66 = some (.iinc 1 1, 3) := by decide +kernel
theorem q_289_69 : js_I 289 69 = some (.goto (-40), 3) := by decide +kernel
theorem q_289_72 : js_I 289 72 = some (.return_, 1) := by decide +kernel
theorem q_290_0 : js_I 290 0 = some (.iconst 0, 1) := by decide +kernel
theorem q_290_1 : js_I 290 1 = some (.istore_n 3, 1) := by decide +kernel
theorem q_290_2 : js_I 290 2 = some (.iload_n 3, 1) := by decide +kernel
theorem q_290_3 : js_I 290 3 = some (.sipush 8192, 3) := by decide +kernel
theorem q_290_6 : js_I 290 6 = some (.if_icmp .ge 21, 3) := by decide +kernel
theorem q_290_9 : js_I 290 9 = some (.aload_n 0, 1) := by decide +kernel
theorem q_290_10 : js_I 290 10 = some (.getfield 374, 3) := by decide +kernel
theorem q_290_13 : js_I 290 13 = some (.iload_n 3, 1) := by decide +kernel
theorem q_290_14 : js_I 290 14 = some (.aload_n 0, 1) := by decide +kernel
theorem q_290_15 : js_I 290 15 = some (.getfield 407, 3) := by decide +kernel
theorem q_290_18 : js_I 290 18 = some (.iload_n 3, 1) := by decide +kernel
theorem q_290_19 : js_I 290 19 = some (.laload, 1) := by decide +kernel
theorem q_290_20 : js_I 290 20 = some (.lastore, 1) := by decide +kernel
theorem q_290_21 : js_I 290 21 = some (.iinc 3 1, 3) := by decide +kernel
theorem q_290_24 : js_I 290 24 = some (.goto (-22), 3) := by decide +kernel
theorem q_290_27 : js_I 290 27 = some (.iconst 0, 1) := by decide +kernel
theorem q_290_28 : js_I 290 28 = some (.istore_n 3, 1) := by decide +kernel
theorem q_290_29 : js_I 290 29 = some (.iload_n 3, 1) := by decide +kernel
theorem q_290_30 : js_I 290 30 = some (.iconst 2, 1) := by decide +kernel
theorem q_290_31 : js_I 290 31 = some (.if_icmp .ge 41, 3) := by decide +kernel
theorem q_290_34 : js_I 290 34 = some (.aload_n 0, 1) := by decide +kernel
theorem q_290_35 : js_I 290 35 = some (.getfield 377, 3) := by decide +kernel
theorem q_290_38 : js_I 290 38 = some (.iload_n 3, 1) := by decide +kernel
theorem q_290_39 : js_I 290 39 = some (.aload_n 0, 1) := by decide +kernel
theorem q_290_40 : js_I 290 40 = some (.getfield 407, 3) := by decide +kernel
theorem q_290_43 : js_I 290 43 = some (.sipush 8192, 3) := by decide +kernel
theorem q_290_46 : js_I 290 46 = some (.iload_n 3, 1) := by decide +kernel
theorem q_290_47 : js_I 290 47 = some (.iadd, 1) := by decide +kernel
theorem q_290_48 : js_I 290 48 = some (.laload, 1) := by decide +kernel
theorem q_290_49 : js_I 290 49 = some (.lastore, 1) := by decide +kernel
theorem q_290_50 : js_I 290 50 = some (.aload_n 0, 1) := by decide +kernel
theorem q_290_51 : js_I 290 51 = some (.getfield 380, 3) := by decide +kernel
theorem q_290_54 : js_I 290 54 = some (.iload_n 3, 1) := by decide +kernel
theorem q_290_55 : js_I 290 55 = some (.aload_n 0, 1) := by decide +kernel
theorem q_290_56 : js_I 290 56 = some (.getfield 407, 3) := by decide +kernel
theorem q_290_59 : js_I 290 59 = some (.sipush 8194, 3) := by decide +kernel
theorem q_290_62 : js_I 290 62 = some (.iload_n 3, 1) := by decide +kernel
theorem q_290_63 : js_I 290 63 = some (.iadd, 1) := by decide +kernel
theorem q_290_64 : js_I 290 64 = some (.laload, 1) := by decide +kernel
theorem q_290_65 : js_I 290 65 = some (.lastore, 1) := by decide +kernel
theorem q_290_66 : js_I 290 66 = some (.iinc 3 1, 3) := by decide +kernel
theorem q_290_69 : js_I 290 69 = some (.goto (-40), 3) := by decide +kernel
theorem q_290_72 : js_I 290 72 = some (.aload_n 0, 1) := by decide +kernel
theorem q_290_73 : js_I 290 73 = some (.invokevirtual 597, 3) := by decide +kernel
theorem q_290_76 : js_I 290 76 = some (.aload_n 0, 1) := by decide +kernel
theorem q_290_77 : js_I 290 77 = some (.iconst 0, 1) := by decide +kernel
theorem q_290_78 : js_I 290 78 = some (.putfield 585, 3) := by decide +kernel
theorem q_290_81 : js_I 290 81 = some (.aload_n 0, 1) := by decide +kernel
theorem q_290_82 : js_I 290 82 = some (.iload_n 1, 1) := by decide +kernel
theorem q_290_83 : js_I 290 83 = some (.putfield 588, 3) := by decide +kernel
theorem q_290_86 : js_I 290 86 = some (.aload_n 0, 1) := by decide +kernel
theorem q_290_87 : js_I 290 87 = some (.iload_n 2, 1) := by decide +kernel
theorem q_290_88 : js_I 290 88 = some (.putfield 591, 3) := by decide +kernel
theorem q_290_91 : js_I 290 91 = some (.return_, 1) := by decide +kernel
theorem qf_12_637 : ip_lk (vt_FL.getD 12 []) 637 = some (12, 90) := by decide +kernel
theorem qf_12_413 : ip_lk (vt_FL.getD 12 []) 413 = some (12, 93) := by decide +kernel
theorem qf_12_410 : ip_lk (vt_FL.getD 12 []) 410 = some (12, 92) := by decide +kernel
theorem qf_12_407 : ip_lk (vt_FL.getD 12 []) 407 = some (12, 91) := by decide +kernel
theorem qm_12_640 : ip_lk (vt_ML.getD 12 []) 640 = some (280, 2, 1, 12) := by decide +kernel
theorem qm_12_645 : ip_lk (vt_ML.getD 12 []) 645 = some (286, 2, 1, 12) := by decide +kernel
theorem qm_12_649 : ip_lk (vt_ML.getD 12 []) 649 = some (289, 0, 1, 12) := by decide +kernel
theorem qm_12_652 : ip_lk (vt_ML.getD 12 []) 652 = some (290, 2, 1, 12) := by decide +kernel
theorem qm_12_655 : ip_lk (vt_ML.getD 12 []) 655 = some (285, 4, 1, 12) := by decide +kernel
theorem qc_12_643 : ip_lk (vt_CL.getD 12 []) 643 = some (js_V (1, (-1))) := by decide +kernel
-- 279: VitalTwinModel.input (II)Z
theorem b_279_0 {E : js_E} {d : Nat} {σ : js_S} {x1 x2 : Int} : js_J E d 279 0 [(2, 83), (0, x1), (0, x2), (9, 0)] [] σ = (if js_w (σ 83 64) = 0 then js_J E d 279 32 [(2, 83), (0, x1), (0, x2), (9, 0)] [] (js_up σ 83 0 0) else (if js_w (σ 83 77) = 0 then (if js_w x1 < 0 then js_J E d 279 32 [(2, 83), (0, x1), (0, x2), (9, 0)] [] (js_up σ 83 0 0) else js_J E d 279 26 [(2, 83), (0, x1), (0, x2), (9, 0)] [(0, x1), (0, 1), (2, 83)] (js_up σ 83 0 0)) else js_J E d 279 32 [(2, 83), (0, x1), (0, x2), (9, 0)] [] (js_up σ 83 0 0))) :=
  (j_aload_n q_279_0 rfl).trans <| (j_iconst q_279_1).trans <| (j_putI (ji := 0) q_279_2 (js_Fo qy_279 qf_12_3) rfl js_o83 rfl rfl rfl).trans <| (j_aload_n q_279_5 rfl).trans <| (j_get (ji := 64) (v := (0, σ 83 64)) q_279_6 (js_Fo qy_279 qf_12_464) js_o83 rfl rfl rfl (congrArg (Prod.mk 0) ((js_up_ni _ (by decide))))).trans <| (j_ifeq (t := 32) q_279_9 rfl).trans (js_ite (rfl) ((j_aload_n q_279_12 rfl).trans <| (j_get (ji := 77) (v := (0, σ 83 77)) q_279_13 (js_Fo qy_279 qf_12_573) js_o83 rfl rfl rfl (congrArg (Prod.mk 0) ((js_up_ni _ (by decide))))).trans <| (j_ifne (t := 32) q_279_16 rfl).trans (js_ite ((j_iload_n q_279_19 rfl).trans <| (j_iflt (t := 32) q_279_20 rfl).trans (js_ite (rfl) ((j_aload_n q_279_23 rfl).trans <| (j_iconst q_279_24).trans <| (j_iload_n q_279_25 rfl).trans <| rfl))) (rfl))))
theorem k_279_26 {E : js_E} {d : Nat} {σ σ2 : js_S} {x1 x2 z1 z2 : Int} {v : Int} (hd : 1 ≤ d) (hz : js_J E (d - 1) 280 0 [(2, 83), (0, z1), (0, z2), (9, 0), (9, 0)] [] σ = js_r E (0, v) σ2) : js_J E d 279 26 [(2, 83), (0, x1), (0, x2), (9, 0)] [(0, z2), (0, z1), (2, 83)] σ = js_J E d 279 29 [(2, 83), (0, x1), (0, x2), (9, 0)] [(0, v)] σ2 :=
  j_call (m := 2) (js_caV q_279_26 (js_Mo qy_279 qm_12_640)) (js_agV (av := [(0, z1), (0, z2)]) (st := []) rfl rfl js_o83 rfl) rfl rfl (by rw [ql_280]; exact Nat.le_of_ble_eq_true rfl) (Nat.le_of_ble_eq_true rfl) hd hz
theorem b_279_29 {E : js_E} {d : Nat} {σ : js_S} {x1 x2 z0 : Int} : js_J E d 279 29 [(2, 83), (0, x1), (0, x2), (9, 0)] [(0, z0)] σ = js_J E d 279 33 [(2, 83), (0, x1), (0, x2), (9, 0)] [(0, z0)] σ :=
  (j_goto (t := 33) q_279_29 rfl).trans <| rfl
theorem b_279_32 {E : js_E} {d : Nat} {σ : js_S} {x1 x2 : Int} : js_J E d 279 32 [(2, 83), (0, x1), (0, x2), (9, 0)] [] σ = js_J E d 279 33 [(2, 83), (0, x1), (0, x2), (9, 0)] [(0, (-1))] σ :=
  (j_iconst q_279_32).trans <| rfl
theorem b_279_33 {E : js_E} {d : Nat} {σ : js_S} {x1 x2 z0 : Int} : js_J E d 279 33 [(2, 83), (0, x1), (0, x2), (9, 0)] [(0, z0)] σ = (if js_w z0 < 0 then js_r E (0, 0) σ else (if 0 ≤ js_w z0 ∧ js_w z0 < 400 then (if js_w x2 < js_w (σ 88 (js_w z0)) then js_r E (0, 0) σ else (if js_w (σ 89 (js_w z0)) < js_w x2 then js_r E (0, 0) σ else (if 0 ≤ js_w x1 ∧ js_w x1 < 4096 then js_r E (0, 1) (js_up σ 125 (js_w x1) x2) else none))) else none)) :=
  (j_istore_n (l2 := [(2, 83), (0, x1), (0, x2), (0, z0)]) q_279_33 rfl (Nat.le_of_ble_eq_true rfl)).trans <| (j_iload_n q_279_34 rfl).trans <| (j_iflt (t := 58) q_279_35 rfl).trans (js_ite ((j_iconst q_279_58).trans <| j_breturn0 q_279_59 qr_279) ((j_iload_n q_279_38 rfl).trans <| (j_aload_n q_279_39 rfl).trans <| (j_get (ji := 14) (v := (2, 88)) q_279_40 (js_Fo qy_279 qf_12_105) js_o83 rfl rfl rfl rfl).trans <| (j_iload_n q_279_43 rfl).trans <| (j_iaload q_279_44 js_o88).trans <| js_itp fun g0 => (j_cmplt (t := 58) q_279_45 rfl).trans (js_ite ((j_iconst q_279_58).trans <| j_breturn0 q_279_59 qr_279) ((j_iload_n q_279_48 rfl).trans <| (j_aload_n q_279_49 rfl).trans <| (j_get (ji := 15) (v := (2, 89)) q_279_50 (js_Fo qy_279 qf_12_108) js_o83 rfl rfl rfl rfl).trans <| (j_iload_n q_279_53 rfl).trans <| (j_iaload q_279_54 js_o89).trans <| (if_pos g0).trans <| (j_cmple (t := 60) q_279_55 rfl).trans (js_ite ((j_iconst q_279_58).trans <| j_breturn0 q_279_59 qr_279) ((j_aload_n q_279_60 rfl).trans <| (j_get (ji := 76) (v := (2, 125)) q_279_61 (js_Fo qy_279 qf_12_389) js_o83 rfl rfl rfl rfl).trans <| (j_iload_n q_279_64 rfl).trans <| (j_iload_n q_279_65 rfl).trans <| (j_iastore q_279_66 js_o125).trans <| js_itp fun g1 => (j_iconst q_279_67).trans <| j_breturn1 q_279_68 qr_279))))))
-- 280: VitalTwinModel.symbolAt (II)I
theorem b_280_0 {E : js_E} {d : Nat} {σ : js_S} {x1 x2 : Int} : js_J E d 280 0 [(2, 83), (0, x1), (0, x2), (9, 0), (9, 0)] [] σ = js_J E d 280 5 [(2, 83), (0, x1), (0, x2), (0, x2), (0, 0)] [] σ :=
  (j_iload_n q_280_0 rfl).trans <| (j_istore_n (l2 := [(2, 83), (0, x1), (0, x2), (0, x2), (9, 0)]) q_280_1 rfl (Nat.le_of_ble_eq_true rfl)).trans <| (j_iconst q_280_2).trans <| (j_istore (l2 := [(2, 83), (0, x1), (0, x2), (0, x2), (0, 0)]) q_280_3 rfl (Nat.le_of_ble_eq_true rfl)).trans <| rfl
theorem b_280_5 {E : js_E} {d : Nat} {σ : js_S} {x1 x2 x3 x4 : Int} : js_J E d 280 5 [(2, 83), (0, x1), (0, x2), (0, x3), (0, x4)] [] σ = (if js_w x4 < js_w (σ 83 11) then (if js_w x3 < 0 then js_r E (0, (-1)) σ else (if 0 ≤ js_w x4 ∧ js_w x4 < 400 then (if js_w (σ 86 (js_w x4)) = js_w x1 then (if js_w x3 < js_w (σ 91 (js_w x4)) then js_r E (0, x4) (js_up σ 83 90 x3) else js_J E d 280 61 [(2, 83), (0, x1), (0, x2), (0, x3 - (σ 91 (js_w x4))), (0, x4)] [] σ) else js_J E d 280 61 [(2, 83), (0, x1), (0, x2), (0, x3), (0, x4)] [] σ) else none)) else js_r E (0, (-1)) σ) :=
  (j_iload q_280_5 rfl).trans <| (j_aload_n q_280_7 rfl).trans <| (j_get (ji := 11) (v := (0, σ 83 11)) q_280_8 (js_Fo qy_280 qf_12_86) js_o83 rfl rfl rfl rfl).trans <| (j_cmpge (t := 67) q_280_11 rfl).trans (js_ite ((j_iload_n q_280_14 rfl).trans <| (j_iflt (t := 67) q_280_15 rfl).trans (js_ite ((j_iconst q_280_67).trans <| j_ireturn q_280_68 qr_280) ((j_aload_n q_280_18 rfl).trans <| (j_get (ji := 12) (v := (2, 86)) q_280_19 (js_Fo qy_280 qf_12_99) js_o83 rfl rfl rfl rfl).trans <| (j_iload q_280_22 rfl).trans <| (j_iaload q_280_24 js_o86).trans <| js_itp fun g0 => (j_iload_n q_280_25 rfl).trans <| (j_cmpeq (t := 32) q_280_26 rfl).trans (js_ite ((j_iload_n q_280_32 rfl).trans <| (j_aload_n q_280_33 rfl).trans <| (j_get (ji := 17) (v := (2, 91)) q_280_34 (js_Fo qy_280 qf_12_114) js_o83 rfl rfl rfl rfl).trans <| (j_iload q_280_37 rfl).trans <| (j_iaload q_280_39 js_o91).trans <| (if_pos g0).trans <| (j_cmpge (t := 51) q_280_40 rfl).trans (js_ite ((j_aload_n q_280_43 rfl).trans <| (j_iload_n q_280_44 rfl).trans <| (j_putI (ji := 90) q_280_45 (js_Fo qy_280 qf_12_637) rfl js_o83 rfl rfl rfl).trans <| (j_iload q_280_48 rfl).trans <| j_ireturn q_280_50 qr_280) ((j_iload_n q_280_51 rfl).trans <| (j_aload_n q_280_52 rfl).trans <| (j_get (ji := 17) (v := (2, 91)) q_280_53 (js_Fo qy_280 qf_12_114) js_o83 rfl rfl rfl rfl).trans <| (j_iload q_280_56 rfl).trans <| (j_iaload q_280_58 js_o91).trans <| (if_pos g0).trans <| (j_isub q_280_59).trans <| (j_istore_n (l2 := [(2, 83), (0, x1), (0, x2), (0, x3 - (σ 91 (js_w x4))), (0, x4)]) q_280_60 rfl (Nat.le_of_ble_eq_true rfl)).trans <| rfl))) ((j_goto (t := 61) q_280_29 rfl).trans <| rfl))))) ((j_iconst q_280_67).trans <| j_ireturn q_280_68 qr_280))
theorem b_280_61 {E : js_E} {d : Nat} {σ : js_S} {x1 x2 x3 x4 : Int} : js_J E d 280 61 [(2, 83), (0, x1), (0, x2), (0, x3), (0, x4)] [] σ = js_J E d 280 5 [(2, 83), (0, x1), (0, x2), (0, x3), (0, x4 + 1)] [] σ :=
  (j_iinc (l2 := [(2, 83), (0, x1), (0, x2), (0, x3), (0, x4 + 1)]) q_280_61 rfl rfl).trans <| (j_goto (t := 5) q_280_64 rfl).trans <| rfl
-- 281: VitalTwinModel.output (I)I
theorem b_281_0 {E : js_E} {d : Nat} {σ : js_S} {x1 : Int} : js_J E d 281 0 [(2, 83), (0, x1), (9, 0)] [] σ = (if js_w (σ 83 64) = 0 then js_J E d 281 20 [(2, 83), (0, x1), (9, 0)] [] σ else (if js_w x1 < 0 then js_J E d 281 20 [(2, 83), (0, x1), (9, 0)] [] σ else js_J E d 281 14 [(2, 83), (0, x1), (9, 0)] [(0, x1), (0, 2), (2, 83)] σ)) :=
  (j_aload_n q_281_0 rfl).trans <| (j_get (ji := 64) (v := (0, σ 83 64)) q_281_1 (js_Fo qy_281 qf_12_464) js_o83 rfl rfl rfl rfl).trans <| (j_ifeq (t := 20) q_281_4 rfl).trans (js_ite (rfl) ((j_iload_n q_281_7 rfl).trans <| (j_iflt (t := 20) q_281_8 rfl).trans (js_ite (rfl) ((j_aload_n q_281_11 rfl).trans <| (j_iconst q_281_12).trans <| (j_iload_n q_281_13 rfl).trans <| rfl))))
theorem k_281_14 {E : js_E} {d : Nat} {σ σ2 : js_S} {x1 z1 z2 : Int} {v : Int} (hd : 1 ≤ d) (hz : js_J E (d - 1) 280 0 [(2, 83), (0, z1), (0, z2), (9, 0), (9, 0)] [] σ = js_r E (0, v) σ2) : js_J E d 281 14 [(2, 83), (0, x1), (9, 0)] [(0, z2), (0, z1), (2, 83)] σ = js_J E d 281 17 [(2, 83), (0, x1), (9, 0)] [(0, v)] σ2 :=
  j_call (m := 2) (js_caV q_281_14 (js_Mo qy_281 qm_12_640)) (js_agV (av := [(0, z1), (0, z2)]) (st := []) rfl rfl js_o83 rfl) rfl rfl (by rw [ql_280]; exact Nat.le_of_ble_eq_true rfl) (Nat.le_of_ble_eq_true rfl) hd hz
theorem b_281_17 {E : js_E} {d : Nat} {σ : js_S} {x1 z0 : Int} : js_J E d 281 17 [(2, 83), (0, x1), (9, 0)] [(0, z0)] σ = js_J E d 281 21 [(2, 83), (0, x1), (9, 0)] [(0, z0)] σ :=
  (j_goto (t := 21) q_281_17 rfl).trans <| rfl
theorem b_281_20 {E : js_E} {d : Nat} {σ : js_S} {x1 : Int} : js_J E d 281 20 [(2, 83), (0, x1), (9, 0)] [] σ = js_J E d 281 21 [(2, 83), (0, x1), (9, 0)] [(0, (-1))] σ :=
  (j_iconst q_281_20).trans <| rfl
theorem b_281_21 {E : js_E} {d : Nat} {σ : js_S} {x1 z0 : Int} : js_J E d 281 21 [(2, 83), (0, x1), (9, 0)] [(0, z0)] σ = (if js_w z0 < 0 then js_J E d 281 32 [(2, 83), (0, x1), (0, z0)] [(0, 1), (2, 83)] σ else js_J E d 281 32 [(2, 83), (0, x1), (0, z0)] [(0, 0), (2, 83)] σ) :=
  (j_istore_n (l2 := [(2, 83), (0, x1), (0, z0)]) q_281_21 rfl (Nat.le_of_ble_eq_true rfl)).trans <| (j_aload_n q_281_22 rfl).trans <| (j_iload_n q_281_23 rfl).trans <| (j_ifge (t := 31) q_281_24 rfl).trans (js_ite ((j_iconst q_281_27).trans <| (j_goto (t := 32) q_281_28 rfl).trans <| rfl) ((j_iconst q_281_31).trans <| rfl))
theorem b_281_32 {E : js_E} {d : Nat} {σ : js_S} {x1 x2 z1 : Int} : js_J E d 281 32 [(2, 83), (0, x1), (0, x2)] [(0, z1), (2, 83)] σ = (if 0 < js_w z1 then js_r E (0, 0) (js_up σ 83 0 z1) else (if 0 < js_w (σ 83 81) then js_J E d 281 58 [(2, 83), (0, x1), (0, x2)] [] (js_up σ 83 0 z1) else (if js_w (σ 83 82) = 0 then js_J E d 281 58 [(2, 83), (0, x1), (0, x2)] [] (js_up σ 83 0 z1) else (if 0 ≤ js_w ((4096 * ((js_w ((σ 83 82) - 1)).tmod 16)) + x1) ∧ js_w ((4096 * ((js_w ((σ 83 82) - 1)).tmod 16)) + x1) < 65536 then js_r E (0, σ 126 (js_w ((4096 * ((js_w ((σ 83 82) - 1)).tmod 16)) + x1))) (js_up σ 83 0 z1) else none)))) :=
  (j_putI (ji := 0) q_281_32 (js_Fo qy_281 qf_12_3) rfl js_o83 rfl rfl rfl).trans <| (j_aload_n q_281_35 rfl).trans <| (j_get (ji := 0) (v := (0, z1)) q_281_36 (js_Fo qy_281 qf_12_3) js_o83 rfl rfl rfl (congrArg (Prod.mk 0) ((js_up_same _ _ _ _)))).trans <| (j_ifle (t := 44) q_281_39 rfl).trans (js_ite ((j_iconst q_281_42).trans <| j_ireturn q_281_43 qr_281) ((j_aload_n q_281_44 rfl).trans <| (j_get (ji := 81) (v := (0, σ 83 81)) q_281_45 (js_Fo qy_281 qf_12_585) js_o83 rfl rfl rfl (congrArg (Prod.mk 0) ((js_up_ni _ (by decide))))).trans <| (j_ifgt (t := 58) q_281_48 rfl).trans (js_ite (rfl) ((j_aload_n q_281_51 rfl).trans <| (j_get (ji := 82) (v := (0, σ 83 82)) q_281_52 (js_Fo qy_281 qf_12_588) js_o83 rfl rfl rfl (congrArg (Prod.mk 0) ((js_up_ni _ (by decide))))).trans <| (j_ifne (t := 67) q_281_55 rfl).trans (js_ite (rfl) ((j_aload_n q_281_67 rfl).trans <| (j_get (ji := 84) (v := (2, 126)) q_281_68 (js_Fo qy_281 qf_12_392) js_o83 rfl rfl rfl rfl).trans <| (j_si q_281_71 rfl).trans <| (j_aload_n q_281_74 rfl).trans <| (j_get (ji := 82) (v := (0, σ 83 82)) q_281_75 (js_Fo qy_281 qf_12_588) js_o83 rfl rfl rfl (congrArg (Prod.mk 0) ((js_up_ni _ (by decide))))).trans <| (j_iconst q_281_78).trans <| (j_isub q_281_79).trans <| (j_bi q_281_80 rfl).trans <| (j_iremk q_281_82 ww_16 (by decide)).trans <| (j_imul q_281_83).trans <| (j_iload_n q_281_84 rfl).trans <| (j_iadd q_281_85).trans <| (j_ialoadv q_281_86 js_o126 ((js_up_na _ (by decide)))).trans <| js_itp fun g0 => j_ireturn q_281_87 qr_281))))))
theorem b_281_58 {E : js_E} {d : Nat} {σ : js_S} {x1 x2 : Int} : js_J E d 281 58 [(2, 83), (0, x1), (0, x2)] [] σ = (if 0 ≤ js_w x2 ∧ js_w x2 < 400 then js_r E (0, σ 94 (js_w x2)) σ else none) :=
  (j_aload_n q_281_58 rfl).trans <| (j_get (ji := 20) (v := (2, 94)) q_281_59 (js_Fo qy_281 qf_12_126) js_o83 rfl rfl rfl rfl).trans <| (j_iload_n q_281_62 rfl).trans <| (j_iaload q_281_63 js_o94).trans <| js_itp fun g0 => (j_goto (t := 87) q_281_64 rfl).trans <| j_ireturn q_281_87 qr_281
-- 282: VitalTwinModel.past (II)I
theorem b_282_0 {E : js_E} {d : Nat} {σ : js_S} {x1 x2 : Int} : js_J E d 282 0 [(2, 83), (0, x1), (0, x2), (9, 0)] [] σ = (if js_w (σ 83 64) = 0 then js_J E d 282 41 [(2, 83), (0, x1), (0, x2), (9, 0)] [] σ else (if js_w x2 < 0 then js_J E d 282 41 [(2, 83), (0, x1), (0, x2), (9, 0)] [] σ else (if js_w x2 < js_w (σ 83 47) then (if js_w x1 < 0 then js_J E d 282 41 [(2, 83), (0, x1), (0, x2), (9, 0)] [] σ else (if js_w x1 < 16 then (if js_w x1 < js_w (σ 83 82) then js_J E d 282 42 [(2, 83), (0, x1), (0, x2), (9, 0)] [(0, 1)] σ else js_J E d 282 41 [(2, 83), (0, x1), (0, x2), (9, 0)] [] σ) else js_J E d 282 41 [(2, 83), (0, x1), (0, x2), (9, 0)] [] σ)) else js_J E d 282 41 [(2, 83), (0, x1), (0, x2), (9, 0)] [] σ))) :=
  (j_aload_n q_282_0 rfl).trans <| (j_get (ji := 64) (v := (0, σ 83 64)) q_282_1 (js_Fo qy_282 qf_12_464) js_o83 rfl rfl rfl rfl).trans <| (j_ifeq (t := 41) q_282_4 rfl).trans (js_ite (rfl) ((j_iload_n q_282_7 rfl).trans <| (j_iflt (t := 41) q_282_8 rfl).trans (js_ite (rfl) ((j_iload_n q_282_11 rfl).trans <| (j_aload_n q_282_12 rfl).trans <| (j_get (ji := 47) (v := (0, σ 83 47)) q_282_13 (js_Fo qy_282 qf_12_443) js_o83 rfl rfl rfl rfl).trans <| (j_cmpge (t := 41) q_282_16 rfl).trans (js_ite ((j_iload_n q_282_19 rfl).trans <| (j_iflt (t := 41) q_282_20 rfl).trans (js_ite (rfl) ((j_iload_n q_282_23 rfl).trans <| (j_bi q_282_24 rfl).trans <| (j_cmpgeB (t := 41) q_282_26 rfl ww_16).trans (js_ite ((j_iload_n q_282_29 rfl).trans <| (j_aload_n q_282_30 rfl).trans <| (j_get (ji := 82) (v := (0, σ 83 82)) q_282_31 (js_Fo qy_282 qf_12_588) js_o83 rfl rfl rfl rfl).trans <| (j_cmpge (t := 41) q_282_34 rfl).trans (js_ite ((j_iconst q_282_37).trans <| (j_goto (t := 42) q_282_38 rfl).trans <| rfl) (rfl))) (rfl))))) (rfl))))))
theorem b_282_41 {E : js_E} {d : Nat} {σ : js_S} {x1 x2 : Int} : js_J E d 282 41 [(2, 83), (0, x1), (0, x2), (9, 0)] [] σ = js_J E d 282 42 [(2, 83), (0, x1), (0, x2), (9, 0)] [(0, 0)] σ :=
  (j_iconst q_282_41).trans <| rfl
theorem b_282_42 {E : js_E} {d : Nat} {σ : js_S} {x1 x2 z0 : Int} : js_J E d 282 42 [(2, 83), (0, x1), (0, x2), (9, 0)] [(0, z0)] σ = (if js_w z0 = 0 then js_J E d 282 53 [(2, 83), (0, x1), (0, x2), (0, z0)] [(0, 1), (2, 83)] σ else js_J E d 282 53 [(2, 83), (0, x1), (0, x2), (0, z0)] [(0, 0), (2, 83)] σ) :=
  (j_istore_n (l2 := [(2, 83), (0, x1), (0, x2), (0, z0)]) q_282_42 rfl (Nat.le_of_ble_eq_true rfl)).trans <| (j_aload_n q_282_43 rfl).trans <| (j_iload_n q_282_44 rfl).trans <| (j_ifeq (t := 52) q_282_45 rfl).trans (js_ite ((j_iconst q_282_52).trans <| rfl) ((j_iconst q_282_48).trans <| (j_goto (t := 53) q_282_49 rfl).trans <| rfl))
theorem b_282_53 {E : js_E} {d : Nat} {σ : js_S} {x1 x2 x3 z1 : Int} : js_J E d 282 53 [(2, 83), (0, x1), (0, x2), (0, x3)] [(0, z1), (2, 83)] σ = (if js_w x3 = 0 then js_r E (0, 0) (js_up σ 83 0 z1) else (if 0 ≤ js_w ((4096 * ((js_w (((σ 83 82) - 1) - x1)).tmod 16)) + x2) ∧ js_w ((4096 * ((js_w (((σ 83 82) - 1) - x1)).tmod 16)) + x2) < 65536 then js_r E (0, σ 126 (js_w ((4096 * ((js_w (((σ 83 82) - 1) - x1)).tmod 16)) + x2))) (js_up σ 83 0 z1) else none)) :=
  (j_putI (ji := 0) q_282_53 (js_Fo qy_282 qf_12_3) rfl js_o83 rfl rfl rfl).trans <| (j_iload_n q_282_56 rfl).trans <| (j_ifeq (t := 85) q_282_57 rfl).trans (js_ite ((j_iconst q_282_85).trans <| j_ireturn q_282_86 qr_282) ((j_aload_n q_282_60 rfl).trans <| (j_get (ji := 84) (v := (2, 126)) q_282_61 (js_Fo qy_282 qf_12_392) js_o83 rfl rfl rfl rfl).trans <| (j_si q_282_64 rfl).trans <| (j_aload_n q_282_67 rfl).trans <| (j_get (ji := 82) (v := (0, σ 83 82)) q_282_68 (js_Fo qy_282 qf_12_588) js_o83 rfl rfl rfl (congrArg (Prod.mk 0) ((js_up_ni _ (by decide))))).trans <| (j_iconst q_282_71).trans <| (j_isub q_282_72).trans <| (j_iload_n q_282_73 rfl).trans <| (j_isub q_282_74).trans <| (j_bi q_282_75 rfl).trans <| (j_iremk q_282_77 ww_16 (by decide)).trans <| (j_imul q_282_78).trans <| (j_iload_n q_282_79 rfl).trans <| (j_iadd q_282_80).trans <| (j_ialoadv q_282_81 js_o126 ((js_up_na _ (by decide)))).trans <| js_itp fun g0 => (j_goto (t := 86) q_282_82 rfl).trans <| j_ireturn q_282_86 qr_282))
-- 283: VitalTwinModel.cell (II)J
theorem b_283_0 {E : js_E} {d : Nat} {σ : js_S} {x1 x2 : Int} : js_J E d 283 0 [(2, 83), (0, x1), (0, x2), (9, 0)] [] σ = (if js_w (σ 83 64) = 0 then js_J E d 283 32 [(2, 83), (0, x1), (0, x2), (9, 0)] [] σ else (if js_w x1 < 0 then js_J E d 283 32 [(2, 83), (0, x1), (0, x2), (9, 0)] [] σ else (if js_w x1 < 2 then (if js_w x2 < 0 then js_J E d 283 32 [(2, 83), (0, x1), (0, x2), (9, 0)] [] σ else (if js_w x2 < js_w (σ 83 48) then js_J E d 283 33 [(2, 83), (0, x1), (0, x2), (9, 0)] [(0, 1)] σ else js_J E d 283 32 [(2, 83), (0, x1), (0, x2), (9, 0)] [] σ)) else js_J E d 283 32 [(2, 83), (0, x1), (0, x2), (9, 0)] [] σ))) :=
  (j_aload_n q_283_0 rfl).trans <| (j_get (ji := 64) (v := (0, σ 83 64)) q_283_1 (js_Fo qy_283 qf_12_464) js_o83 rfl rfl rfl rfl).trans <| (j_ifeq (t := 32) q_283_4 rfl).trans (js_ite (rfl) ((j_iload_n q_283_7 rfl).trans <| (j_iflt (t := 32) q_283_8 rfl).trans (js_ite (rfl) ((j_iload_n q_283_11 rfl).trans <| (j_iconst q_283_12).trans <| (j_cmpgeB (t := 32) q_283_13 rfl ww_2).trans (js_ite ((j_iload_n q_283_16 rfl).trans <| (j_iflt (t := 32) q_283_17 rfl).trans (js_ite (rfl) ((j_iload_n q_283_20 rfl).trans <| (j_aload_n q_283_21 rfl).trans <| (j_get (ji := 48) (v := (0, σ 83 48)) q_283_22 (js_Fo qy_283 qf_12_437) js_o83 rfl rfl rfl rfl).trans <| (j_cmpge (t := 32) q_283_25 rfl).trans (js_ite ((j_iconst q_283_28).trans <| (j_goto (t := 33) q_283_29 rfl).trans <| rfl) (rfl))))) (rfl))))))
theorem b_283_32 {E : js_E} {d : Nat} {σ : js_S} {x1 x2 : Int} : js_J E d 283 32 [(2, 83), (0, x1), (0, x2), (9, 0)] [] σ = js_J E d 283 33 [(2, 83), (0, x1), (0, x2), (9, 0)] [(0, 0)] σ :=
  (j_iconst q_283_32).trans <| rfl
theorem b_283_33 {E : js_E} {d : Nat} {σ : js_S} {x1 x2 z0 : Int} : js_J E d 283 33 [(2, 83), (0, x1), (0, x2), (9, 0)] [(0, z0)] σ = (if js_w z0 = 0 then js_J E d 283 44 [(2, 83), (0, x1), (0, x2), (0, z0)] [(0, 1), (2, 83)] σ else js_J E d 283 44 [(2, 83), (0, x1), (0, x2), (0, z0)] [(0, 0), (2, 83)] σ) :=
  (j_istore_n (l2 := [(2, 83), (0, x1), (0, x2), (0, z0)]) q_283_33 rfl (Nat.le_of_ble_eq_true rfl)).trans <| (j_aload_n q_283_34 rfl).trans <| (j_iload_n q_283_35 rfl).trans <| (j_ifeq (t := 43) q_283_36 rfl).trans (js_ite ((j_iconst q_283_43).trans <| rfl) ((j_iconst q_283_39).trans <| (j_goto (t := 44) q_283_40 rfl).trans <| rfl))
theorem b_283_44 {E : js_E} {d : Nat} {σ : js_S} {x1 x2 x3 z1 : Int} : js_J E d 283 44 [(2, 83), (0, x1), (0, x2), (0, x3)] [(0, z1), (2, 83)] σ = (if js_w x3 = 0 then js_r E (1, 0) (js_up σ 83 0 z1) else (if 0 ≤ js_w ((4096 * x1) + x2) ∧ js_w ((4096 * x1) + x2) < 8192 then js_r E (1, σ 120 (js_w ((4096 * x1) + x2))) (js_up σ 83 0 z1) else none)) :=
  (j_putI (ji := 0) q_283_44 (js_Fo qy_283 qf_12_3) rfl js_o83 rfl rfl rfl).trans <| (j_iload_n q_283_47 rfl).trans <| (j_ifeq (t := 66) q_283_48 rfl).trans (js_ite ((j_lconst0 q_283_66).trans <| j_lreturn q_283_67 qr_283) ((j_aload_n q_283_51 rfl).trans <| (j_get (ji := 71) (v := (2, 120)) q_283_52 (js_Fo qy_283 qf_12_374) js_o83 rfl rfl rfl rfl).trans <| (j_si q_283_55 rfl).trans <| (j_iload_n q_283_58 rfl).trans <| (j_imul q_283_59).trans <| (j_iload_n q_283_60 rfl).trans <| (j_iadd q_283_61).trans <| (j_laloadv q_283_62 js_o120 ((js_up_na _ (by decide)))).trans <| js_itp fun g0 => (j_goto (t := 67) q_283_63 rfl).trans <| j_lreturn q_283_67 qr_283))
-- 284: VitalTwinModel.register (II)J
theorem b_284_0 {E : js_E} {d : Nat} {σ : js_S} {x1 x2 : Int} : js_J E d 284 0 [(2, 83), (0, x1), (0, x2), (9, 0)] [] σ = (if js_w x1 < 0 then js_J E d 284 19 [(2, 83), (0, x1), (0, x2), (9, 0)] [(2, 83)] σ else (if 1 < js_w x1 then js_J E d 284 19 [(2, 83), (0, x1), (0, x2), (9, 0)] [(2, 83)] σ else (if js_w x2 < 0 then js_J E d 284 19 [(2, 83), (0, x1), (0, x2), (9, 0)] [(2, 83)] σ else (if 3 < js_w x2 then js_J E d 284 19 [(2, 83), (0, x1), (0, x2), (9, 0)] [(2, 83)] σ else js_J E d 284 24 [(2, 83), (0, x1), (0, x2), (9, 0)] [(0, 0), (2, 83)] σ)))) :=
  (j_aload_n q_284_0 rfl).trans <| (j_iload_n q_284_1 rfl).trans <| (j_iflt (t := 19) q_284_2 rfl).trans (js_ite (rfl) ((j_iload_n q_284_5 rfl).trans <| (j_iconst q_284_6).trans <| (j_cmpgtB (t := 19) q_284_7 rfl ww_1).trans (js_ite (rfl) ((j_iload_n q_284_10 rfl).trans <| (j_iflt (t := 19) q_284_11 rfl).trans (js_ite (rfl) ((j_iload_n q_284_14 rfl).trans <| (j_iconst q_284_15).trans <| (j_cmpleB (t := 23) q_284_16 rfl ww_3).trans (js_ite (rfl) ((j_iconst q_284_23).trans <| rfl))))))))
theorem b_284_19 {E : js_E} {d : Nat} {σ : js_S} {x1 x2 : Int} : js_J E d 284 19 [(2, 83), (0, x1), (0, x2), (9, 0)] [(2, 83)] σ = js_J E d 284 24 [(2, 83), (0, x1), (0, x2), (9, 0)] [(0, 1), (2, 83)] σ :=
  (j_iconst q_284_19).trans <| (j_goto (t := 24) q_284_20 rfl).trans <| rfl
theorem b_284_24 {E : js_E} {d : Nat} {σ : js_S} {x1 x2 z1 : Int} : js_J E d 284 24 [(2, 83), (0, x1), (0, x2), (9, 0)] [(0, z1), (2, 83)] σ = (if 0 < js_w z1 then js_r E (1, 0) (js_up σ 83 0 z1) else (if js_w (σ 83 77) = js_w (x1 + 1) then js_J E d 284 51 [(2, 83), (0, x1), (0, x2), (9, 0)] [(0, 1)] (js_up σ 83 0 z1) else js_J E d 284 51 [(2, 83), (0, x1), (0, x2), (9, 0)] [(0, 0)] (js_up σ 83 0 z1))) :=
  (j_putI (ji := 0) q_284_24 (js_Fo qy_284 qf_12_3) rfl js_o83 rfl rfl rfl).trans <| (j_aload_n q_284_27 rfl).trans <| (j_get (ji := 0) (v := (0, z1)) q_284_28 (js_Fo qy_284 qf_12_3) js_o83 rfl rfl rfl (congrArg (Prod.mk 0) ((js_up_same _ _ _ _)))).trans <| (j_ifle (t := 36) q_284_31 rfl).trans (js_ite ((j_lconst0 q_284_34).trans <| j_lreturn q_284_35 qr_284) ((j_aload_n q_284_36 rfl).trans <| (j_get (ji := 77) (v := (0, σ 83 77)) q_284_37 (js_Fo qy_284 qf_12_573) js_o83 rfl rfl rfl (congrArg (Prod.mk 0) ((js_up_ni _ (by decide))))).trans <| (j_iload_n q_284_40 rfl).trans <| (j_iconst q_284_41).trans <| (j_iadd q_284_42).trans <| (j_cmpne (t := 50) q_284_43 rfl).trans (js_ite ((j_iconst q_284_46).trans <| (j_goto (t := 51) q_284_47 rfl).trans <| rfl) ((j_iconst q_284_50).trans <| rfl))))
theorem b_284_51 {E : js_E} {d : Nat} {σ : js_S} {x1 x2 z0 : Int} : js_J E d 284 51 [(2, 83), (0, x1), (0, x2), (9, 0)] [(0, z0)] σ = (if js_w x2 = 0 then (if 0 ≤ js_w x1 ∧ js_w x1 < 2 then js_r E (1, σ 121 (js_w x1)) σ else none) else (if js_w x2 = 1 then (if 0 ≤ js_w x1 ∧ js_w x1 < 2 then js_r E (1, σ 122 (js_w x1)) σ else none) else (if js_w x2 = 2 then (if js_w z0 = 0 then js_r E (1, (-1)) σ else js_r E (1, js_w (σ 83 78)) σ) else (if js_w z0 = 0 then js_r E (1, 0) σ else (if 0 ≤ js_w x1 ∧ js_w x1 < 2 then js_r E (1, js_w (σ 124 (js_w x1))) σ else none))))) :=
  (j_istore_n (l2 := [(2, 83), (0, x1), (0, x2), (0, z0)]) q_284_51 rfl (Nat.le_of_ble_eq_true rfl)).trans <| (j_iload_n q_284_52 rfl).trans <| (j_ifne (t := 65) q_284_53 rfl).trans (js_ite ((j_aload_n q_284_56 rfl).trans <| (j_get (ji := 72) (v := (2, 121)) q_284_57 (js_Fo qy_284 qf_12_377) js_o83 rfl rfl rfl rfl).trans <| (j_iload_n q_284_60 rfl).trans <| (j_laload q_284_61 js_o121).trans <| js_itp fun g0 => (j_goto (t := 117) q_284_62 rfl).trans <| j_lreturn q_284_117 qr_284) ((j_iload_n q_284_65 rfl).trans <| (j_iconst q_284_66).trans <| (j_cmpneB (t := 79) q_284_67 rfl ww_1).trans (js_ite ((j_aload_n q_284_70 rfl).trans <| (j_get (ji := 73) (v := (2, 122)) q_284_71 (js_Fo qy_284 qf_12_380) js_o83 rfl rfl rfl rfl).trans <| (j_iload_n q_284_74 rfl).trans <| (j_laload q_284_75 js_o122).trans <| js_itp fun g0 => (j_goto (t := 117) q_284_76 rfl).trans <| j_lreturn q_284_117 qr_284) ((j_iload_n q_284_79 rfl).trans <| (j_iconst q_284_80).trans <| (j_cmpneB (t := 102) q_284_81 rfl ww_2).trans (js_ite ((j_iload_n q_284_84 rfl).trans <| (j_ifeq (t := 96) q_284_85 rfl).trans (js_ite ((j_ldc2 (v := (1, (-1))) q_284_96 (js_Co qy_284 qc_12_643)).trans <| (j_goto (t := 117) q_284_99 rfl).trans <| j_lreturn q_284_117 qr_284) ((j_aload_n q_284_88 rfl).trans <| (j_get (ji := 78) (v := (0, σ 83 78)) q_284_89 (js_Fo qy_284 qf_12_576) js_o83 rfl rfl rfl rfl).trans <| (j_i2l q_284_92).trans <| (j_goto (t := 117) q_284_93 rfl).trans <| j_lreturn q_284_117 qr_284))) ((j_iload_n q_284_102 rfl).trans <| (j_ifeq (t := 116) q_284_103 rfl).trans (js_ite ((j_lconst0 q_284_116).trans <| j_lreturn q_284_117 qr_284) ((j_aload_n q_284_106 rfl).trans <| (j_get (ji := 75) (v := (2, 124)) q_284_107 (js_Fo qy_284 qf_12_386) js_o83 rfl rfl rfl rfl).trans <| (j_iload_n q_284_110 rfl).trans <| (j_iaload q_284_111 js_o124).trans <| js_itp fun g0 => (j_i2l q_284_112).trans <| (j_goto (t := 117) q_284_113 rfl).trans <| j_lreturn q_284_117 qr_284))))))))
-- 285: VitalTwinModel.flip (IIII)Z
theorem b_285_0 {E : js_E} {d : Nat} {σ : js_S} {x1 x2 x3 x4 : Int} : js_J E d 285 0 [(2, 83), (0, x1), (0, x2), (0, x3), (0, x4)] [] σ = js_J E d 285 8 [(2, 83), (0, x1), (0, x2), (0, x3), (0, x4)] [(0, x2), (0, x1), (2, 83)] (js_up σ 83 0 0) :=
  (j_aload_n q_285_0 rfl).trans <| (j_iconst q_285_1).trans <| (j_putI (ji := 0) q_285_2 (js_Fo qy_285 qf_12_3) rfl js_o83 rfl rfl rfl).trans <| (j_aload_n q_285_5 rfl).trans <| (j_iload_n q_285_6 rfl).trans <| (j_iload_n q_285_7 rfl).trans <| rfl
theorem k_285_8 {E : js_E} {d : Nat} {σ σ2 : js_S} {x1 x2 x3 x4 z1 z2 : Int} {v : Int} (hd : 1 ≤ d) (hz : js_J E (d - 1) 286 0 [(2, 83), (0, z1), (0, z2)] [] σ = js_r E (0, v) σ2) : js_J E d 285 8 [(2, 83), (0, x1), (0, x2), (0, x3), (0, x4)] [(0, z2), (0, z1), (2, 83)] σ = js_J E d 285 11 [(2, 83), (0, x1), (0, x2), (0, x3), (0, x4)] [(0, v)] σ2 :=
  j_call (m := 0) (js_caV q_285_8 (js_Mo qy_285 qm_12_645)) (js_agV (av := [(0, z1), (0, z2)]) (st := []) rfl rfl js_o83 rfl) rfl rfl (by rw [ql_286]; exact Nat.le_of_ble_eq_true rfl) (Nat.le_of_ble_eq_true rfl) hd hz
theorem b_285_11 {E : js_E} {d : Nat} {σ : js_S} {x1 x2 x3 x4 z0 : Int} : js_J E d 285 11 [(2, 83), (0, x1), (0, x2), (0, x3), (0, x4)] [(0, z0)] σ = (if js_w z0 = 0 then js_r E (0, 0) σ else (if js_w x3 < 0 then js_r E (0, 0) σ else (if 63 < js_w x3 then js_r E (0, 0) σ else (if 0 < js_w (σ 83 81) then js_r E (0, 0) σ else (if js_w (σ 83 85) = 8 then js_r E (0, 0) σ else (if 0 < js_w (σ 83 77) then js_J E d 285 57 [(2, 83), (0, x1), (0, x2), (0, x3), (0, x4)] [(0, σ 83 79), (0, x4)] σ else js_J E d 285 57 [(2, 83), (0, x1), (0, x2), (0, x3), (0, x4)] [(0, 0), (0, x4)] σ)))))) :=
  (j_ifeq (t := 60) q_285_11 rfl).trans (js_ite ((j_iconst q_285_60).trans <| j_breturn0 q_285_61 qr_285) ((j_iload_n q_285_14 rfl).trans <| (j_iflt (t := 60) q_285_15 rfl).trans (js_ite ((j_iconst q_285_60).trans <| j_breturn0 q_285_61 qr_285) ((j_iload_n q_285_18 rfl).trans <| (j_bi q_285_19 rfl).trans <| (j_cmpgtB (t := 60) q_285_21 rfl ww_63).trans (js_ite ((j_iconst q_285_60).trans <| j_breturn0 q_285_61 qr_285) ((j_aload_n q_285_24 rfl).trans <| (j_get (ji := 81) (v := (0, σ 83 81)) q_285_25 (js_Fo qy_285 qf_12_585) js_o83 rfl rfl rfl rfl).trans <| (j_ifgt (t := 60) q_285_28 rfl).trans (js_ite ((j_iconst q_285_60).trans <| j_breturn0 q_285_61 qr_285) ((j_aload_n q_285_31 rfl).trans <| (j_get (ji := 85) (v := (0, σ 83 85)) q_285_32 (js_Fo qy_285 qf_12_594) js_o83 rfl rfl rfl rfl).trans <| (j_bi q_285_35 rfl).trans <| (j_cmpeqB (t := 60) q_285_37 rfl ww_8).trans (js_ite ((j_iconst q_285_60).trans <| j_breturn0 q_285_61 qr_285) ((j_iload q_285_40 rfl).trans <| (j_aload_n q_285_42 rfl).trans <| (j_get (ji := 77) (v := (0, σ 83 77)) q_285_43 (js_Fo qy_285 qf_12_573) js_o83 rfl rfl rfl rfl).trans <| (j_ifle (t := 56) q_285_46 rfl).trans (js_ite ((j_aload_n q_285_49 rfl).trans <| (j_get (ji := 79) (v := (0, σ 83 79)) q_285_50 (js_Fo qy_285 qf_12_579) js_o83 rfl rfl rfl rfl).trans <| (j_goto (t := 57) q_285_53 rfl).trans <| rfl) ((j_iconst q_285_56).trans <| rfl))))))))))))
theorem b_285_57 {E : js_E} {d : Nat} {σ : js_S} {x1 x2 x3 x4 z0 z1 : Int} : js_J E d 285 57 [(2, 83), (0, x1), (0, x2), (0, x3), (0, x4)] [(0, z1), (0, z0)] σ = (if js_w z0 < js_w z1 then js_r E (0, 0) σ else (if 0 ≤ js_w (σ 83 85) ∧ js_w (σ 83 85) < 8 then js_r E (0, 1) (js_up (js_up (js_up (js_up (js_up σ 127 (js_w (σ 83 85)) x1) 128 (js_w (σ 83 85)) x2) 129 (js_w (σ 83 85)) x3) 130 (js_w (σ 83 85)) x4) 83 85 ((σ 83 85) + 1)) else none)) :=
  (j_cmpge (t := 62) q_285_57 rfl).trans (js_ite ((j_iconst q_285_60).trans <| j_breturn0 q_285_61 qr_285) ((j_aload_n q_285_62 rfl).trans <| (j_get (ji := 86) (v := (2, 127)) q_285_63 (js_Fo qy_285 qf_12_395) js_o83 rfl rfl rfl rfl).trans <| (j_aload_n q_285_66 rfl).trans <| (j_get (ji := 85) (v := (0, σ 83 85)) q_285_67 (js_Fo qy_285 qf_12_594) js_o83 rfl rfl rfl rfl).trans <| (j_iload_n q_285_70 rfl).trans <| (j_iastore q_285_71 js_o127).trans <| js_itp fun g0 => (j_aload_n q_285_72 rfl).trans <| (j_get (ji := 87) (v := (2, 128)) q_285_73 (js_Fo qy_285 qf_12_398) js_o83 rfl rfl rfl rfl).trans <| (j_aload_n q_285_76 rfl).trans <| (j_get (ji := 85) (v := (0, σ 83 85)) q_285_77 (js_Fo qy_285 qf_12_594) js_o83 rfl rfl rfl (congrArg (Prod.mk 0) ((js_up_na _ (by decide))))).trans <| (j_iload_n q_285_80 rfl).trans <| (j_iastore q_285_81 js_o128).trans <| (if_pos g0).trans <| (j_aload_n q_285_82 rfl).trans <| (j_get (ji := 88) (v := (2, 129)) q_285_83 (js_Fo qy_285 qf_12_401) js_o83 rfl rfl rfl rfl).trans <| (j_aload_n q_285_86 rfl).trans <| (j_get (ji := 85) (v := (0, σ 83 85)) q_285_87 (js_Fo qy_285 qf_12_594) js_o83 rfl rfl rfl (congrArg (Prod.mk 0) ((js_up_na _ (by decide)).trans <| (js_up_na _ (by decide))))).trans <| (j_iload_n q_285_90 rfl).trans <| (j_iastore q_285_91 js_o129).trans <| (if_pos g0).trans <| (j_aload_n q_285_92 rfl).trans <| (j_get (ji := 89) (v := (2, 130)) q_285_93 (js_Fo qy_285 qf_12_404) js_o83 rfl rfl rfl rfl).trans <| (j_aload_n q_285_96 rfl).trans <| (j_get (ji := 85) (v := (0, σ 83 85)) q_285_97 (js_Fo qy_285 qf_12_594) js_o83 rfl rfl rfl (congrArg (Prod.mk 0) ((js_up_na _ (by decide)).trans <| (js_up_na _ (by decide)).trans <| (js_up_na _ (by decide))))).trans <| (j_iload q_285_100 rfl).trans <| (j_iastore q_285_102 js_o130).trans <| (if_pos g0).trans <| (j_aload_n q_285_103 rfl).trans <| (j_dupr q_285_104).trans <| (j_get (ji := 85) (v := (0, σ 83 85)) q_285_105 (js_Fo qy_285 qf_12_594) js_o83 rfl rfl rfl (congrArg (Prod.mk 0) ((js_up_na _ (by decide)).trans <| (js_up_na _ (by decide)).trans <| (js_up_na _ (by decide)).trans <| (js_up_na _ (by decide))))).trans <| (j_iconst q_285_108).trans <| (j_iadd q_285_109).trans <| (j_putI (ji := 85) q_285_110 (js_Fo qy_285 qf_12_594) rfl js_o83 rfl rfl rfl).trans <| (j_iconst q_285_113).trans <| j_breturn1 q_285_114 qr_285))
-- 286: VitalTwinModel.isPlace (II)Z
theorem b_286_0 {E : js_E} {d : Nat} {σ : js_S} {x1 x2 : Int} : js_J E d 286 0 [(2, 83), (0, x1), (0, x2)] [] σ = (if js_w (σ 83 64) = 0 then js_r E (0, 0) σ else (if js_w x1 < 0 then js_r E (0, 0) σ else (if js_w x1 < 2 then (if js_w x2 < (-2) then js_r E (0, 0) σ else (if js_w x2 < js_w (σ 83 48) then js_r E (0, 1) σ else js_r E (0, 0) σ)) else js_r E (0, 0) σ))) :=
  (j_aload_n q_286_0 rfl).trans <| (j_get (ji := 64) (v := (0, σ 83 64)) q_286_1 (js_Fo qy_286 qf_12_464) js_o83 rfl rfl rfl rfl).trans <| (j_ifeq (t := 34) q_286_4 rfl).trans (js_ite ((j_iconst q_286_34).trans <| j_breturn0 q_286_35 qr_286) ((j_iload_n q_286_7 rfl).trans <| (j_iflt (t := 34) q_286_8 rfl).trans (js_ite ((j_iconst q_286_34).trans <| j_breturn0 q_286_35 qr_286) ((j_iload_n q_286_11 rfl).trans <| (j_iconst q_286_12).trans <| (j_cmpgeB (t := 34) q_286_13 rfl ww_2).trans (js_ite ((j_iload_n q_286_16 rfl).trans <| (j_bi q_286_17 rfl).trans <| (j_cmpltB (t := 34) q_286_19 rfl ww_m2).trans (js_ite ((j_iconst q_286_34).trans <| j_breturn0 q_286_35 qr_286) ((j_iload_n q_286_22 rfl).trans <| (j_aload_n q_286_23 rfl).trans <| (j_get (ji := 48) (v := (0, σ 83 48)) q_286_24 (js_Fo qy_286 qf_12_437) js_o83 rfl rfl rfl rfl).trans <| (j_cmpge (t := 34) q_286_27 rfl).trans (js_ite ((j_iconst q_286_30).trans <| (j_goto (t := 35) q_286_31 rfl).trans <| j_breturn1 q_286_35 qr_286) ((j_iconst q_286_34).trans <| j_breturn0 q_286_35 qr_286))))) ((j_iconst q_286_34).trans <| j_breturn0 q_286_35 qr_286))))))
-- 287: VitalTwinModel.power ()Z
theorem b_287_0 {E : js_E} {d : Nat} {σ : js_S} : js_J E d 287 0 [(2, 83)] [] σ = (if js_w (σ 83 64) = 0 then js_J E d 287 16 [(2, 83)] [] (js_up σ 83 0 0) else js_J E d 287 13 [(2, 83)] [(2, 83)] (js_up σ 83 0 0)) :=
  (j_aload_n q_287_0 rfl).trans <| (j_iconst q_287_1).trans <| (j_putI (ji := 0) q_287_2 (js_Fo qy_287 qf_12_3) rfl js_o83 rfl rfl rfl).trans <| (j_aload_n q_287_5 rfl).trans <| (j_get (ji := 64) (v := (0, σ 83 64)) q_287_6 (js_Fo qy_287 qf_12_464) js_o83 rfl rfl rfl (congrArg (Prod.mk 0) ((js_up_ni _ (by decide))))).trans <| (j_ifeq (t := 16) q_287_9 rfl).trans (js_ite (rfl) ((j_aload_n q_287_12 rfl).trans <| rfl))
theorem k_287_13 {E : js_E} {d : Nat} {σ σ2 : js_S} (hd : 1 ≤ d) (hz : js_J E (d - 1) 264 0 [(2, 83), (9, 0), (9, 0)] [] σ = js_r0 E σ2) : js_J E d 287 13 [(2, 83)] [(2, 83)] σ = js_J E d 287 16 [(2, 83)] [] σ2 :=
  j_call0 (m := 2) (js_caV q_287_13 (js_Mo qy_287 qm_12_471)) (js_agV (av := []) (st := []) rfl rfl js_o83 rfl) rfl rfl (by rw [ql_264]; exact Nat.le_of_ble_eq_true rfl) (Nat.le_of_ble_eq_true rfl) hd hz
theorem b_287_16 {E : js_E} {d : Nat} {σ : js_S} : js_J E d 287 16 [(2, 83)] [] σ = (if js_w (σ 83 64) = 0 ∨ js_w (σ 83 64) = 1 then js_r E (0, σ 83 64) σ else none) :=
  (j_aload_n q_287_16 rfl).trans <| (j_get (ji := 64) (v := (0, σ 83 64)) q_287_17 (js_Fo qy_287 qf_12_464) js_o83 rfl rfl rfl rfl).trans <| j_breturn q_287_20 qr_287
-- 288: VitalTwinModel.probe (IIII)I
theorem b_288_0 {E : js_E} {d : Nat} {σ : js_S} {x1 x2 x3 x4 : Int} : js_J E d 288 0 [(2, 83), (0, x1), (0, x2), (0, x3), (0, x4), (9, 0), (9, 0), (9, 0), (9, 0), (9, 0), (9, 0), (9, 0), (9, 0), (9, 0)] [] σ = js_J E d 288 8 [(2, 83), (0, x1), (0, x2), (0, x3), (0, x4), (9, 0), (9, 0), (9, 0), (9, 0), (9, 0), (9, 0), (9, 0), (9, 0), (9, 0)] [(0, x2), (0, x1), (2, 83)] (js_up σ 83 0 0) :=
  (j_aload_n q_288_0 rfl).trans <| (j_iconst q_288_1).trans <| (j_putI (ji := 0) q_288_2 (js_Fo qy_288 qf_12_3) rfl js_o83 rfl rfl rfl).trans <| (j_aload_n q_288_5 rfl).trans <| (j_iload_n q_288_6 rfl).trans <| (j_iload_n q_288_7 rfl).trans <| rfl
theorem k_288_8 {E : js_E} {d : Nat} {σ σ2 : js_S} {x1 x2 x3 x4 z1 z2 : Int} {v : Int} (hd : 1 ≤ d) (hz : js_J E (d - 1) 286 0 [(2, 83), (0, z1), (0, z2)] [] σ = js_r E (0, v) σ2) : js_J E d 288 8 [(2, 83), (0, x1), (0, x2), (0, x3), (0, x4), (9, 0), (9, 0), (9, 0), (9, 0), (9, 0), (9, 0), (9, 0), (9, 0), (9, 0)] [(0, z2), (0, z1), (2, 83)] σ = js_J E d 288 11 [(2, 83), (0, x1), (0, x2), (0, x3), (0, x4), (9, 0), (9, 0), (9, 0), (9, 0), (9, 0), (9, 0), (9, 0), (9, 0), (9, 0)] [(0, v)] σ2 :=
  j_call (m := 0) (js_caV q_288_8 (js_Mo qy_288 qm_12_645)) (js_agV (av := [(0, z1), (0, z2)]) (st := []) rfl rfl js_o83 rfl) rfl rfl (by rw [ql_286]; exact Nat.le_of_ble_eq_true rfl) (Nat.le_of_ble_eq_true rfl) hd hz
theorem b_288_11 {E : js_E} {d : Nat} {σ : js_S} {x1 x2 x3 x4 z0 : Int} : js_J E d 288 11 [(2, 83), (0, x1), (0, x2), (0, x3), (0, x4), (9, 0), (9, 0), (9, 0), (9, 0), (9, 0), (9, 0), (9, 0), (9, 0), (9, 0)] [(0, z0)] σ = (if js_w z0 = 0 then js_r E (0, (-1)) σ else (if 0 < js_w (σ 83 77) then js_r E (0, (-1)) σ else (if 0 < js_w (σ 83 81) then js_r E (0, (-1)) σ else (if 0 < js_w (σ 83 85) then js_r E (0, (-1)) σ else (if js_w x3 < 0 then js_r E (0, (-1)) σ else (if js_w x4 < 0 then js_r E (0, (-1)) σ else (if 4 < js_w x4 then js_r E (0, (-1)) σ else js_J E d 288 78 [(2, 83), (0, x1), (0, x2), (0, x3), (0, x4), (0, σ 83 82), (0, σ 83 83), (0, 4096 * ((js_w (σ 83 82)).tmod 16)), (9, 0), (9, 0), (9, 0), (9, 0), (9, 0), (9, 0)] [(2, 83)] σ))))))) :=
  (j_ifeq (t := 50) q_288_11 rfl).trans (js_ite ((j_iconst q_288_50).trans <| j_ireturn q_288_51 qr_288) ((j_aload_n q_288_14 rfl).trans <| (j_get (ji := 77) (v := (0, σ 83 77)) q_288_15 (js_Fo qy_288 qf_12_573) js_o83 rfl rfl rfl rfl).trans <| (j_ifgt (t := 50) q_288_18 rfl).trans (js_ite ((j_iconst q_288_50).trans <| j_ireturn q_288_51 qr_288) ((j_aload_n q_288_21 rfl).trans <| (j_get (ji := 81) (v := (0, σ 83 81)) q_288_22 (js_Fo qy_288 qf_12_585) js_o83 rfl rfl rfl rfl).trans <| (j_ifgt (t := 50) q_288_25 rfl).trans (js_ite ((j_iconst q_288_50).trans <| j_ireturn q_288_51 qr_288) ((j_aload_n q_288_28 rfl).trans <| (j_get (ji := 85) (v := (0, σ 83 85)) q_288_29 (js_Fo qy_288 qf_12_594) js_o83 rfl rfl rfl rfl).trans <| (j_ifgt (t := 50) q_288_32 rfl).trans (js_ite ((j_iconst q_288_50).trans <| j_ireturn q_288_51 qr_288) ((j_iload_n q_288_35 rfl).trans <| (j_iflt (t := 50) q_288_36 rfl).trans (js_ite ((j_iconst q_288_50).trans <| j_ireturn q_288_51 qr_288) ((j_iload q_288_39 rfl).trans <| (j_iflt (t := 50) q_288_41 rfl).trans (js_ite ((j_iconst q_288_50).trans <| j_ireturn q_288_51 qr_288) ((j_iload q_288_44 rfl).trans <| (j_iconst q_288_46).trans <| (j_cmpleB (t := 52) q_288_47 rfl ww_4).trans (js_ite ((j_iconst q_288_50).trans <| j_ireturn q_288_51 qr_288) ((j_aload_n q_288_52 rfl).trans <| (j_get (ji := 82) (v := (0, σ 83 82)) q_288_53 (js_Fo qy_288 qf_12_588) js_o83 rfl rfl rfl rfl).trans <| (j_istore (l2 := [(2, 83), (0, x1), (0, x2), (0, x3), (0, x4), (0, σ 83 82), (9, 0), (9, 0), (9, 0), (9, 0), (9, 0), (9, 0), (9, 0), (9, 0)]) q_288_56 rfl (Nat.le_of_ble_eq_true rfl)).trans <| (j_aload_n q_288_58 rfl).trans <| (j_get (ji := 83) (v := (0, σ 83 83)) q_288_59 (js_Fo qy_288 qf_12_591) js_o83 rfl rfl rfl rfl).trans <| (j_istore (l2 := [(2, 83), (0, x1), (0, x2), (0, x3), (0, x4), (0, σ 83 82), (0, σ 83 83), (9, 0), (9, 0), (9, 0), (9, 0), (9, 0), (9, 0), (9, 0)]) q_288_62 rfl (Nat.le_of_ble_eq_true rfl)).trans <| (j_si q_288_64 rfl).trans <| (j_aload_n q_288_67 rfl).trans <| (j_get (ji := 82) (v := (0, σ 83 82)) q_288_68 (js_Fo qy_288 qf_12_588) js_o83 rfl rfl rfl rfl).trans <| (j_bi q_288_71 rfl).trans <| (j_iremk q_288_73 ww_16 (by decide)).trans <| (j_imul q_288_74).trans <| (j_istore (l2 := [(2, 83), (0, x1), (0, x2), (0, x3), (0, x4), (0, σ 83 82), (0, σ 83 83), (0, 4096 * ((js_w (σ 83 82)).tmod 16)), (9, 0), (9, 0), (9, 0), (9, 0), (9, 0), (9, 0)]) q_288_75 rfl (Nat.le_of_ble_eq_true rfl)).trans <| (j_aload_n q_288_77 rfl).trans <| rfl))))))))))))))
theorem k_288_78 {E : js_E} {d : Nat} {σ σ2 : js_S} {x1 x2 x3 x4 x5 x6 x7 : Int} (hd : 1 ≤ d) (hz : js_J E (d - 1) 289 0 [(2, 83), (9, 0)] [] σ = js_r0 E σ2) : js_J E d 288 78 [(2, 83), (0, x1), (0, x2), (0, x3), (0, x4), (0, x5), (0, x6), (0, x7), (9, 0), (9, 0), (9, 0), (9, 0), (9, 0), (9, 0)] [(2, 83)] σ = js_J E d 288 81 [(2, 83), (0, x1), (0, x2), (0, x3), (0, x4), (0, x5), (0, x6), (0, x7), (9, 0), (9, 0), (9, 0), (9, 0), (9, 0), (9, 0)] [] σ2 :=
  j_call0 (m := 1) (js_caV q_288_78 (js_Mo qy_288 qm_12_649)) (js_agV (av := []) (st := []) rfl rfl js_o83 rfl) rfl rfl (by rw [ql_289]; exact Nat.le_of_ble_eq_true rfl) (Nat.le_of_ble_eq_true rfl) hd hz
theorem b_288_81 {E : js_E} {d : Nat} {σ : js_S} {x1 x2 x3 x4 x5 x6 x7 : Int} : js_J E d 288 81 [(2, 83), (0, x1), (0, x2), (0, x3), (0, x4), (0, x5), (0, x6), (0, x7), (9, 0), (9, 0), (9, 0), (9, 0), (9, 0), (9, 0)] [] σ = js_J E d 288 84 [(2, 83), (0, x1), (0, x2), (0, x3), (0, x4), (0, x5), (0, x6), (0, x7), (0, 0), (9, 0), (9, 0), (9, 0), (9, 0), (9, 0)] [] σ :=
  (j_iconst q_288_81).trans <| (j_istore (l2 := [(2, 83), (0, x1), (0, x2), (0, x3), (0, x4), (0, x5), (0, x6), (0, x7), (0, 0), (9, 0), (9, 0), (9, 0), (9, 0), (9, 0)]) q_288_82 rfl (Nat.le_of_ble_eq_true rfl)).trans <| rfl
theorem b_288_84 {E : js_E} {d : Nat} {σ : js_S} {x1 x2 x3 x4 x5 x6 x7 x8 : Int} : js_J E d 288 84 [(2, 83), (0, x1), (0, x2), (0, x3), (0, x4), (0, x5), (0, x6), (0, x7), (0, x8), (9, 0), (9, 0), (9, 0), (9, 0), (9, 0)] [] σ = (if js_w x8 < js_w (σ 83 47) then (if 0 ≤ js_w (x7 + x8) ∧ js_w (x7 + x8) < 65536 then (if 0 ≤ js_w x8 ∧ js_w x8 < 4096 then js_J E d 288 84 [(2, 83), (0, x1), (0, x2), (0, x3), (0, x4), (0, x5), (0, x6), (0, x7), (0, x8 + 1), (9, 0), (9, 0), (9, 0), (9, 0), (9, 0)] [] (js_up σ 133 (js_w x8) (σ 126 (js_w (x7 + x8)))) else none) else none) else js_J E d 288 117 [(2, 83), (0, x1), (0, x2), (0, x3), (0, x4), (0, x5), (0, x6), (0, x7), (0, x8), (9, 0), (9, 0), (9, 0), (9, 0), (9, 0)] [(2, 83)] σ) :=
  (j_iload q_288_84 rfl).trans <| (j_aload_n q_288_86 rfl).trans <| (j_get (ji := 47) (v := (0, σ 83 47)) q_288_87 (js_Fo qy_288 qf_12_443) js_o83 rfl rfl rfl rfl).trans <| (j_cmpge (t := 116) q_288_90 rfl).trans (js_ite ((j_aload_n q_288_93 rfl).trans <| (j_get (ji := 93) (v := (2, 133)) q_288_94 (js_Fo qy_288 qf_12_413) js_o83 rfl rfl rfl rfl).trans <| (j_iload q_288_97 rfl).trans <| (j_aload_n q_288_99 rfl).trans <| (j_get (ji := 84) (v := (2, 126)) q_288_100 (js_Fo qy_288 qf_12_392) js_o83 rfl rfl rfl rfl).trans <| (j_iload q_288_103 rfl).trans <| (j_iload q_288_105 rfl).trans <| (j_iadd q_288_107).trans <| (j_iaload q_288_108 js_o126).trans <| js_itp fun g0 => (j_iastore q_288_109 js_o133).trans <| js_itp fun g1 => (j_iinc (l2 := [(2, 83), (0, x1), (0, x2), (0, x3), (0, x4), (0, x5), (0, x6), (0, x7), (0, x8 + 1), (9, 0), (9, 0), (9, 0), (9, 0), (9, 0)]) q_288_110 rfl rfl).trans <| (j_goto (t := 84) q_288_113 rfl).trans <| rfl) ((j_aload_n q_288_116 rfl).trans <| rfl))
theorem k_288_117 {E : js_E} {d : Nat} {σ σ2 : js_S} {x1 x2 x3 x4 x5 x6 x7 x8 : Int} (hd : 1 ≤ d) (hz : js_J E (d - 1) 278 0 [(2, 83)] [] σ = js_r0 E σ2) : js_J E d 288 117 [(2, 83), (0, x1), (0, x2), (0, x3), (0, x4), (0, x5), (0, x6), (0, x7), (0, x8), (9, 0), (9, 0), (9, 0), (9, 0), (9, 0)] [(2, 83)] σ = js_J E d 288 120 [(2, 83), (0, x1), (0, x2), (0, x3), (0, x4), (0, x5), (0, x6), (0, x7), (0, x8), (9, 0), (9, 0), (9, 0), (9, 0), (9, 0)] [] σ2 :=
  j_call0 (m := 0) (js_caV q_288_117 (js_Mo qy_288 qm_12_634)) (js_agV (av := []) (st := []) rfl rfl js_o83 rfl) rfl rfl (by rw [ql_278]; exact Nat.le_of_ble_eq_true rfl) (Nat.le_of_ble_eq_true rfl) hd hz
theorem b_288_120 {E : js_E} {d : Nat} {σ : js_S} {x1 x2 x3 x4 x5 x6 x7 x8 : Int} : js_J E d 288 120 [(2, 83), (0, x1), (0, x2), (0, x3), (0, x4), (0, x5), (0, x6), (0, x7), (0, x8), (9, 0), (9, 0), (9, 0), (9, 0), (9, 0)] [] σ = (if js_w (σ 83 81) = 0 then js_J E d 288 132 [(2, 83), (0, x1), (0, x2), (0, x3), (0, x4), (0, x5), (0, x6), (0, x7), (0, x8), (9, 0), (9, 0), (9, 0), (9, 0), (9, 0)] [(0, 1)] σ else js_J E d 288 132 [(2, 83), (0, x1), (0, x2), (0, x3), (0, x4), (0, x5), (0, x6), (0, x7), (0, x8), (9, 0), (9, 0), (9, 0), (9, 0), (9, 0)] [(0, 0)] σ) :=
  (j_aload_n q_288_120 rfl).trans <| (j_get (ji := 81) (v := (0, σ 83 81)) q_288_121 (js_Fo qy_288 qf_12_585) js_o83 rfl rfl rfl rfl).trans <| (j_ifne (t := 131) q_288_124 rfl).trans (js_ite ((j_iconst q_288_127).trans <| (j_goto (t := 132) q_288_128 rfl).trans <| rfl) ((j_iconst q_288_131).trans <| rfl))
theorem b_288_132 {E : js_E} {d : Nat} {σ : js_S} {x1 x2 x3 x4 x5 x6 x7 x8 z0 : Int} : js_J E d 288 132 [(2, 83), (0, x1), (0, x2), (0, x3), (0, x4), (0, x5), (0, x6), (0, x7), (0, x8), (9, 0), (9, 0), (9, 0), (9, 0), (9, 0)] [(0, z0)] σ = js_J E d 288 137 [(2, 83), (0, x1), (0, x2), (0, x3), (0, x4), (0, x5), (0, x6), (0, x7), (0, z0), (0, 0), (9, 0), (9, 0), (9, 0), (9, 0)] [] σ :=
  (j_istore (l2 := [(2, 83), (0, x1), (0, x2), (0, x3), (0, x4), (0, x5), (0, x6), (0, x7), (0, z0), (9, 0), (9, 0), (9, 0), (9, 0), (9, 0)]) q_288_132 rfl (Nat.le_of_ble_eq_true rfl)).trans <| (j_iconst q_288_134).trans <| (j_istore (l2 := [(2, 83), (0, x1), (0, x2), (0, x3), (0, x4), (0, x5), (0, x6), (0, x7), (0, z0), (0, 0), (9, 0), (9, 0), (9, 0), (9, 0)]) q_288_135 rfl (Nat.le_of_ble_eq_true rfl)).trans <| rfl
theorem b_288_137 {E : js_E} {d : Nat} {σ : js_S} {x1 x2 x3 x4 x5 x6 x7 x8 x9 : Int} : js_J E d 288 137 [(2, 83), (0, x1), (0, x2), (0, x3), (0, x4), (0, x5), (0, x6), (0, x7), (0, x8), (0, x9), (9, 0), (9, 0), (9, 0), (9, 0)] [] σ = (if js_w x9 < js_w (σ 83 47) then (if 0 ≤ js_w (x7 + x9) ∧ js_w (x7 + x9) < 65536 then (if 0 ≤ js_w x9 ∧ js_w x9 < 4096 then js_J E d 288 137 [(2, 83), (0, x1), (0, x2), (0, x3), (0, x4), (0, x5), (0, x6), (0, x7), (0, x8), (0, x9 + 1), (9, 0), (9, 0), (9, 0), (9, 0)] [] (js_up σ 132 (js_w x9) (σ 126 (js_w (x7 + x9)))) else none) else none) else js_J E d 288 174 [(2, 83), (0, x1), (0, x2), (0, x3), (0, x4), (0, x5), (0, x6), (0, x7), (0, x8), (0, x9), (9, 0), (9, 0), (9, 0), (9, 0)] [(0, x6), (0, x5), (2, 83)] σ) :=
  (j_iload q_288_137 rfl).trans <| (j_aload_n q_288_139 rfl).trans <| (j_get (ji := 47) (v := (0, σ 83 47)) q_288_140 (js_Fo qy_288 qf_12_443) js_o83 rfl rfl rfl rfl).trans <| (j_cmpge (t := 169) q_288_143 rfl).trans (js_ite ((j_aload_n q_288_146 rfl).trans <| (j_get (ji := 92) (v := (2, 132)) q_288_147 (js_Fo qy_288 qf_12_410) js_o83 rfl rfl rfl rfl).trans <| (j_iload q_288_150 rfl).trans <| (j_aload_n q_288_152 rfl).trans <| (j_get (ji := 84) (v := (2, 126)) q_288_153 (js_Fo qy_288 qf_12_392) js_o83 rfl rfl rfl rfl).trans <| (j_iload q_288_156 rfl).trans <| (j_iload q_288_158 rfl).trans <| (j_iadd q_288_160).trans <| (j_iaload q_288_161 js_o126).trans <| js_itp fun g0 => (j_iastore q_288_162 js_o132).trans <| js_itp fun g1 => (j_iinc (l2 := [(2, 83), (0, x1), (0, x2), (0, x3), (0, x4), (0, x5), (0, x6), (0, x7), (0, x8), (0, x9 + 1), (9, 0), (9, 0), (9, 0), (9, 0)]) q_288_163 rfl rfl).trans <| (j_goto (t := 137) q_288_166 rfl).trans <| rfl) ((j_aload_n q_288_169 rfl).trans <| (j_iload q_288_170 rfl).trans <| (j_iload q_288_172 rfl).trans <| rfl))
theorem k_288_174 {E : js_E} {d : Nat} {σ σ2 : js_S} {x1 x2 x3 x4 x5 x6 x7 x8 x9 z1 z2 : Int} (hd : 1 ≤ d) (hz : js_J E (d - 1) 290 0 [(2, 83), (0, z1), (0, z2), (9, 0)] [] σ = js_r0 E σ2) : js_J E d 288 174 [(2, 83), (0, x1), (0, x2), (0, x3), (0, x4), (0, x5), (0, x6), (0, x7), (0, x8), (0, x9), (9, 0), (9, 0), (9, 0), (9, 0)] [(0, z2), (0, z1), (2, 83)] σ = js_J E d 288 177 [(2, 83), (0, x1), (0, x2), (0, x3), (0, x4), (0, x5), (0, x6), (0, x7), (0, x8), (0, x9), (9, 0), (9, 0), (9, 0), (9, 0)] [] σ2 :=
  j_call0 (m := 1) (js_caV q_288_174 (js_Mo qy_288 qm_12_652)) (js_agV (av := [(0, z1), (0, z2)]) (st := []) rfl rfl js_o83 rfl) rfl rfl (by rw [ql_290]; exact Nat.le_of_ble_eq_true rfl) (Nat.le_of_ble_eq_true rfl) hd hz
theorem b_288_177 {E : js_E} {d : Nat} {σ : js_S} {x1 x2 x3 x4 x5 x6 x7 x8 x9 : Int} : js_J E d 288 177 [(2, 83), (0, x1), (0, x2), (0, x3), (0, x4), (0, x5), (0, x6), (0, x7), (0, x8), (0, x9), (9, 0), (9, 0), (9, 0), (9, 0)] [] σ = js_J E d 288 183 [(2, 83), (0, x1), (0, x2), (0, x3), (0, x4), (0, x5), (0, x6), (0, x7), (0, x8), (0, 0), (0, 0), (9, 0), (9, 0), (9, 0)] [] σ :=
  (j_iconst q_288_177).trans <| (j_istore (l2 := [(2, 83), (0, x1), (0, x2), (0, x3), (0, x4), (0, x5), (0, x6), (0, x7), (0, x8), (0, 0), (9, 0), (9, 0), (9, 0), (9, 0)]) q_288_178 rfl (Nat.le_of_ble_eq_true rfl)).trans <| (j_iconst q_288_180).trans <| (j_istore (l2 := [(2, 83), (0, x1), (0, x2), (0, x3), (0, x4), (0, x5), (0, x6), (0, x7), (0, x8), (0, 0), (0, 0), (9, 0), (9, 0), (9, 0)]) q_288_181 rfl (Nat.le_of_ble_eq_true rfl)).trans <| rfl
theorem b_288_183 {E : js_E} {d : Nat} {σ : js_S} {x1 x2 x3 x4 x5 x6 x7 x8 x9 x10 : Int} {ux11 ux12 ux13 : js_v} : js_J E d 288 183 [(2, 83), (0, x1), (0, x2), (0, x3), (0, x4), (0, x5), (0, x6), (0, x7), (0, x8), (0, x9), (0, x10), ux11, ux12, ux13] [] σ = (if js_w x10 < 64 then (if js_w x8 = 0 then js_J E d 288 312 [(2, 83), (0, x1), (0, x2), (0, x3), (0, x4), (0, x5), (0, x6), (0, x7), (0, x8), (0, x9), (0, x10), ux11, ux12, ux13] [] σ else js_J E d 288 201 [(2, 83), (0, x1), (0, x2), (0, x3), (0, x4), (0, x5), (0, x6), (0, x7), (0, x8), (0, x9), (0, x10), ux11, ux12, ux13] [(0, x3), (0, x10), (0, x2), (0, x1), (2, 83)] σ) else js_J E d 288 312 [(2, 83), (0, x1), (0, x2), (0, x3), (0, x4), (0, x5), (0, x6), (0, x7), (0, x8), (0, x9), (0, x10), ux11, ux12, ux13] [] σ) :=
  (j_iload q_288_183 rfl).trans <| (j_bi q_288_185 rfl).trans <| (j_cmpgeB (t := 312) q_288_187 rfl ww_64).trans (js_ite ((j_iload q_288_190 rfl).trans <| (j_ifeq (t := 312) q_288_192 rfl).trans (js_ite (rfl) ((j_aload_n q_288_195 rfl).trans <| (j_iload_n q_288_196 rfl).trans <| (j_iload_n q_288_197 rfl).trans <| (j_iload q_288_198 rfl).trans <| (j_iload_n q_288_200 rfl).trans <| rfl))) (rfl))
theorem k_288_201 {E : js_E} {d : Nat} {σ σ2 : js_S} {x1 x2 x3 x4 x5 x6 x7 x8 x9 x10 z1 z2 z3 z4 : Int} {ux11 ux12 ux13 : js_v} {v : Int} (hd : 1 ≤ d) (hz : js_J E (d - 1) 285 0 [(2, 83), (0, z1), (0, z2), (0, z3), (0, z4)] [] σ = js_r E (0, v) σ2) : js_J E d 288 201 [(2, 83), (0, x1), (0, x2), (0, x3), (0, x4), (0, x5), (0, x6), (0, x7), (0, x8), (0, x9), (0, x10), ux11, ux12, ux13] [(0, z4), (0, z3), (0, z2), (0, z1), (2, 83)] σ = js_J E d 288 204 [(2, 83), (0, x1), (0, x2), (0, x3), (0, x4), (0, x5), (0, x6), (0, x7), (0, x8), (0, x9), (0, x10), ux11, ux12, ux13] [(0, v)] σ2 :=
  j_call (m := 0) (js_caV q_288_201 (js_Mo qy_288 qm_12_655)) (js_agV (av := [(0, z1), (0, z2), (0, z3), (0, z4)]) (st := []) rfl rfl js_o83 rfl) rfl rfl (by rw [ql_285]; exact Nat.le_of_ble_eq_true rfl) (Nat.le_of_ble_eq_true rfl) hd hz
theorem b_288_204 {E : js_E} {d : Nat} {σ : js_S} {x1 x2 x3 x4 x5 x6 x7 x8 x9 x10 z0 : Int} {ux11 ux12 ux13 : js_v} : js_J E d 288 204 [(2, 83), (0, x1), (0, x2), (0, x3), (0, x4), (0, x5), (0, x6), (0, x7), (0, x8), (0, x9), (0, x10), ux11, ux12, ux13] [(0, z0)] σ = js_J E d 288 206 [(2, 83), (0, x1), (0, x2), (0, x3), (0, x4), (0, x5), (0, x6), (0, x7), (0, x8), (0, x9), (0, x10), ux11, ux12, ux13] [(2, 83)] σ :=
  (j_pop0 q_288_204).trans <| (j_aload_n q_288_205 rfl).trans <| rfl
theorem k_288_206 {E : js_E} {d : Nat} {σ σ2 : js_S} {x1 x2 x3 x4 x5 x6 x7 x8 x9 x10 : Int} {ux11 ux12 ux13 : js_v} (hd : 1 ≤ d) (hz : js_J E (d - 1) 278 0 [(2, 83)] [] σ = js_r0 E σ2) : js_J E d 288 206 [(2, 83), (0, x1), (0, x2), (0, x3), (0, x4), (0, x5), (0, x6), (0, x7), (0, x8), (0, x9), (0, x10), ux11, ux12, ux13] [(2, 83)] σ = js_J E d 288 209 [(2, 83), (0, x1), (0, x2), (0, x3), (0, x4), (0, x5), (0, x6), (0, x7), (0, x8), (0, x9), (0, x10), ux11, ux12, ux13] [] σ2 :=
  j_call0 (m := 0) (js_caV q_288_206 (js_Mo qy_288 qm_12_634)) (js_agV (av := []) (st := []) rfl rfl js_o83 rfl) rfl rfl (by rw [ql_278]; exact Nat.le_of_ble_eq_true rfl) (Nat.le_of_ble_eq_true rfl) hd hz
theorem b_288_209 {E : js_E} {d : Nat} {σ : js_S} {x1 x2 x3 x4 x5 x6 x7 x8 x9 x10 : Int} {ux11 ux12 ux13 : js_v} : js_J E d 288 209 [(2, 83), (0, x1), (0, x2), (0, x3), (0, x4), (0, x5), (0, x6), (0, x7), (0, x8), (0, x9), (0, x10), ux11, ux12, ux13] [] σ = js_J E d 288 221 [(2, 83), (0, x1), (0, x2), (0, x3), (0, x4), (0, x5), (0, x6), (0, x7), (0, x8), (0, x9), (0, x10), (0, σ 83 81), (0, 1), (0, 0)] [] σ :=
  (j_aload_n q_288_209 rfl).trans <| (j_get (ji := 81) (v := (0, σ 83 81)) q_288_210 (js_Fo qy_288 qf_12_585) js_o83 rfl rfl rfl rfl).trans <| (j_istore (l2 := [(2, 83), (0, x1), (0, x2), (0, x3), (0, x4), (0, x5), (0, x6), (0, x7), (0, x8), (0, x9), (0, x10), (0, σ 83 81), ux12, ux13]) q_288_213 rfl (Nat.le_of_ble_eq_true rfl)).trans <| (j_iconst q_288_215).trans <| (j_istore (l2 := [(2, 83), (0, x1), (0, x2), (0, x3), (0, x4), (0, x5), (0, x6), (0, x7), (0, x8), (0, x9), (0, x10), (0, σ 83 81), (0, 1), ux13]) q_288_216 rfl (Nat.le_of_ble_eq_true rfl)).trans <| (j_iconst q_288_218).trans <| (j_istore (l2 := [(2, 83), (0, x1), (0, x2), (0, x3), (0, x4), (0, x5), (0, x6), (0, x7), (0, x8), (0, x9), (0, x10), (0, σ 83 81), (0, 1), (0, 0)]) q_288_219 rfl (Nat.le_of_ble_eq_true rfl)).trans <| rfl
theorem b_288_221 {E : js_E} {d : Nat} {σ : js_S} {x1 x2 x3 x4 x5 x6 x7 x8 x9 x10 x11 x12 x13 : Int} : js_J E d 288 221 [(2, 83), (0, x1), (0, x2), (0, x3), (0, x4), (0, x5), (0, x6), (0, x7), (0, x8), (0, x9), (0, x10), (0, x11), (0, x12), (0, x13)] [] σ = (if js_w x13 < js_w (σ 83 47) then (if js_w x12 = 0 then js_J E d 288 259 [(2, 83), (0, x1), (0, x2), (0, x3), (0, x4), (0, x5), (0, x6), (0, x7), (0, x8), (0, x9), (0, x10), (0, x11), (0, x12), (0, x13)] [] σ else (if 0 ≤ js_w (x7 + x13) ∧ js_w (x7 + x13) < 65536 then (if 0 ≤ js_w x13 ∧ js_w x13 < 4096 then (if js_w (σ 126 (js_w (x7 + x13))) = js_w (σ 132 (js_w x13)) then js_J E d 288 260 [(2, 83), (0, x1), (0, x2), (0, x3), (0, x4), (0, x5), (0, x6), (0, x7), (0, x8), (0, x9), (0, x10), (0, x11), (0, x12), (0, x13)] [(0, 1)] σ else js_J E d 288 259 [(2, 83), (0, x1), (0, x2), (0, x3), (0, x4), (0, x5), (0, x6), (0, x7), (0, x8), (0, x9), (0, x10), (0, x11), (0, x12), (0, x13)] [] σ) else none) else none)) else (if js_w x11 = 0 then (if js_w x12 = 0 then js_J E d 288 281 [(2, 83), (0, x1), (0, x2), (0, x3), (0, x4), (0, x5), (0, x6), (0, x7), (0, x8), (0, x9), (0, x10), (0, 4), (0, x12), (0, x13)] [] σ else js_J E d 288 281 [(2, 83), (0, x1), (0, x2), (0, x3), (0, x4), (0, x5), (0, x6), (0, x7), (0, x8), (0, x9), (0, x10), (0, x11), (0, x12), (0, x13)] [] σ) else js_J E d 288 281 [(2, 83), (0, x1), (0, x2), (0, x3), (0, x4), (0, x5), (0, x6), (0, x7), (0, x8), (0, x9), (0, x10), (0, x11), (0, x12), (0, x13)] [] σ)) :=
  (j_iload q_288_221 rfl).trans <| (j_aload_n q_288_223 rfl).trans <| (j_get (ji := 47) (v := (0, σ 83 47)) q_288_224 (js_Fo qy_288 qf_12_443) js_o83 rfl rfl rfl rfl).trans <| (j_cmpge (t := 268) q_288_227 rfl).trans (js_ite ((j_iload q_288_230 rfl).trans <| (j_ifeq (t := 259) q_288_232 rfl).trans (js_ite (rfl) ((j_aload_n q_288_235 rfl).trans <| (j_get (ji := 84) (v := (2, 126)) q_288_236 (js_Fo qy_288 qf_12_392) js_o83 rfl rfl rfl rfl).trans <| (j_iload q_288_239 rfl).trans <| (j_iload q_288_241 rfl).trans <| (j_iadd q_288_243).trans <| (j_iaload q_288_244 js_o126).trans <| js_itp fun g0 => (j_aload_n q_288_245 rfl).trans <| (j_get (ji := 92) (v := (2, 132)) q_288_246 (js_Fo qy_288 qf_12_410) js_o83 rfl rfl rfl rfl).trans <| (j_iload q_288_249 rfl).trans <| (j_iaload q_288_251 js_o132).trans <| js_itp fun g1 => (j_cmpne (t := 259) q_288_252 rfl).trans (js_ite ((j_iconst q_288_255).trans <| (j_goto (t := 260) q_288_256 rfl).trans <| rfl) (rfl))))) ((j_iload q_288_268 rfl).trans <| (j_ifne (t := 281) q_288_270 rfl).trans (js_ite ((j_iload q_288_273 rfl).trans <| (j_ifne (t := 281) q_288_275 rfl).trans (js_ite ((j_iconst q_288_278).trans <| (j_istore (l2 := [(2, 83), (0, x1), (0, x2), (0, x3), (0, x4), (0, x5), (0, x6), (0, x7), (0, x8), (0, x9), (0, x10), (0, 4), (0, x12), (0, x13)]) q_288_279 rfl (Nat.le_of_ble_eq_true rfl)).trans <| rfl) (rfl))) (rfl))))
theorem b_288_259 {E : js_E} {d : Nat} {σ : js_S} {x1 x2 x3 x4 x5 x6 x7 x8 x9 x10 x11 x12 x13 : Int} : js_J E d 288 259 [(2, 83), (0, x1), (0, x2), (0, x3), (0, x4), (0, x5), (0, x6), (0, x7), (0, x8), (0, x9), (0, x10), (0, x11), (0, x12), (0, x13)] [] σ = js_J E d 288 260 [(2, 83), (0, x1), (0, x2), (0, x3), (0, x4), (0, x5), (0, x6), (0, x7), (0, x8), (0, x9), (0, x10), (0, x11), (0, x12), (0, x13)] [(0, 0)] σ :=
  (j_iconst q_288_259).trans <| rfl
theorem b_288_260 {E : js_E} {d : Nat} {σ : js_S} {x1 x2 x3 x4 x5 x6 x7 x8 x9 x10 x11 x12 x13 z0 : Int} : js_J E d 288 260 [(2, 83), (0, x1), (0, x2), (0, x3), (0, x4), (0, x5), (0, x6), (0, x7), (0, x8), (0, x9), (0, x10), (0, x11), (0, x12), (0, x13)] [(0, z0)] σ = js_J E d 288 221 [(2, 83), (0, x1), (0, x2), (0, x3), (0, x4), (0, x5), (0, x6), (0, x7), (0, x8), (0, x9), (0, x10), (0, x11), (0, z0), (0, x13 + 1)] [] σ :=
  (j_istore (l2 := [(2, 83), (0, x1), (0, x2), (0, x3), (0, x4), (0, x5), (0, x6), (0, x7), (0, x8), (0, x9), (0, x10), (0, x11), (0, z0), (0, x13)]) q_288_260 rfl (Nat.le_of_ble_eq_true rfl)).trans <| (j_iinc (l2 := [(2, 83), (0, x1), (0, x2), (0, x3), (0, x4), (0, x5), (0, x6), (0, x7), (0, x8), (0, x9), (0, x10), (0, x11), (0, z0), (0, x13 + 1)]) q_288_262 rfl rfl).trans <| (j_goto (t := 221) q_288_265 rfl).trans <| rfl
theorem b_288_281 {E : js_E} {d : Nat} {σ : js_S} {x1 x2 x3 x4 x5 x6 x7 x8 x9 x10 x11 x12 x13 : Int} : js_J E d 288 281 [(2, 83), (0, x1), (0, x2), (0, x3), (0, x4), (0, x5), (0, x6), (0, x7), (0, x8), (0, x9), (0, x10), (0, x11), (0, x12), (0, x13)] [] σ = (if js_w x11 = js_w x4 then js_J E d 288 295 [(2, 83), (0, x1), (0, x2), (0, x3), (0, x4), (0, x5), (0, x6), (0, x7), (0, x8), (0, x9), (0, x10), (0, x11), (0, x12), (0, x13)] [(0, 1), (0, x9)] σ else js_J E d 288 295 [(2, 83), (0, x1), (0, x2), (0, x3), (0, x4), (0, x5), (0, x6), (0, x7), (0, x8), (0, x9), (0, x10), (0, x11), (0, x12), (0, x13)] [(0, 0), (0, x9)] σ) :=
  (j_iload q_288_281 rfl).trans <| (j_iload q_288_283 rfl).trans <| (j_iload q_288_285 rfl).trans <| (j_cmpne (t := 294) q_288_287 rfl).trans (js_ite ((j_iconst q_288_290).trans <| (j_goto (t := 295) q_288_291 rfl).trans <| rfl) ((j_iconst q_288_294).trans <| rfl))
theorem b_288_295 {E : js_E} {d : Nat} {σ : js_S} {x1 x2 x3 x4 x5 x6 x7 x8 x9 x10 x11 x12 x13 z0 z1 : Int} : js_J E d 288 295 [(2, 83), (0, x1), (0, x2), (0, x3), (0, x4), (0, x5), (0, x6), (0, x7), (0, x8), (0, x9), (0, x10), (0, x11), (0, x12), (0, x13)] [(0, z1), (0, z0)] σ = js_J E d 288 303 [(2, 83), (0, x1), (0, x2), (0, x3), (0, x4), (0, x5), (0, x6), (0, x7), (0, x8), (0, z0 + z1), (0, x10), (0, x11), (0, x12), (0, x13)] [(0, x6), (0, x5), (2, 83)] σ :=
  (j_iadd q_288_295).trans <| (j_istore (l2 := [(2, 83), (0, x1), (0, x2), (0, x3), (0, x4), (0, x5), (0, x6), (0, x7), (0, x8), (0, z0 + z1), (0, x10), (0, x11), (0, x12), (0, x13)]) q_288_296 rfl (Nat.le_of_ble_eq_true rfl)).trans <| (j_aload_n q_288_298 rfl).trans <| (j_iload q_288_299 rfl).trans <| (j_iload q_288_301 rfl).trans <| rfl
theorem k_288_303 {E : js_E} {d : Nat} {σ σ2 : js_S} {x1 x2 x3 x4 x5 x6 x7 x8 x9 x10 x11 x12 x13 z1 z2 : Int} (hd : 1 ≤ d) (hz : js_J E (d - 1) 290 0 [(2, 83), (0, z1), (0, z2), (9, 0)] [] σ = js_r0 E σ2) : js_J E d 288 303 [(2, 83), (0, x1), (0, x2), (0, x3), (0, x4), (0, x5), (0, x6), (0, x7), (0, x8), (0, x9), (0, x10), (0, x11), (0, x12), (0, x13)] [(0, z2), (0, z1), (2, 83)] σ = js_J E d 288 306 [(2, 83), (0, x1), (0, x2), (0, x3), (0, x4), (0, x5), (0, x6), (0, x7), (0, x8), (0, x9), (0, x10), (0, x11), (0, x12), (0, x13)] [] σ2 :=
  j_call0 (m := 1) (js_caV q_288_303 (js_Mo qy_288 qm_12_652)) (js_agV (av := [(0, z1), (0, z2)]) (st := []) rfl rfl js_o83 rfl) rfl rfl (by rw [ql_290]; exact Nat.le_of_ble_eq_true rfl) (Nat.le_of_ble_eq_true rfl) hd hz
theorem b_288_306 {E : js_E} {d : Nat} {σ : js_S} {x1 x2 x3 x4 x5 x6 x7 x8 x9 x10 x11 x12 x13 : Int} : js_J E d 288 306 [(2, 83), (0, x1), (0, x2), (0, x3), (0, x4), (0, x5), (0, x6), (0, x7), (0, x8), (0, x9), (0, x10), (0, x11), (0, x12), (0, x13)] [] σ = js_J E d 288 183 [(2, 83), (0, x1), (0, x2), (0, x3), (0, x4), (0, x5), (0, x6), (0, x7), (0, x8), (0, x9), (0, x10 + 1), (0, x11), (0, x12), (0, x13)] [] σ :=
  (j_iinc (l2 := [(2, 83), (0, x1), (0, x2), (0, x3), (0, x4), (0, x5), (0, x6), (0, x7), (0, x8), (0, x9), (0, x10 + 1), (0, x11), (0, x12), (0, x13)]) q_288_306 rfl rfl).trans <| (j_goto (t := 183) q_288_309 rfl).trans <| rfl
theorem b_288_312 {E : js_E} {d : Nat} {σ : js_S} {x1 x2 x3 x4 x5 x6 x7 x8 x9 x10 : Int} {ux11 ux12 ux13 : js_v} : js_J E d 288 312 [(2, 83), (0, x1), (0, x2), (0, x3), (0, x4), (0, x5), (0, x6), (0, x7), (0, x8), (0, x9), (0, x10), ux11, ux12, ux13] [] σ = js_J E d 288 315 [(2, 83), (0, x1), (0, x2), (0, x3), (0, x4), (0, x5), (0, x6), (0, x7), (0, x8), (0, x9), (0, 0), ux11, ux12, ux13] [] σ :=
  (j_iconst q_288_312).trans <| (j_istore (l2 := [(2, 83), (0, x1), (0, x2), (0, x3), (0, x4), (0, x5), (0, x6), (0, x7), (0, x8), (0, x9), (0, 0), ux11, ux12, ux13]) q_288_313 rfl (Nat.le_of_ble_eq_true rfl)).trans <| rfl
theorem b_288_315 {E : js_E} {d : Nat} {σ : js_S} {x1 x2 x3 x4 x5 x6 x7 x8 x9 x10 : Int} {ux11 ux12 ux13 : js_v} : js_J E d 288 315 [(2, 83), (0, x1), (0, x2), (0, x3), (0, x4), (0, x5), (0, x6), (0, x7), (0, x8), (0, x9), (0, x10), ux11, ux12, ux13] [] σ = (if js_w x10 < js_w (σ 83 47) then (if 0 ≤ js_w x10 ∧ js_w x10 < 4096 then (if 0 ≤ js_w (x7 + x10) ∧ js_w (x7 + x10) < 65536 then js_J E d 288 315 [(2, 83), (0, x1), (0, x2), (0, x3), (0, x4), (0, x5), (0, x6), (0, x7), (0, x8), (0, x9), (0, x10 + 1), ux11, ux12, ux13] [] (js_up σ 126 (js_w (x7 + x10)) (σ 133 (js_w x10))) else none) else none) else (if js_w x8 = 0 then js_r E (0, (-1)) σ else js_r E (0, x9) σ)) :=
  (j_iload q_288_315 rfl).trans <| (j_aload_n q_288_317 rfl).trans <| (j_get (ji := 47) (v := (0, σ 83 47)) q_288_318 (js_Fo qy_288 qf_12_443) js_o83 rfl rfl rfl rfl).trans <| (j_cmpge (t := 347) q_288_321 rfl).trans (js_ite ((j_aload_n q_288_324 rfl).trans <| (j_get (ji := 84) (v := (2, 126)) q_288_325 (js_Fo qy_288 qf_12_392) js_o83 rfl rfl rfl rfl).trans <| (j_iload q_288_328 rfl).trans <| (j_iload q_288_330 rfl).trans <| (j_iadd q_288_332).trans <| (j_aload_n q_288_333 rfl).trans <| (j_get (ji := 93) (v := (2, 133)) q_288_334 (js_Fo qy_288 qf_12_413) js_o83 rfl rfl rfl rfl).trans <| (j_iload q_288_337 rfl).trans <| (j_iaload q_288_339 js_o133).trans <| js_itp fun g0 => (j_iastore q_288_340 js_o126).trans <| js_itp fun g1 => (j_iinc (l2 := [(2, 83), (0, x1), (0, x2), (0, x3), (0, x4), (0, x5), (0, x6), (0, x7), (0, x8), (0, x9), (0, x10 + 1), ux11, ux12, ux13]) q_288_341 rfl rfl).trans <| (j_goto (t := 315) q_288_344 rfl).trans <| rfl) ((j_iload q_288_347 rfl).trans <| (j_ifeq (t := 357) q_288_349 rfl).trans (js_ite ((j_iconst q_288_357).trans <| j_ireturn q_288_358 qr_288) ((j_iload q_288_352 rfl).trans <| (j_goto (t := 358) q_288_354 rfl).trans <| j_ireturn q_288_358 qr_288))))
-- 289: VitalTwinModel.keepAll ()V
theorem b_289_0 {E : js_E} {d : Nat} {σ : js_S} : js_J E d 289 0 [(2, 83), (9, 0)] [] σ = js_J E d 289 2 [(2, 83), (0, 0)] [] σ :=
  (j_iconst q_289_0).trans <| (j_istore_n (l2 := [(2, 83), (0, 0)]) q_289_1 rfl (Nat.le_of_ble_eq_true rfl)).trans <| rfl
theorem b_289_2 {E : js_E} {d : Nat} {σ : js_S} {x1 : Int} : js_J E d 289 2 [(2, 83), (0, x1)] [] σ = (if js_w x1 < 8192 then (if 0 ≤ js_w x1 ∧ js_w x1 < 8192 then (if 0 ≤ js_w x1 ∧ js_w x1 < 8196 then js_J E d 289 2 [(2, 83), (0, x1 + 1)] [] (js_up σ 131 (js_w x1) (σ 120 (js_w x1))) else none) else none) else js_J E d 289 29 [(2, 83), (0, 0)] [] σ) :=
  (j_iload_n q_289_2 rfl).trans <| (j_si q_289_3 rfl).trans <| (j_cmpgeB (t := 27) q_289_6 rfl ww_8192).trans (js_ite ((j_aload_n q_289_9 rfl).trans <| (j_get (ji := 91) (v := (2, 131)) q_289_10 (js_Fo qy_289 qf_12_407) js_o83 rfl rfl rfl rfl).trans <| (j_iload_n q_289_13 rfl).trans <| (j_aload_n q_289_14 rfl).trans <| (j_get (ji := 71) (v := (2, 120)) q_289_15 (js_Fo qy_289 qf_12_374) js_o83 rfl rfl rfl rfl).trans <| (j_iload_n q_289_18 rfl).trans <| (j_laload q_289_19 js_o120).trans <| js_itp fun g0 => (j_lastore q_289_20 js_o131).trans <| js_itp fun g1 => (j_iinc (l2 := [(2, 83), (0, x1 + 1)]) q_289_21 rfl rfl).trans <| (j_goto (t := 2) q_289_24 rfl).trans <| rfl) ((j_iconst q_289_27).trans <| (j_istore_n (l2 := [(2, 83), (0, 0)]) q_289_28 rfl (Nat.le_of_ble_eq_true rfl)).trans <| rfl))
theorem b_289_29 {E : js_E} {d : Nat} {σ : js_S} {x1 : Int} : js_J E d 289 29 [(2, 83), (0, x1)] [] σ = (if js_w x1 < 2 then (if 0 ≤ js_w x1 ∧ js_w x1 < 2 then (if 0 ≤ js_w (8192 + x1) ∧ js_w (8192 + x1) < 8196 then (if 0 ≤ js_w (8194 + x1) ∧ js_w (8194 + x1) < 8196 then js_J E d 289 29 [(2, 83), (0, x1 + 1)] [] (js_up (js_up σ 131 (js_w (8192 + x1)) (σ 121 (js_w x1))) 131 (js_w (8194 + x1)) (σ 122 (js_w x1))) else none) else none) else none) else js_r0 E σ) :=
  (j_iload_n q_289_29 rfl).trans <| (j_iconst q_289_30).trans <| (j_cmpgeB (t := 72) q_289_31 rfl ww_2).trans (js_ite ((j_aload_n q_289_34 rfl).trans <| (j_get (ji := 91) (v := (2, 131)) q_289_35 (js_Fo qy_289 qf_12_407) js_o83 rfl rfl rfl rfl).trans <| (j_si q_289_38 rfl).trans <| (j_iload_n q_289_41 rfl).trans <| (j_iadd q_289_42).trans <| (j_aload_n q_289_43 rfl).trans <| (j_get (ji := 72) (v := (2, 121)) q_289_44 (js_Fo qy_289 qf_12_377) js_o83 rfl rfl rfl rfl).trans <| (j_iload_n q_289_47 rfl).trans <| (j_laload q_289_48 js_o121).trans <| js_itp fun g0 => (j_lastore q_289_49 js_o131).trans <| js_itp fun g1 => (j_aload_n q_289_50 rfl).trans <| (j_get (ji := 91) (v := (2, 131)) q_289_51 (js_Fo qy_289 qf_12_407) js_o83 rfl rfl rfl rfl).trans <| (j_si q_289_54 rfl).trans <| (j_iload_n q_289_57 rfl).trans <| (j_iadd q_289_58).trans <| (j_aload_n q_289_59 rfl).trans <| (j_get (ji := 73) (v := (2, 122)) q_289_60 (js_Fo qy_289 qf_12_380) js_o83 rfl rfl rfl rfl).trans <| (j_iload_n q_289_63 rfl).trans <| (j_laloadv q_289_64 js_o122 ((js_up_na _ (by decide)))).trans <| (if_pos g0).trans <| (j_lastore q_289_65 js_o131).trans <| js_itp fun g2 => (j_iinc (l2 := [(2, 83), (0, x1 + 1)]) q_289_66 rfl rfl).trans <| (j_goto (t := 29) q_289_69 rfl).trans <| rfl) (j_return q_289_72 qr_289))
-- 290: VitalTwinModel.bringAll (II)V
theorem b_290_0 {E : js_E} {d : Nat} {σ : js_S} {x1 x2 : Int} : js_J E d 290 0 [(2, 83), (0, x1), (0, x2), (9, 0)] [] σ = js_J E d 290 2 [(2, 83), (0, x1), (0, x2), (0, 0)] [] σ :=
  (j_iconst q_290_0).trans <| (j_istore_n (l2 := [(2, 83), (0, x1), (0, x2), (0, 0)]) q_290_1 rfl (Nat.le_of_ble_eq_true rfl)).trans <| rfl
theorem b_290_2 {E : js_E} {d : Nat} {σ : js_S} {x1 x2 x3 : Int} : js_J E d 290 2 [(2, 83), (0, x1), (0, x2), (0, x3)] [] σ = (if js_w x3 < 8192 then (if 0 ≤ js_w x3 ∧ js_w x3 < 8196 then (if 0 ≤ js_w x3 ∧ js_w x3 < 8192 then js_J E d 290 2 [(2, 83), (0, x1), (0, x2), (0, x3 + 1)] [] (js_up σ 120 (js_w x3) (σ 131 (js_w x3))) else none) else none) else js_J E d 290 29 [(2, 83), (0, x1), (0, x2), (0, 0)] [] σ) :=
  (j_iload_n q_290_2 rfl).trans <| (j_si q_290_3 rfl).trans <| (j_cmpgeB (t := 27) q_290_6 rfl ww_8192).trans (js_ite ((j_aload_n q_290_9 rfl).trans <| (j_get (ji := 71) (v := (2, 120)) q_290_10 (js_Fo qy_290 qf_12_374) js_o83 rfl rfl rfl rfl).trans <| (j_iload_n q_290_13 rfl).trans <| (j_aload_n q_290_14 rfl).trans <| (j_get (ji := 91) (v := (2, 131)) q_290_15 (js_Fo qy_290 qf_12_407) js_o83 rfl rfl rfl rfl).trans <| (j_iload_n q_290_18 rfl).trans <| (j_laload q_290_19 js_o131).trans <| js_itp fun g0 => (j_lastore q_290_20 js_o120).trans <| js_itp fun g1 => (j_iinc (l2 := [(2, 83), (0, x1), (0, x2), (0, x3 + 1)]) q_290_21 rfl rfl).trans <| (j_goto (t := 2) q_290_24 rfl).trans <| rfl) ((j_iconst q_290_27).trans <| (j_istore_n (l2 := [(2, 83), (0, x1), (0, x2), (0, 0)]) q_290_28 rfl (Nat.le_of_ble_eq_true rfl)).trans <| rfl))
theorem b_290_29 {E : js_E} {d : Nat} {σ : js_S} {x1 x2 x3 : Int} : js_J E d 290 29 [(2, 83), (0, x1), (0, x2), (0, x3)] [] σ = (if js_w x3 < 2 then (if 0 ≤ js_w (8192 + x3) ∧ js_w (8192 + x3) < 8196 then (if 0 ≤ js_w x3 ∧ js_w x3 < 2 then (if 0 ≤ js_w (8194 + x3) ∧ js_w (8194 + x3) < 8196 then js_J E d 290 29 [(2, 83), (0, x1), (0, x2), (0, x3 + 1)] [] (js_up (js_up σ 121 (js_w x3) (σ 131 (js_w (8192 + x3)))) 122 (js_w x3) (σ 131 (js_w (8194 + x3)))) else none) else none) else none) else js_J E d 290 73 [(2, 83), (0, x1), (0, x2), (0, x3)] [(2, 83)] σ) :=
  (j_iload_n q_290_29 rfl).trans <| (j_iconst q_290_30).trans <| (j_cmpgeB (t := 72) q_290_31 rfl ww_2).trans (js_ite ((j_aload_n q_290_34 rfl).trans <| (j_get (ji := 72) (v := (2, 121)) q_290_35 (js_Fo qy_290 qf_12_377) js_o83 rfl rfl rfl rfl).trans <| (j_iload_n q_290_38 rfl).trans <| (j_aload_n q_290_39 rfl).trans <| (j_get (ji := 91) (v := (2, 131)) q_290_40 (js_Fo qy_290 qf_12_407) js_o83 rfl rfl rfl rfl).trans <| (j_si q_290_43 rfl).trans <| (j_iload_n q_290_46 rfl).trans <| (j_iadd q_290_47).trans <| (j_laload q_290_48 js_o131).trans <| js_itp fun g0 => (j_lastore q_290_49 js_o121).trans <| js_itp fun g1 => (j_aload_n q_290_50 rfl).trans <| (j_get (ji := 73) (v := (2, 122)) q_290_51 (js_Fo qy_290 qf_12_380) js_o83 rfl rfl rfl rfl).trans <| (j_iload_n q_290_54 rfl).trans <| (j_aload_n q_290_55 rfl).trans <| (j_get (ji := 91) (v := (2, 131)) q_290_56 (js_Fo qy_290 qf_12_407) js_o83 rfl rfl rfl rfl).trans <| (j_si q_290_59 rfl).trans <| (j_iload_n q_290_62 rfl).trans <| (j_iadd q_290_63).trans <| (j_laloadv q_290_64 js_o131 ((js_up_na _ (by decide)))).trans <| js_itp fun g2 => (j_lastore q_290_65 js_o122).trans <| (if_pos g1).trans <| (j_iinc (l2 := [(2, 83), (0, x1), (0, x2), (0, x3 + 1)]) q_290_66 rfl rfl).trans <| (j_goto (t := 29) q_290_69 rfl).trans <| rfl) ((j_aload_n q_290_72 rfl).trans <| rfl))
theorem k_290_73 {E : js_E} {d : Nat} {σ σ2 : js_S} {x1 x2 x3 : Int} (hd : 1 ≤ d) (hz : js_J E (d - 1) 274 0 [(2, 83)] [] σ = js_r0 E σ2) : js_J E d 290 73 [(2, 83), (0, x1), (0, x2), (0, x3)] [(2, 83)] σ = js_J E d 290 76 [(2, 83), (0, x1), (0, x2), (0, x3)] [] σ2 :=
  j_call0 (m := 0) (js_caV q_290_73 (js_Mo qy_290 qm_12_597)) (js_agV (av := []) (st := []) rfl rfl js_o83 rfl) rfl rfl (by rw [ql_274]; exact Nat.le_of_ble_eq_true rfl) (Nat.le_of_ble_eq_true rfl) hd hz
theorem b_290_76 {E : js_E} {d : Nat} {σ : js_S} {x1 x2 x3 : Int} : js_J E d 290 76 [(2, 83), (0, x1), (0, x2), (0, x3)] [] σ = js_r0 E (js_up (js_up (js_up σ 83 81 0) 83 82 x1) 83 83 x2) :=
  (j_aload_n q_290_76 rfl).trans <| (j_iconst q_290_77).trans <| (j_putI (ji := 81) q_290_78 (js_Fo qy_290 qf_12_585) rfl js_o83 rfl rfl rfl).trans <| (j_aload_n q_290_81 rfl).trans <| (j_iload_n q_290_82 rfl).trans <| (j_putI (ji := 82) q_290_83 (js_Fo qy_290 qf_12_588) rfl js_o83 rfl rfl rfl).trans <| (j_aload_n q_290_86 rfl).trans <| (j_iload_n q_290_87 rfl).trans <| (j_putI (ji := 83) q_290_88 (js_Fo qy_290 qf_12_591) rfl js_o83 rfl rfl rfl).trans <| j_return q_290_91 qr_290
