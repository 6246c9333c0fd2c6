/-! part 00.0: the JDK's methods behind String.length, charAt, indexOf: names, bytes, words (printed by wip/whole/tools/genzs.py) -/
def zy_coder : MethodName := ⟨"java/lang/String", "coder", "()B"⟩
def zb_coder : ByteArray := ⟨#[0xb2, 0x00, 0x26, 0x99, 0x00, 0x0a, 0x2a, 0xb4, 0x00, 0x0f, 0xa7, 0x00, 0x04, 0x04, 0xac]⟩
def zy_length : MethodName := ⟨"java/lang/String", "length", "()I"⟩
def zb_length : ByteArray := ⟨#[0x2a, 0xb4, 0x00, 0x09, 0xbe, 0x2a, 0xb6, 0x01, 0x4f, 0x7a, 0xac]⟩
def zy_isl : MethodName := ⟨"java/lang/String", "isLatin1", "()Z"⟩
def zb_isl : ByteArray := ⟨#[0xb2, 0x00, 0x26, 0x99, 0x00, 0x0e, 0x2a, 0xb4, 0x00, 0x0f, 0x9a, 0x00, 0x07, 0x04, 0xa7, 0x00, 0x04, 0x03, 0xac]⟩
def zy_pre : MethodName := ⟨"jdk/internal/util/Preconditions", "checkIndex", "(IILjava/util/function/BiFunction;)I"⟩
def zb_pre : ByteArray := ⟨#[0x1a, 0x9b, 0x00, 0x08, 0x1a, 0x1b, 0xa1, 0x00, 0x0a, 0x2c, 0x1a, 0x1b, 0xb8, 0x00, 0x5f, 0xbf, 0x1a, 0xac]⟩
def zy_chk : MethodName := ⟨"java/lang/String", "checkIndex", "(II)V"⟩
def zb_chk : ByteArray := ⟨#[0x1a, 0x1b, 0xb2, 0x04, 0x1d, 0xb8, 0x04, 0x23, 0x57, 0xb1]⟩
def zy_lat : MethodName := ⟨"java/lang/StringLatin1", "charAt", "([BI)C"⟩
def zb_lat : ByteArray := ⟨#[0x1b, 0x2a, 0xbe, 0xb8, 0x00, 0x09, 0x2a, 0x1b, 0x33, 0x11, 0x00, 0xff, 0x7e, 0x92, 0xac]⟩
def zy_at : MethodName := ⟨"java/lang/String", "charAt", "(I)C"⟩
def zb_at : ByteArray := ⟨#[0x2a, 0xb6, 0x01, 0xec, 0x99, 0x00, 0x0c, 0x2a, 0xb4, 0x00, 0x09, 0x1b, 0xb8, 0x01, 0xef, 0xac, 0x2a, 0xb4, 0x00, 0x09, 0x1b, 0xb8, 0x01, 0xf2, 0xac]⟩
def zy_can : MethodName := ⟨"java/lang/StringLatin1", "canEncode", "(I)Z"⟩
def zb_can : ByteArray := ⟨#[0x1a, 0x9b, 0x00, 0x0e, 0x1a, 0x11, 0x00, 0xff, 0xa3, 0x00, 0x07, 0x04, 0xa7, 0x00, 0x04, 0x03, 0xac]⟩
def zy_ioc : MethodName := ⟨"java/lang/StringLatin1", "indexOfChar", "([BIII)I"⟩
def zb_ioc : ByteArray := ⟨#[0x1b, 0x91, 0x36, 0x04, 0x1c, 0x36, 0x05, 0x15, 0x05, 0x1d, 0xa2, 0x00, 0x15, 0x2a, 0x15, 0x05, 0x33, 0x15, 0x04, 0xa0, 0x00, 0x06, 0x15, 0x05, 0xac, 0x84, 0x05, 0x01, 0xa7, 0xff, 0xeb, 0x02, 0xac]⟩
def zy_lix : MethodName := ⟨"java/lang/StringLatin1", "indexOf", "([BIII)I"⟩
def zb_lix : ByteArray := ⟨#[0x1b, 0xb8, 0x00, 0x58, 0x9a, 0x00, 0x05, 0x02, 0xac, 0x1c, 0x03, 0xb8, 0x00, 0x5c, 0x3d, 0x1d, 0x2a, 0xbe, 0xb8, 0x00, 0x26, 0x3e, 0x1c, 0x1d, 0xa1, 0x00, 0x05, 0x02, 0xac, 0x2a, 0x1b, 0x1c, 0x1d, 0xb8, 0x00, 0x5f, 0xac]⟩
def zy_ix2 : MethodName := ⟨"java/lang/String", "indexOf", "(II)I"⟩
def zb_ix2 : ByteArray := ⟨#[0x2a, 0xb6, 0x01, 0xec, 0x99, 0x00, 0x13, 0x2a, 0xb4, 0x00, 0x09, 0x1b, 0x1c, 0x2a, 0xb6, 0x01, 0xf9, 0xb8, 0x02, 0x7d, 0xa7, 0x00, 0x10, 0x2a, 0xb4, 0x00, 0x09, 0x1b, 0x1c, 0x2a, 0xb6, 0x01, 0xf9, 0xb8, 0x02, 0x80, 0xac]⟩
def zy_ix : MethodName := ⟨"java/lang/String", "indexOf", "(I)I"⟩
def zb_ix : ByteArray := ⟨#[0x2a, 0x1b, 0x03, 0xb6, 0x02, 0x79, 0xac]⟩
def zs_code : List Cond := [.code zy_coder zb_coder 1 (some .byte), .code zy_length zb_length 1 (some .int), .code zy_isl zb_isl 1 (some .boolean), .code zy_pre zb_pre 3 (some .int), .code zy_chk zb_chk 2 none, .code zy_lat zb_lat 2 (some .char), .code zy_at zb_at 2 (some .char), .code zy_can zb_can 1 (some .boolean), .code zy_ioc zb_ioc 6 (some .int), .code zy_lix zb_lix 4 (some .int), .code zy_ix2 zb_ix2 3 (some .int), .code zy_ix zb_ix 2 (some .int)]
def zs_fl : List Cond := [.fieldLink "java/lang/String" 9 "java/lang/String" "value" "[B", .fieldLink "java/lang/String" 15 "java/lang/String" "coder" "B", .fieldLink "java/lang/String" 38 "java/lang/String" "COMPACT_STRINGS" "Z", .fieldLink "java/lang/String" 1053 "jdk/internal/util/Preconditions" "SIOOBE_FORMATTER" "Ljava/util/function/BiFunction;"]
def zs_ml : List Cond := [.methodLink "java/lang/String" 335 zy_coder, .methodLink "java/lang/String" 492 zy_isl, .methodLink "java/lang/String" 1059 zy_pre, .methodLink "java/lang/StringLatin1" 9 zy_chk, .methodLink "java/lang/String" 495 zy_lat, .methodLink "java/lang/StringLatin1" 88 zy_can, .methodLink "java/lang/StringLatin1" 92 Lib.Math.max.name, .methodLink "java/lang/StringLatin1" 38 Lib.Math.min.name, .methodLink "java/lang/StringLatin1" 95 zy_ioc, .methodLink "java/lang/String" 505 zy_length, .methodLink "java/lang/String" 637 zy_lix, .methodLink "java/lang/String" 633 zy_ix2]
def zs_kd : List Cond := [.static zy_pre, .static zy_chk, .static zy_lat, .static zy_can, .static zy_ioc, .static zy_lix, .instanceMethod zy_coder, .instanceMethod zy_length, .instanceMethod zy_isl, .instanceMethod zy_at, .instanceMethod zy_ix2, .instanceMethod zy_ix, .selects "java/lang/String" zy_coder zy_coder, .selects "java/lang/String" zy_length zy_length, .selects "java/lang/String" zy_isl zy_isl, .selects "java/lang/String" zy_at zy_at, .selects "java/lang/String" zy_ix2 zy_ix2, .selects "java/lang/String" zy_ix zy_ix, .initialized "java/lang/String", .initialized "java/lang/StringLatin1", .initialized "jdk/internal/util/Preconditions", .initialized "java/lang/Math", .static Lib.Math.max.name, .static Lib.Math.min.name, .code Lib.Math.max.name Lib.Math.max.code 2 (some .int), .code Lib.Math.min.name Lib.Math.min.code 2 (some .int)]
def zs_L : List Cond := zs_code ++ (zs_fl ++ (zs_ml ++ zs_kd))
theorem zd_coder_0 : decode zb_coder 0 = .ok (.getstatic 38, 3) := by decide +kernel
theorem zd_coder_3 : decode zb_coder 3 = .ok (.ifCond .eq 10, 3) := by decide +kernel
theorem zd_coder_6 : decode zb_coder 6 = .ok (.aload_n 0, 1) := by decide +kernel
theorem zd_coder_7 : decode zb_coder 7 = .ok (.getfield 15, 3) := by decide +kernel
theorem zd_coder_10 : decode zb_coder 10 = .ok (.goto 4, 3) := by decide +kernel
theorem zd_coder_14 : decode zb_coder 14 = .ok (.ireturn, 1) := by decide +kernel
theorem zd_length_0 : decode zb_length 0 = .ok (.aload_n 0, 1) := by decide +kernel
theorem zd_length_1 : decode zb_length 1 = .ok (.getfield 9, 3) := by decide +kernel
theorem zd_length_4 : decode zb_length 4 = .ok (.arraylength, 1) := by decide +kernel
theorem zd_length_5 : decode zb_length 5 = .ok (.aload_n 0, 1) := by decide +kernel
theorem zd_length_6 : decode zb_length 6 = .ok (.invokevirtual 335, 3) := by decide +kernel
theorem zd_length_9 : decode zb_length 9 = .ok (.ishr, 1) := by decide +kernel
theorem zd_length_10 : decode zb_length 10 = .ok (.ireturn, 1) := by decide +kernel
theorem zd_isl_0 : decode zb_isl 0 = .ok (.getstatic 38, 3) := by decide +kernel
theorem zd_isl_3 : decode zb_isl 3 = .ok (.ifCond .eq 14, 3) := by decide +kernel
theorem zd_isl_6 : decode zb_isl 6 = .ok (.aload_n 0, 1) := by decide +kernel
theorem zd_isl_7 : decode zb_isl 7 = .ok (.getfield 15, 3) := by decide +kernel
theorem zd_isl_10 : decode zb_isl 10 = .ok (.ifCond .ne 7, 3) := by decide +kernel
theorem zd_isl_13 : decode zb_isl 13 = .ok (.iconst 1, 1) := by decide +kernel
theorem zd_isl_14 : decode zb_isl 14 = .ok (.goto 4, 3) := by decide +kernel
theorem zd_isl_18 : decode zb_isl 18 = .ok (.ireturn, 1) := by decide +kernel
theorem zd_pre_0 : decode zb_pre 0 = .ok (.iload_n 0, 1) := by decide +kernel
theorem zd_pre_1 : decode zb_pre 1 = .ok (.ifCond .lt 8, 3) := by decide +kernel
theorem zd_pre_4 : decode zb_pre 4 = .ok (.iload_n 0, 1) := by decide +kernel
theorem zd_pre_5 : decode zb_pre 5 = .ok (.iload_n 1, 1) := by decide +kernel
theorem zd_pre_6 : decode zb_pre 6 = .ok (.if_icmp .lt 10, 3) := by decide +kernel
theorem zd_pre_16 : decode zb_pre 16 = .ok (.iload_n 0, 1) := by decide +kernel
theorem zd_pre_17 : decode zb_pre 17 = .ok (.ireturn, 1) := by decide +kernel
theorem zd_chk_0 : decode zb_chk 0 = .ok (.iload_n 0, 1) := by decide +kernel
theorem zd_chk_1 : decode zb_chk 1 = .ok (.iload_n 1, 1) := by decide +kernel
theorem zd_chk_2 : decode zb_chk 2 = .ok (.getstatic 1053, 3) := by decide +kernel
theorem zd_chk_5 : decode zb_chk 5 = .ok (.invokestatic 1059, 3) := by decide +kernel
theorem zd_chk_8 : decode zb_chk 8 = .ok (.pop, 1) := by decide +kernel
theorem zd_chk_9 : decode zb_chk 9 = .ok (.return_, 1) := by decide +kernel
theorem zd_lat_0 : decode zb_lat 0 = .ok (.iload_n 1, 1) := by decide +kernel
theorem zd_lat_1 : decode zb_lat 1 = .ok (.aload_n 0, 1) := by decide +kernel
theorem zd_lat_2 : decode zb_lat 2 = .ok (.arraylength, 1) := by decide +kernel
theorem zd_lat_3 : decode zb_lat 3 = .ok (.invokestatic 9, 3) := by decide +kernel
theorem zd_lat_6 : decode zb_lat 6 = .ok (.aload_n 0, 1) := by decide +kernel
theorem zd_lat_7 : decode zb_lat 7 = .ok (.iload_n 1, 1) := by decide +kernel
theorem zd_lat_8 : decode zb_lat 8 = .ok (.baload, 1) := by decide +kernel
theorem zd_lat_9 : decode zb_lat 9 = .ok (.sipush 255, 3) := by decide +kernel
theorem zd_lat_12 : decode zb_lat 12 = .ok (.iand, 1) := by decide +kernel
theorem zd_lat_13 : decode zb_lat 13 = .ok (.i2c, 1) := by decide +kernel
theorem zd_lat_14 : decode zb_lat 14 = .ok (.ireturn, 1) := by decide +kernel
theorem zd_at_0 : decode zb_at 0 = .ok (.aload_n 0, 1) := by decide +kernel
theorem zd_at_1 : decode zb_at 1 = .ok (.invokevirtual 492, 3) := by decide +kernel
theorem zd_at_4 : decode zb_at 4 = .ok (.ifCond .eq 12, 3) := by decide +kernel
theorem zd_at_7 : decode zb_at 7 = .ok (.aload_n 0, 1) := by decide +kernel
theorem zd_at_8 : decode zb_at 8 = .ok (.getfield 9, 3) := by decide +kernel
theorem zd_at_11 : decode zb_at 11 = .ok (.iload_n 1, 1) := by decide +kernel
theorem zd_at_12 : decode zb_at 12 = .ok (.invokestatic 495, 3) := by decide +kernel
theorem zd_at_15 : decode zb_at 15 = .ok (.ireturn, 1) := by decide +kernel
theorem zd_can_0 : decode zb_can 0 = .ok (.iload_n 0, 1) := by decide +kernel
theorem zd_can_1 : decode zb_can 1 = .ok (.ifCond .lt 14, 3) := by decide +kernel
theorem zd_can_4 : decode zb_can 4 = .ok (.iload_n 0, 1) := by decide +kernel
theorem zd_can_5 : decode zb_can 5 = .ok (.sipush 255, 3) := by decide +kernel
theorem zd_can_8 : decode zb_can 8 = .ok (.if_icmp .gt 7, 3) := by decide +kernel
theorem zd_can_11 : decode zb_can 11 = .ok (.iconst 1, 1) := by decide +kernel
theorem zd_can_12 : decode zb_can 12 = .ok (.goto 4, 3) := by decide +kernel
theorem zd_can_16 : decode zb_can 16 = .ok (.ireturn, 1) := by decide +kernel
theorem zd_ioc_0 : decode zb_ioc 0 = .ok (.iload_n 1, 1) := by decide +kernel
theorem zd_ioc_1 : decode zb_ioc 1 = .ok (.i2b, 1) := by decide +kernel
theorem zd_ioc_2 : decode zb_ioc 2 = .ok (.istore 4, 2) := by decide +kernel
theorem zd_ioc_4 : decode zb_ioc 4 = .ok (.iload_n 2, 1) := by decide +kernel
theorem zd_ioc_5 : decode zb_ioc 5 = .ok (.istore 5, 2) := by decide +kernel
theorem zd_ioc_7 : decode zb_ioc 7 = .ok (.iload 5, 2) := by decide +kernel
theorem zd_ioc_9 : decode zb_ioc 9 = .ok (.iload_n 3, 1) := by decide +kernel
theorem zd_ioc_10 : decode zb_ioc 10 = .ok (.if_icmp .ge 21, 3) := by decide +kernel
theorem zd_ioc_13 : decode zb_ioc 13 = .ok (.aload_n 0, 1) := by decide +kernel
theorem zd_ioc_14 : decode zb_ioc 14 = .ok (.iload 5, 2) := by decide +kernel
theorem zd_ioc_16 : decode zb_ioc 16 = .ok (.baload, 1) := by decide +kernel
theorem zd_ioc_17 : decode zb_ioc 17 = .ok (.iload 4, 2) := by decide +kernel
theorem zd_ioc_19 : decode zb_ioc 19 = .ok (.if_icmp .ne 6, 3) := by decide +kernel
theorem zd_ioc_22 : decode zb_ioc 22 = .ok (.iload 5, 2) := by decide +kernel
theorem zd_ioc_24 : decode zb_ioc 24 = .ok (.ireturn, 1) := by decide +kernel
theorem zd_ioc_25 : decode zb_ioc 25 = .ok (.iinc 5 1, 3) := by decide +kernel
theorem zd_ioc_28 : decode zb_ioc 28 = .ok (.goto (-21), 3) := by decide +kernel
theorem zd_ioc_31 : decode zb_ioc 31 = .ok (.iconst (-1), 1) := by decide +kernel
theorem zd_ioc_32 : decode zb_ioc 32 = .ok (.ireturn, 1) := by decide +kernel
theorem zd_lix_0 : decode zb_lix 0 = .ok (.iload_n 1, 1) := by decide +kernel
theorem zd_lix_1 : decode zb_lix 1 = .ok (.invokestatic 88, 3) := by decide +kernel
theorem zd_lix_4 : decode zb_lix 4 = .ok (.ifCond .ne 5, 3) := by decide +kernel
theorem zd_lix_9 : decode zb_lix 9 = .ok (.iload_n 2, 1) := by decide +kernel
theorem zd_lix_10 : decode zb_lix 10 = .ok (.iconst 0, 1) := by decide +kernel
theorem zd_lix_11 : decode zb_lix 11 = .ok (.invokestatic 92, 3) := by decide +kernel
theorem zd_lix_14 : decode zb_lix 14 = .ok (.istore_n 2, 1) := by decide +kernel
theorem zd_lix_15 : decode zb_lix 15 = .ok (.iload_n 3, 1) := by decide +kernel
theorem zd_lix_16 : decode zb_lix 16 = .ok (.aload_n 0, 1) := by decide +kernel
theorem zd_lix_17 : decode zb_lix 17 = .ok (.arraylength, 1) := by decide +kernel
theorem zd_lix_18 : decode zb_lix 18 = .ok (.invokestatic 38, 3) := by decide +kernel
theorem zd_lix_21 : decode zb_lix 21 = .ok (.istore_n 3, 1) := by decide +kernel
theorem zd_lix_22 : decode zb_lix 22 = .ok (.iload_n 2, 1) := by decide +kernel
theorem zd_lix_23 : decode zb_lix 23 = .ok (.iload_n 3, 1) := by decide +kernel
theorem zd_lix_24 : decode zb_lix 24 = .ok (.if_icmp .lt 5, 3) := by decide +kernel
theorem zd_lix_29 : decode zb_lix 29 = .ok (.aload_n 0, 1) := by decide +kernel
theorem zd_lix_30 : decode zb_lix 30 = .ok (.iload_n 1, 1) := by decide +kernel
theorem zd_lix_31 : decode zb_lix 31 = .ok (.iload_n 2, 1) := by decide +kernel
theorem zd_lix_32 : decode zb_lix 32 = .ok (.iload_n 3, 1) := by decide +kernel
theorem zd_lix_33 : decode zb_lix 33 = .ok (.invokestatic 95, 3) := by decide +kernel
theorem zd_lix_36 : decode zb_lix 36 = .ok (.ireturn, 1) := by decide +kernel
theorem zd_ix2_0 : decode zb_ix2 0 = .ok (.aload_n 0, 1) := by decide +kernel
theorem zd_ix2_1 : decode zb_ix2 1 = .ok (.invokevirtual 492, 3) := by decide +kernel
theorem zd_ix2_4 : decode zb_ix2 4 = .ok (.ifCond .eq 19, 3) := by decide +kernel
theorem zd_ix2_7 : decode zb_ix2 7 = .ok (.aload_n 0, 1) := by decide +kernel
theorem zd_ix2_8 : decode zb_ix2 8 = .ok (.getfield 9, 3) := by decide +kernel
theorem zd_ix2_11 : decode zb_ix2 11 = .ok (.iload_n 1, 1) := by decide +kernel
theorem zd_ix2_12 : decode zb_ix2 12 = .ok (.iload_n 2, 1) := by decide +kernel
theorem zd_ix2_13 : decode zb_ix2 13 = .ok (.aload_n 0, 1) := by decide +kernel
theorem zd_ix2_14 : decode zb_ix2 14 = .ok (.invokevirtual 505, 3) := by decide +kernel
theorem zd_ix2_17 : decode zb_ix2 17 = .ok (.invokestatic 637, 3) := by decide +kernel
theorem zd_ix2_20 : decode zb_ix2 20 = .ok (.goto 16, 3) := by decide +kernel
theorem zd_ix2_36 : decode zb_ix2 36 = .ok (.ireturn, 1) := by decide +kernel
theorem zd_ix_0 : decode zb_ix 0 = .ok (.aload_n 0, 1) := by decide +kernel
theorem zd_ix_1 : decode zb_ix 1 = .ok (.iload_n 1, 1) := by decide +kernel
theorem zd_ix_2 : decode zb_ix 2 = .ok (.iconst 0, 1) := by decide +kernel
theorem zd_ix_3 : decode zb_ix 3 = .ok (.invokevirtual 633, 3) := by decide +kernel
theorem zd_ix_6 : decode zb_ix 6 = .ok (.ireturn, 1) := by decide +kernel
theorem zs_gk : zs_L.all goodWord = true := by decide +kernel
